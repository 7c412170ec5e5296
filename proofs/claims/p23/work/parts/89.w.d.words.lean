set_option maxRecDepth 20000 in
theorem ih_L_asks : ∀ w ∈ va_wsS RL 81 yL_asks wsL_asks, w ∈ lw_tbl := fun w h => (List.mem_append.mp h).elim (fun h => zInP [582, 583, 24] (by decide +kernel) w h) (fun h => iw_wsL_asks w h)
theorem gL_isTown_L_asks : GoodIn wsB_isTown (va_wsS RL 81 yL_asks wsL_asks) := goodIn_sub (fun w h => List.mem_cons_of_mem _ (List.mem_append_right _ (List.mem_append_right _ (List.mem_append_right _ (List.mem_append_right _ (List.mem_append_left _ h)))))) ga_L_asks
set_option maxRecDepth 20000 in
theorem ga_L_isCell : (va_wsS RL 103 yL_isCell wsL_isCell).all goodWord = true := by decide +kernel
set_option maxRecDepth 20000 in
theorem ih_L_isCell : ∀ w ∈ va_wsS RL 103 yL_isCell wsL_isCell, w ∈ lw_tbl := fun w h => (List.mem_append.mp h).elim (fun h => zInP [930, 931, 24] (by decide +kernel) w h) (fun h => iw_wsL_isCell w h)
theorem gL_isTown_L_isCell : GoodIn wsB_isTown (va_wsS RL 103 yL_isCell wsL_isCell) := goodIn_sub (fun w h => List.mem_cons_of_mem _ (List.mem_append_right _ (List.mem_append_right _ (List.mem_append_right _ (List.mem_append_right _ (List.mem_append_right _ (List.mem_append_left _ h))))))) ga_L_isCell
set_option maxRecDepth 20000 in
theorem ga_L_isNet : (va_wsS RL 106 yL_isNet wsL_isNet).all goodWord = true := by decide +kernel
set_option maxRecDepth 20000 in
theorem ih_L_isNet : ∀ w ∈ va_wsS RL 106 yL_isNet wsL_isNet, w ∈ lw_tbl := fun w h => (List.mem_append.mp h).elim (fun h => zInP [942, 943, 24] (by decide +kernel) w h) (fun h => iw_wsL_isNet w h)
theorem gL_isTown_L_isNet : GoodIn wsB_isTown (va_wsS RL 106 yL_isNet wsL_isNet) := goodIn_sub (fun w h => List.mem_cons_of_mem _ (List.mem_append_right _ (List.mem_append_right _ (List.mem_append_right _ (List.mem_append_right _ (List.mem_append_right _ (List.mem_append_right _ (List.mem_append_left _ h)))))))) ga_L_isNet
set_option maxRecDepth 20000 in
theorem ga_L_isSupplied : (va_wsS RL 110 yL_isSupplied wsL_isSupplied).all goodWord = true := by decide +kernel
set_option maxRecDepth 20000 in
theorem ih_L_isSupplied : ∀ w ∈ va_wsS RL 110 yL_isSupplied wsL_isSupplied, w ∈ lw_tbl := fun w h => (List.mem_append.mp h).elim (fun h => zInP [945, 946, 24] (by decide +kernel) w h) (fun h => iw_wsL_isSupplied w h)
theorem gL_isTown_L_isSupplied : GoodIn wsB_isTown (va_wsS RL 110 yL_isSupplied wsL_isSupplied) := goodIn_sub (fun w h => List.mem_cons_of_mem _ (List.mem_append_right _ (List.mem_append_right _ (List.mem_append_right _ (List.mem_append_right _ (List.mem_append_right _ (List.mem_append_right _ (List.mem_append_right _ (h))))))))) ga_L_isSupplied
set_option maxRecDepth 20000 in
theorem iw_wsB_isTown_0 : Cond.code yL_isTown cL_isTown 7 (some .boolean) ∈ lw_tbl := List.mem_of_getElem? (i := 565) (by decide +kernel)
theorem iw_wsB_isTown : ∀ w ∈ wsB_isTown, w ∈ lw_tbl := fun w h => (List.mem_cons.mp h).elim (fun e => e ▸ iw_wsB_isTown_0) (fun h => (List.mem_append.mp h).elim (fun h => wk_in w h) (fun h => (List.mem_append.mp h).elim (fun h => ih_X6_cash w h) (fun h => (List.mem_append.mp h).elim (fun h => ih_X6_debt w h) (fun h => (List.mem_append.mp h).elim (fun h => ih_X6_earned w h) (fun h => (List.mem_append.mp h).elim (fun h => ih_L_asks w h) (fun h => (List.mem_append.mp h).elim (fun h => ih_L_isCell w h) (fun h => (List.mem_append.mp h).elim (fun h => ih_L_isNet w h) (fun h => ih_L_isSupplied w h))))))))
def wsB_isMonth : List Cond := .code yL_isMonth cL_isMonth 12 (some .boolean) :: (([Cond.constant RL 33 (-3000000), Cond.constant RL 36 (-2000000), Cond.constant RL 39 (-1000000), .arrayClass .int] : List Cond) ++ (wsV RL 60 RX6 yX6_placed wsX6_placed ++ (wsV RL 56 RX6 yX6_isServed wsX6_isServed ++ (wsV RL 66 RX6 yX6_value wsX6_value ++ (va_wsS RL 113 yL_does wsL_does ++ (wsV RL 43 RX6 yX6_level wsX6_level))))))
set_option maxRecDepth 20000 in
theorem ga_X6_placed : (wsV RL 60 RX6 yX6_placed wsX6_placed).all goodWord = true := by decide +kernel
set_option maxRecDepth 20000 in
theorem ih_X6_placed : ∀ w ∈ wsV RL 60 RX6 yX6_placed wsX6_placed, w ∈ lw_tbl := fun w h => (List.mem_append.mp h).elim (fun h => zInP [902, 903, 904, 25] (by decide +kernel) w h) (fun h => iw_wsX6_placed w h)
theorem gL_isMonth_X6_placed : GoodIn wsB_isMonth (wsV RL 60 RX6 yX6_placed wsX6_placed) := goodIn_sub (fun w h => List.mem_cons_of_mem _ (List.mem_append_right _ (List.mem_append_left _ h))) ga_X6_placed
set_option maxRecDepth 20000 in
theorem ga_X6_isServed : (wsV RL 56 RX6 yX6_isServed wsX6_isServed).all goodWord = true := by decide +kernel
set_option maxRecDepth 20000 in
theorem ih_X6_isServed : ∀ w ∈ wsV RL 56 RX6 yX6_isServed wsX6_isServed, w ∈ lw_tbl := fun w h => (List.mem_append.mp h).elim (fun h => zInP [898, 899, 900, 25] (by decide +kernel) w h) (fun h => iw_wsX6_isServed w h)
theorem gL_isMonth_X6_isServed : GoodIn wsB_isMonth (wsV RL 56 RX6 yX6_isServed wsX6_isServed) := goodIn_sub (fun w h => List.mem_cons_of_mem _ (List.mem_append_right _ (List.mem_append_right _ (List.mem_append_left _ h)))) ga_X6_isServed
set_option maxRecDepth 20000 in
theorem ga_X6_value : (wsV RL 66 RX6 yX6_value wsX6_value).all goodWord = true := by decide +kernel
set_option maxRecDepth 20000 in
theorem ih_X6_value : ∀ w ∈ wsV RL 66 RX6 yX6_value wsX6_value, w ∈ lw_tbl := fun w h => (List.mem_append.mp h).elim (fun h => zInP [910, 911, 912, 25] (by decide +kernel) w h) (fun h => iw_wsX6_value w h)
theorem gL_isMonth_X6_value : GoodIn wsB_isMonth (wsV RL 66 RX6 yX6_value wsX6_value) := goodIn_sub (fun w h => List.mem_cons_of_mem _ (List.mem_append_right _ (List.mem_append_right _ (List.mem_append_right _ (List.mem_append_left _ h))))) ga_X6_value
set_option maxRecDepth 20000 in
theorem ga_L_does : (va_wsS RL 113 yL_does wsL_does).all goodWord = true := by decide +kernel
set_option maxRecDepth 20000 in
theorem ih_L_does : ∀ w ∈ va_wsS RL 113 yL_does wsL_does, w ∈ lw_tbl := fun w h => (List.mem_append.mp h).elim (fun h => zInP [199, 200, 24] (by decide +kernel) w h) (fun h => iw_wsL_does w h)
theorem gL_isMonth_L_does : GoodIn wsB_isMonth (va_wsS RL 113 yL_does wsL_does) := goodIn_sub (fun w h => List.mem_cons_of_mem _ (List.mem_append_right _ (List.mem_append_right _ (List.mem_append_right _ (List.mem_append_right _ (List.mem_append_left _ h)))))) ga_L_does
set_option maxRecDepth 20000 in
theorem ga_X6_level : (wsV RL 43 RX6 yX6_level wsX6_level).all goodWord = true := by decide +kernel
set_option maxRecDepth 20000 in
theorem ih_X6_level : ∀ w ∈ wsV RL 43 RX6 yX6_level wsX6_level, w ∈ lw_tbl := fun w h => (List.mem_append.mp h).elim (fun h => zInP [589, 590, 591, 25] (by decide +kernel) w h) (fun h => iw_wsX6_level w h)
theorem gL_isMonth_X6_level : GoodIn wsB_isMonth (wsV RL 43 RX6 yX6_level wsX6_level) := goodIn_sub (fun w h => List.mem_cons_of_mem _ (List.mem_append_right _ (List.mem_append_right _ (List.mem_append_right _ (List.mem_append_right _ (List.mem_append_right _ (h))))))) ga_X6_level
set_option maxRecDepth 20000 in
theorem iw_wsB_isMonth_0 : Cond.code yL_isMonth cL_isMonth 12 (some .boolean) ∈ lw_tbl := List.mem_of_getElem? (i := 959) (by decide +kernel)
theorem iw_wsB_isMonth : ∀ w ∈ wsB_isMonth, w ∈ lw_tbl := fun w h => (List.mem_cons.mp h).elim (fun e => e ▸ iw_wsB_isMonth_0) (fun h => (List.mem_append.mp h).elim (fun h => wk_in w h) (fun h => (List.mem_append.mp h).elim (fun h => ih_X6_placed w h) (fun h => (List.mem_append.mp h).elim (fun h => ih_X6_isServed w h) (fun h => (List.mem_append.mp h).elim (fun h => ih_X6_value w h) (fun h => (List.mem_append.mp h).elim (fun h => ih_L_does w h) (fun h => ih_X6_level w h))))))
def wsB_isMoney : List Cond := .code yL_isMoney cL_isMoney 7 (some .boolean) :: (([Cond.constant RL 33 (-3000000), Cond.constant RL 36 (-2000000), Cond.constant RL 39 (-1000000), .arrayClass .int] : List Cond) ++ (va_wsS RL 113 yL_does wsL_does))
theorem gL_isMoney_L_does : GoodIn wsB_isMoney (va_wsS RL 113 yL_does wsL_does) := goodIn_sub (fun w h => List.mem_cons_of_mem _ (List.mem_append_right _ (h))) ga_L_does
set_option maxRecDepth 20000 in
theorem iw_wsB_isMoney_0 : Cond.code yL_isMoney cL_isMoney 7 (some .boolean) ∈ lw_tbl := List.mem_of_getElem? (i := 956) (by decide +kernel)
theorem iw_wsB_isMoney : ∀ w ∈ wsB_isMoney, w ∈ lw_tbl := fun w h => (List.mem_cons.mp h).elim (fun e => e ▸ iw_wsB_isMoney_0) (fun h => (List.mem_append.mp h).elim (fun h => wk_in w h) (fun h => ih_L_does w h))
def wsB_isDone : List Cond := .code yL_isDone cL_isDone 12 (some .boolean) :: (([Cond.constant RL 33 (-3000000), Cond.constant RL 36 (-2000000), Cond.constant RL 39 (-1000000), .arrayClass .int] : List Cond) ++ (va_wsS RL 116 yL_part wsL_part ++ (va_wsS RL 120 yL_costOf wsL_costOf ++ (va_wsS RL 113 yL_does wsL_does ++ (va_wsS RL 123 yL_isMoney wsB_isMoney ++ (va_wsS RL 126 yL_isMonth wsB_isMonth))))))
set_option maxRecDepth 20000 in
theorem ga_L_part : (va_wsS RL 116 yL_part wsL_part).all goodWord = true := by decide +kernel
set_option maxRecDepth 20000 in
theorem ih_L_part : ∀ w ∈ va_wsS RL 116 yL_part wsL_part, w ∈ lw_tbl := fun w h => (List.mem_append.mp h).elim (fun h => zInP [195, 196, 24] (by decide +kernel) w h) (fun h => iw_wsL_part w h)
theorem gL_isDone_L_part : GoodIn wsB_isDone (va_wsS RL 116 yL_part wsL_part) := goodIn_sub (fun w h => List.mem_cons_of_mem _ (List.mem_append_right _ (List.mem_append_left _ h))) ga_L_part
set_option maxRecDepth 20000 in
theorem ga_L_costOf : (va_wsS RL 120 yL_costOf wsL_costOf).all goodWord = true := by decide +kernel
set_option maxRecDepth 20000 in
theorem ih_L_costOf : ∀ w ∈ va_wsS RL 120 yL_costOf wsL_costOf, w ∈ lw_tbl := fun w h => (List.mem_append.mp h).elim (fun h => zInP [951, 952, 24] (by decide +kernel) w h) (fun h => iw_wsL_costOf w h)
theorem gL_isDone_L_costOf : GoodIn wsB_isDone (va_wsS RL 120 yL_costOf wsL_costOf) := goodIn_sub (fun w h => List.mem_cons_of_mem _ (List.mem_append_right _ (List.mem_append_right _ (List.mem_append_left _ h)))) ga_L_costOf
theorem gL_isDone_L_does : GoodIn wsB_isDone (va_wsS RL 113 yL_does wsL_does) := goodIn_sub (fun w h => List.mem_cons_of_mem _ (List.mem_append_right _ (List.mem_append_right _ (List.mem_append_right _ (List.mem_append_left _ h))))) ga_L_does
set_option maxRecDepth 20000 in
theorem ga_L_isMoney : (va_wsS RL 123 yL_isMoney wsB_isMoney).all goodWord = true := by decide +kernel
set_option maxRecDepth 20000 in
theorem ih_L_isMoney : ∀ w ∈ va_wsS RL 123 yL_isMoney wsB_isMoney, w ∈ lw_tbl := fun w h => (List.mem_append.mp h).elim (fun h => zInP [954, 955, 24] (by decide +kernel) w h) (fun h => iw_wsB_isMoney w h)
theorem gL_isDone_L_isMoney : GoodIn wsB_isDone (va_wsS RL 123 yL_isMoney wsB_isMoney) := goodIn_sub (fun w h => List.mem_cons_of_mem _ (List.mem_append_right _ (List.mem_append_right _ (List.mem_append_right _ (List.mem_append_right _ (List.mem_append_left _ h)))))) ga_L_isMoney
set_option maxRecDepth 20000 in
theorem ga_L_isMonth : (va_wsS RL 126 yL_isMonth wsB_isMonth).all goodWord = true := by decide +kernel
set_option maxRecDepth 20000 in
theorem ih_L_isMonth : ∀ w ∈ va_wsS RL 126 yL_isMonth wsB_isMonth, w ∈ lw_tbl := fun w h => (List.mem_append.mp h).elim (fun h => zInP [957, 958, 24] (by decide +kernel) w h) (fun h => iw_wsB_isMonth w h)
theorem gL_isDone_L_isMonth : GoodIn wsB_isDone (va_wsS RL 126 yL_isMonth wsB_isMonth) := goodIn_sub (fun w h => List.mem_cons_of_mem _ (List.mem_append_right _ (List.mem_append_right _ (List.mem_append_right _ (List.mem_append_right _ (List.mem_append_right _ (h))))))) ga_L_isMonth
set_option maxRecDepth 20000 in
theorem iw_wsB_isDone_0 : Cond.code yL_isDone cL_isDone 12 (some .boolean) ∈ lw_tbl := List.mem_of_getElem? (i := 950) (by decide +kernel)
theorem iw_wsB_isDone : ∀ w ∈ wsB_isDone, w ∈ lw_tbl := fun w h => (List.mem_cons.mp h).elim (fun e => e ▸ iw_wsB_isDone_0) (fun h => (List.mem_append.mp h).elim (fun h => wk_in w h) (fun h => (List.mem_append.mp h).elim (fun h => ih_L_part w h) (fun h => (List.mem_append.mp h).elim (fun h => ih_L_costOf w h) (fun h => (List.mem_append.mp h).elim (fun h => ih_L_does w h) (fun h => (List.mem_append.mp h).elim (fun h => ih_L_isMoney w h) (fun h => ih_L_isMonth w h))))))
set_option maxRecDepth 20000 in
theorem ga_L_isTown : (va_wsS RL 131 yL_isTown wsB_isTown).all goodWord = true := by decide +kernel
set_option maxRecDepth 20000 in
theorem ih_L_isTown : ∀ w ∈ va_wsS RL 131 yL_isTown wsB_isTown, w ∈ lw_tbl := fun w h => (List.mem_append.mp h).elim (fun h => zInP [563, 564, 24] (by decide +kernel) w h) (fun h => iw_wsB_isTown w h)
set_option maxRecDepth 20000 in
theorem ga_L_isDone : (va_wsS RL 135 yL_isDone wsB_isDone).all goodWord = true := by decide +kernel
