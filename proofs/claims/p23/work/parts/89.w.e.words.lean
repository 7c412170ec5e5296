set_option maxRecDepth 20000 in
theorem ih_L_isDone : ∀ w ∈ va_wsS RL 135 yL_isDone wsB_isDone, w ∈ lw_tbl := fun w h => (List.mem_append.mp h).elim (fun h => zInP [948, 949, 24] (by decide +kernel) w h) (fun h => iw_wsB_isDone w h)
def wsB_law : List Cond := wsL_law ++ (va_wsS RL 131 yL_isTown wsB_isTown ++ (va_wsS RL 135 yL_isDone wsB_isDone ++ (va_wsS RL 116 yL_part wsL_part ++ (va_wsS RL 113 yL_does wsL_does))))
theorem gL_law_L_isTown : GoodIn wsB_law (va_wsS RL 131 yL_isTown wsB_isTown) := goodIn_sub (fun w h => List.mem_append_right _ (List.mem_append_left _ h)) ga_L_isTown
theorem gL_law_L_isDone : GoodIn wsB_law (va_wsS RL 135 yL_isDone wsB_isDone) := goodIn_sub (fun w h => List.mem_append_right _ (List.mem_append_right _ (List.mem_append_left _ h))) ga_L_isDone
theorem gL_law_L_part : GoodIn wsB_law (va_wsS RL 116 yL_part wsL_part) := goodIn_sub (fun w h => List.mem_append_right _ (List.mem_append_right _ (List.mem_append_right _ (List.mem_append_left _ h)))) ga_L_part
theorem gL_law_L_does : GoodIn wsB_law (va_wsS RL 113 yL_does wsL_does) := goodIn_sub (fun w h => List.mem_append_right _ (List.mem_append_right _ (List.mem_append_right _ (List.mem_append_right _ (h))))) ga_L_does
theorem gB_law_X6_init : GoodIn wsB_law wsX6_init := fun w h => ⟨List.mem_append_left _ (ggL_law_X6_init w h).1, (ggL_law_X6_init w h).2⟩
theorem wsB_law_in : ∀ w ∈ wsB_law, w ∈ lw_tbl := fun w h => (List.mem_append.mp h).elim (fun h => wsL_law_in w h) (fun h => (List.mem_append.mp h).elim (fun h => ih_L_isTown w h) (fun h => (List.mem_append.mp h).elim (fun h => ih_L_isDone w h) (fun h => (List.mem_append.mp h).elim (fun h => ih_L_part w h) (fun h => ih_L_does w h))))

