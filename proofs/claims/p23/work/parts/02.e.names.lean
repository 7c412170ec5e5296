set_option maxRecDepth 20000 in
theorem w_wsL_law0_r26_0 : Cond.methodLink RX1 49 yX4_set ∈ lw_tbl := List.mem_of_getElem? (i := 420) (by decide +kernel)
set_option maxRecDepth 20000 in
theorem w_wsL_law0_r26_1 : Cond.methodLink RX1 52 yX3_count ∈ lw_tbl := List.mem_of_getElem? (i := 421) (by decide +kernel)
set_option maxRecDepth 20000 in
theorem w_wsL_law0_r26_2 : Cond.instanceMethod yX3_count ∈ lw_tbl := List.mem_of_getElem? (i := 422) (by decide +kernel)
set_option maxRecDepth 20000 in
theorem w_wsL_law0_r26_3 : Cond.selects RX3 yX3_count yX3_count ∈ lw_tbl := List.mem_of_getElem? (i := 423) (by decide +kernel)
set_option maxRecDepth 20000 in
theorem w_wsL_law0_r26_4 : Cond.code yX3_count cX3_count 1 (some .int) ∈ lw_tbl := List.mem_of_getElem? (i := 424) (by decide +kernel)
set_option maxRecDepth 20000 in
theorem w_wsL_law0_r26_5 : Cond.methodLink RX1 58 yX1_place ∈ lw_tbl := List.mem_of_getElem? (i := 425) (by decide +kernel)
set_option maxRecDepth 20000 in
theorem w_wsL_law0_r26_6 : Cond.instanceMethod yX1_place ∈ lw_tbl := List.mem_of_getElem? (i := 427) (by decide +kernel)
set_option maxRecDepth 20000 in
theorem w_wsL_law0_r26_7 : Cond.selects RX1 yX1_place yX1_place ∈ lw_tbl := List.mem_of_getElem? (i := 13) (by decide +kernel)
set_option maxRecDepth 20000 in
theorem w_wsL_law0_r26_8 : Cond.code yX1_place cX1_place 5 none ∈ lw_tbl := List.mem_of_getElem? (i := 428) (by decide +kernel)
set_option maxRecDepth 20000 in
theorem w_wsL_law0_r26_9 : Cond.methodLink RX1 72 yX0_kindOf ∈ lw_tbl := List.mem_of_getElem? (i := 429) (by decide +kernel)
set_option maxRecDepth 20000 in
theorem w_wsL_law0_r26_10 : Cond.methodLink RX1 75 yX1_placeFrom ∈ lw_tbl := List.mem_of_getElem? (i := 431) (by decide +kernel)
set_option maxRecDepth 20000 in
theorem w_wsL_law0_r26_11 : Cond.instanceMethod yX1_placeFrom ∈ lw_tbl := List.mem_of_getElem? (i := 433) (by decide +kernel)
set_option maxRecDepth 20000 in
theorem w_wsL_law0_r26_12 : Cond.selects RX1 yX1_placeFrom yX1_placeFrom ∈ lw_tbl := List.mem_of_getElem? (i := 14) (by decide +kernel)
set_option maxRecDepth 20000 in
theorem w_wsL_law0_r26_13 : Cond.code yX1_placeFrom cX1_placeFrom 6 none ∈ lw_tbl := List.mem_of_getElem? (i := 434) (by decide +kernel)
set_option maxRecDepth 20000 in
theorem w_wsL_law0_r26_14 : Cond.methodLink RX1 83 Lib.Math.min.name ∈ lw_tbl := List.mem_of_getElem? (i := 439) (by decide +kernel)
set_option maxRecDepth 20000 in
theorem w_wsL_law0_r26_15 : Cond.methodLink RX1 79 yX3_between ∈ lw_tbl := List.mem_of_getElem? (i := 435) (by decide +kernel)
set_option maxRecDepth 20000 in
theorem w_wsL_law0_r26_16 : Cond.methodLink RX1 88 yX1_take ∈ lw_tbl := List.mem_of_getElem? (i := 442) (by decide +kernel)
set_option maxRecDepth 20000 in
theorem w_wsL_law0_r26_17 : Cond.instanceMethod yX1_take ∈ lw_tbl := List.mem_of_getElem? (i := 444) (by decide +kernel)
set_option maxRecDepth 20000 in
theorem w_wsL_law0_r26_18 : Cond.selects RX1 yX1_take yX1_take ∈ lw_tbl := List.mem_of_getElem? (i := 15) (by decide +kernel)
set_option maxRecDepth 20000 in
theorem w_wsL_law0_r26_19 : Cond.code yX1_take cX1_take 4 none ∈ lw_tbl := List.mem_of_getElem? (i := 445) (by decide +kernel)
set_option maxRecDepth 20000 in
theorem w_wsL_law0_r26_20 : Cond.methodLink RX1 92 yX4_add ∈ lw_tbl := List.mem_of_getElem? (i := 446) (by decide +kernel)
set_option maxRecDepth 20000 in
theorem w_wsL_law0_r26_21 : Cond.methodLink RX1 65 yX3_roadOf ∈ lw_tbl := List.mem_of_getElem? (i := 447) (by decide +kernel)
set_option maxRecDepth 20000 in
theorem w_wsL_law0_r26_22 : Cond.methodLink RX1 68 yX1_walk ∈ lw_tbl := List.mem_of_getElem? (i := 451) (by decide +kernel)
set_option maxRecDepth 20000 in
theorem w_wsL_law0_r26_23 : Cond.instanceMethod yX1_walk ∈ lw_tbl := List.mem_of_getElem? (i := 453) (by decide +kernel)
theorem in_wsL_law0_r26 : ∀ w ∈ wsL_law0_r26, w ∈ lw_tbl := List.forall_mem_cons.mpr ⟨w_wsL_law0_r26_0, List.forall_mem_cons.mpr ⟨w_wsL_law0_r26_1, List.forall_mem_cons.mpr ⟨w_wsL_law0_r26_2, List.forall_mem_cons.mpr ⟨w_wsL_law0_r26_3, List.forall_mem_cons.mpr ⟨w_wsL_law0_r26_4, List.forall_mem_cons.mpr ⟨w_wsL_law0_r26_5, List.forall_mem_cons.mpr ⟨w_wsL_law0_r26_6, List.forall_mem_cons.mpr ⟨w_wsL_law0_r26_7, List.forall_mem_cons.mpr ⟨w_wsL_law0_r26_8, List.forall_mem_cons.mpr ⟨w_wsL_law0_r26_9, List.forall_mem_cons.mpr ⟨w_wsL_law0_r26_10, List.forall_mem_cons.mpr ⟨w_wsL_law0_r26_11, List.forall_mem_cons.mpr ⟨w_wsL_law0_r26_12, List.forall_mem_cons.mpr ⟨w_wsL_law0_r26_13, List.forall_mem_cons.mpr ⟨w_wsL_law0_r26_14, List.forall_mem_cons.mpr ⟨w_wsL_law0_r26_15, List.forall_mem_cons.mpr ⟨w_wsL_law0_r26_16, List.forall_mem_cons.mpr ⟨w_wsL_law0_r26_17, List.forall_mem_cons.mpr ⟨w_wsL_law0_r26_18, List.forall_mem_cons.mpr ⟨w_wsL_law0_r26_19, List.forall_mem_cons.mpr ⟨w_wsL_law0_r26_20, List.forall_mem_cons.mpr ⟨w_wsL_law0_r26_21, List.forall_mem_cons.mpr ⟨w_wsL_law0_r26_22, List.forall_mem_cons.mpr ⟨w_wsL_law0_r26_23, fun _ h => absurd h List.not_mem_nil⟩⟩⟩⟩⟩⟩⟩⟩⟩⟩⟩⟩⟩⟩⟩⟩⟩⟩⟩⟩⟩⟩⟩⟩
set_option maxRecDepth 20000 in
theorem w_wsL_law0_r27_0 : Cond.selects RX1 yX1_walk yX1_walk ∈ lw_tbl := List.mem_of_getElem? (i := 16) (by decide +kernel)
set_option maxRecDepth 20000 in
theorem w_wsL_law0_r27_1 : Cond.code yX1_walk cX1_walk 7 none ∈ lw_tbl := List.mem_of_getElem? (i := 454) (by decide +kernel)
set_option maxRecDepth 20000 in
theorem w_wsL_law0_r27_2 : Cond.methodLink RX1 95 yX3_nextRoad ∈ lw_tbl := List.mem_of_getElem? (i := 455) (by decide +kernel)
set_option maxRecDepth 20000 in
theorem w_wsL_law0_r27_3 : Cond.instanceMethod yX3_nextRoad ∈ lw_tbl := List.mem_of_getElem? (i := 456) (by decide +kernel)
set_option maxRecDepth 20000 in
theorem w_wsL_law0_r27_4 : Cond.selects RX3 yX3_nextRoad yX3_nextRoad ∈ lw_tbl := List.mem_of_getElem? (i := 457) (by decide +kernel)
set_option maxRecDepth 20000 in
theorem w_wsL_law0_r27_5 : Cond.code yX3_nextRoad cX3_nextRoad 6 (some .int) ∈ lw_tbl := List.mem_of_getElem? (i := 458) (by decide +kernel)
set_option maxRecDepth 20000 in
theorem w_wsL_law0_r27_6 : Cond.methodLink RL 14 yX6_tear ∈ lw_tbl := List.mem_of_getElem? (i := 459) (by decide +kernel)
set_option maxRecDepth 20000 in
theorem w_wsL_law0_r27_7 : Cond.instanceMethod yX6_tear ∈ lw_tbl := List.mem_of_getElem? (i := 460) (by decide +kernel)
set_option maxRecDepth 20000 in
theorem w_wsL_law0_r27_8 : Cond.selects RX6 yX6_tear yX6_tear ∈ lw_tbl := List.mem_of_getElem? (i := 461) (by decide +kernel)
set_option maxRecDepth 20000 in
theorem w_wsL_law0_r27_9 : Cond.code yX6_tear cX6_tear 3 (some .int) ∈ lw_tbl := List.mem_of_getElem? (i := 462) (by decide +kernel)
set_option maxRecDepth 20000 in
theorem w_wsL_law0_r27_10 : Cond.methodLink RL 18 yX6_setTax ∈ lw_tbl := List.mem_of_getElem? (i := 464) (by decide +kernel)
set_option maxRecDepth 20000 in
theorem w_wsL_law0_r27_11 : Cond.instanceMethod yX6_setTax ∈ lw_tbl := List.mem_of_getElem? (i := 465) (by decide +kernel)
set_option maxRecDepth 20000 in
theorem w_wsL_law0_r27_12 : Cond.selects RX6 yX6_setTax yX6_setTax ∈ lw_tbl := List.mem_of_getElem? (i := 466) (by decide +kernel)
set_option maxRecDepth 20000 in
theorem w_wsL_law0_r27_13 : Cond.code yX6_setTax cX6_setTax 3 (some .int) ∈ lw_tbl := List.mem_of_getElem? (i := 467) (by decide +kernel)
set_option maxRecDepth 20000 in
theorem w_wsL_law0_r27_14 : Cond.methodLink RX6 85 yX2_changeTax ∈ lw_tbl := List.mem_of_getElem? (i := 468) (by decide +kernel)
set_option maxRecDepth 20000 in
theorem w_wsL_law0_r27_15 : Cond.instanceMethod yX2_changeTax ∈ lw_tbl := List.mem_of_getElem? (i := 469) (by decide +kernel)
set_option maxRecDepth 20000 in
theorem w_wsL_law0_r27_16 : Cond.selects RX2 yX2_changeTax yX2_changeTax ∈ lw_tbl := List.mem_of_getElem? (i := 470) (by decide +kernel)
set_option maxRecDepth 20000 in
theorem w_wsL_law0_r27_17 : Cond.code yX2_changeTax cX2_changeTax 4 (some .int) ∈ lw_tbl := List.mem_of_getElem? (i := 471) (by decide +kernel)
set_option maxRecDepth 20000 in
theorem w_wsL_law0_r27_18 : Cond.methodLink RL 22 yX6_borrow ∈ lw_tbl := List.mem_of_getElem? (i := 472) (by decide +kernel)
set_option maxRecDepth 20000 in
theorem w_wsL_law0_r27_19 : Cond.instanceMethod yX6_borrow ∈ lw_tbl := List.mem_of_getElem? (i := 473) (by decide +kernel)
set_option maxRecDepth 20000 in
theorem w_wsL_law0_r27_20 : Cond.selects RX6 yX6_borrow yX6_borrow ∈ lw_tbl := List.mem_of_getElem? (i := 474) (by decide +kernel)
set_option maxRecDepth 20000 in
theorem w_wsL_law0_r27_21 : Cond.code yX6_borrow cX6_borrow 2 (some .int) ∈ lw_tbl := List.mem_of_getElem? (i := 475) (by decide +kernel)
set_option maxRecDepth 20000 in
theorem w_wsL_law0_r27_22 : Cond.methodLink RX6 94 yX2_lend ∈ lw_tbl := List.mem_of_getElem? (i := 481) (by decide +kernel)
set_option maxRecDepth 20000 in
theorem w_wsL_law0_r27_23 : Cond.instanceMethod yX2_lend ∈ lw_tbl := List.mem_of_getElem? (i := 482) (by decide +kernel)
theorem in_wsL_law0_r27 : ∀ w ∈ wsL_law0_r27, w ∈ lw_tbl := List.forall_mem_cons.mpr ⟨w_wsL_law0_r27_0, List.forall_mem_cons.mpr ⟨w_wsL_law0_r27_1, List.forall_mem_cons.mpr ⟨w_wsL_law0_r27_2, List.forall_mem_cons.mpr ⟨w_wsL_law0_r27_3, List.forall_mem_cons.mpr ⟨w_wsL_law0_r27_4, List.forall_mem_cons.mpr ⟨w_wsL_law0_r27_5, List.forall_mem_cons.mpr ⟨w_wsL_law0_r27_6, List.forall_mem_cons.mpr ⟨w_wsL_law0_r27_7, List.forall_mem_cons.mpr ⟨w_wsL_law0_r27_8, List.forall_mem_cons.mpr ⟨w_wsL_law0_r27_9, List.forall_mem_cons.mpr ⟨w_wsL_law0_r27_10, List.forall_mem_cons.mpr ⟨w_wsL_law0_r27_11, List.forall_mem_cons.mpr ⟨w_wsL_law0_r27_12, List.forall_mem_cons.mpr ⟨w_wsL_law0_r27_13, List.forall_mem_cons.mpr ⟨w_wsL_law0_r27_14, List.forall_mem_cons.mpr ⟨w_wsL_law0_r27_15, List.forall_mem_cons.mpr ⟨w_wsL_law0_r27_16, List.forall_mem_cons.mpr ⟨w_wsL_law0_r27_17, List.forall_mem_cons.mpr ⟨w_wsL_law0_r27_18, List.forall_mem_cons.mpr ⟨w_wsL_law0_r27_19, List.forall_mem_cons.mpr ⟨w_wsL_law0_r27_20, List.forall_mem_cons.mpr ⟨w_wsL_law0_r27_21, List.forall_mem_cons.mpr ⟨w_wsL_law0_r27_22, List.forall_mem_cons.mpr ⟨w_wsL_law0_r27_23, fun _ h => absurd h List.not_mem_nil⟩⟩⟩⟩⟩⟩⟩⟩⟩⟩⟩⟩⟩⟩⟩⟩⟩⟩⟩⟩⟩⟩⟩⟩
set_option maxRecDepth 20000 in
theorem w_wsL_law0_r28_0 : Cond.selects RX2 yX2_lend yX2_lend ∈ lw_tbl := List.mem_of_getElem? (i := 483) (by decide +kernel)
set_option maxRecDepth 20000 in
theorem w_wsL_law0_r28_1 : Cond.code yX2_lend cX2_lend 2 none ∈ lw_tbl := List.mem_of_getElem? (i := 484) (by decide +kernel)
set_option maxRecDepth 20000 in
theorem w_wsL_law0_r28_2 : Cond.methodLink RL 25 yX6_repay ∈ lw_tbl := List.mem_of_getElem? (i := 485) (by decide +kernel)
set_option maxRecDepth 20000 in
theorem w_wsL_law0_r28_3 : Cond.instanceMethod yX6_repay ∈ lw_tbl := List.mem_of_getElem? (i := 486) (by decide +kernel)
set_option maxRecDepth 20000 in
theorem w_wsL_law0_r28_4 : Cond.selects RX6 yX6_repay yX6_repay ∈ lw_tbl := List.mem_of_getElem? (i := 487) (by decide +kernel)
set_option maxRecDepth 20000 in
theorem w_wsL_law0_r28_5 : Cond.code yX6_repay cX6_repay 2 (some .int) ∈ lw_tbl := List.mem_of_getElem? (i := 488) (by decide +kernel)
set_option maxRecDepth 20000 in
theorem w_wsL_law0_r28_6 : Cond.methodLink RL 28 yX6_pass ∈ lw_tbl := List.mem_of_getElem? (i := 490) (by decide +kernel)
set_option maxRecDepth 20000 in
theorem w_wsL_law0_r28_7 : Cond.instanceMethod yX6_pass ∈ lw_tbl := List.mem_of_getElem? (i := 491) (by decide +kernel)
set_option maxRecDepth 20000 in
theorem w_wsL_law0_r28_8 : Cond.selects RX6 yX6_pass yX6_pass ∈ lw_tbl := List.mem_of_getElem? (i := 492) (by decide +kernel)
set_option maxRecDepth 20000 in
theorem w_wsL_law0_r28_9 : Cond.code yX6_pass cX6_pass 4 (some .int) ∈ lw_tbl := List.mem_of_getElem? (i := 493) (by decide +kernel)
set_option maxRecDepth 20000 in
theorem w_wsL_law0_r28_10 : Cond.methodLink RX6 99 yX6_passMonth ∈ lw_tbl := List.mem_of_getElem? (i := 494) (by decide +kernel)
set_option maxRecDepth 20000 in
theorem w_wsL_law0_r28_11 : Cond.instanceMethod yX6_passMonth ∈ lw_tbl := List.mem_of_getElem? (i := 496) (by decide +kernel)
set_option maxRecDepth 20000 in
theorem w_wsL_law0_r28_12 : Cond.selects RX6 yX6_passMonth yX6_passMonth ∈ lw_tbl := List.mem_of_getElem? (i := 17) (by decide +kernel)
set_option maxRecDepth 20000 in
theorem w_wsL_law0_r28_13 : Cond.code yX6_passMonth cX6_passMonth 1 none ∈ lw_tbl := List.mem_of_getElem? (i := 497) (by decide +kernel)
set_option maxRecDepth 20000 in
theorem w_wsL_law0_r28_14 : Cond.methodLink RX6 174 yX1_allPlaced ∈ lw_tbl := List.mem_of_getElem? (i := 498) (by decide +kernel)
set_option maxRecDepth 20000 in
theorem w_wsL_law0_r28_15 : Cond.instanceMethod yX1_allPlaced ∈ lw_tbl := List.mem_of_getElem? (i := 499) (by decide +kernel)
set_option maxRecDepth 20000 in
theorem w_wsL_law0_r28_16 : Cond.selects RX1 yX1_allPlaced yX1_allPlaced ∈ lw_tbl := List.mem_of_getElem? (i := 500) (by decide +kernel)
set_option maxRecDepth 20000 in
theorem w_wsL_law0_r28_17 : Cond.code yX1_allPlaced cX1_allPlaced 3 (some .int) ∈ lw_tbl := List.mem_of_getElem? (i := 501) (by decide +kernel)
set_option maxRecDepth 20000 in
theorem w_wsL_law0_r28_18 : Cond.methodLink RX6 177 yX6_upkeep ∈ lw_tbl := List.mem_of_getElem? (i := 502) (by decide +kernel)
set_option maxRecDepth 20000 in
theorem w_wsL_law0_r28_19 : Cond.instanceMethod yX6_upkeep ∈ lw_tbl := List.mem_of_getElem? (i := 504) (by decide +kernel)
set_option maxRecDepth 20000 in
theorem w_wsL_law0_r28_20 : Cond.selects RX6 yX6_upkeep yX6_upkeep ∈ lw_tbl := List.mem_of_getElem? (i := 18) (by decide +kernel)
set_option maxRecDepth 20000 in
theorem w_wsL_law0_r28_21 : Cond.code yX6_upkeep cX6_upkeep 3 (some .int) ∈ lw_tbl := List.mem_of_getElem? (i := 505) (by decide +kernel)
set_option maxRecDepth 20000 in
theorem w_wsL_law0_r28_22 : Cond.methodLink RX6 187 yX6_upkeepOf ∈ lw_tbl := List.mem_of_getElem? (i := 506) (by decide +kernel)
set_option maxRecDepth 20000 in
theorem w_wsL_law0_r28_23 : Cond.static yX6_upkeepOf ∈ lw_tbl := List.mem_of_getElem? (i := 507) (by decide +kernel)
theorem in_wsL_law0_r28 : ∀ w ∈ wsL_law0_r28, w ∈ lw_tbl := List.forall_mem_cons.mpr ⟨w_wsL_law0_r28_0, List.forall_mem_cons.mpr ⟨w_wsL_law0_r28_1, List.forall_mem_cons.mpr ⟨w_wsL_law0_r28_2, List.forall_mem_cons.mpr ⟨w_wsL_law0_r28_3, List.forall_mem_cons.mpr ⟨w_wsL_law0_r28_4, List.forall_mem_cons.mpr ⟨w_wsL_law0_r28_5, List.forall_mem_cons.mpr ⟨w_wsL_law0_r28_6, List.forall_mem_cons.mpr ⟨w_wsL_law0_r28_7, List.forall_mem_cons.mpr ⟨w_wsL_law0_r28_8, List.forall_mem_cons.mpr ⟨w_wsL_law0_r28_9, List.forall_mem_cons.mpr ⟨w_wsL_law0_r28_10, List.forall_mem_cons.mpr ⟨w_wsL_law0_r28_11, List.forall_mem_cons.mpr ⟨w_wsL_law0_r28_12, List.forall_mem_cons.mpr ⟨w_wsL_law0_r28_13, List.forall_mem_cons.mpr ⟨w_wsL_law0_r28_14, List.forall_mem_cons.mpr ⟨w_wsL_law0_r28_15, List.forall_mem_cons.mpr ⟨w_wsL_law0_r28_16, List.forall_mem_cons.mpr ⟨w_wsL_law0_r28_17, List.forall_mem_cons.mpr ⟨w_wsL_law0_r28_18, List.forall_mem_cons.mpr ⟨w_wsL_law0_r28_19, List.forall_mem_cons.mpr ⟨w_wsL_law0_r28_20, List.forall_mem_cons.mpr ⟨w_wsL_law0_r28_21, List.forall_mem_cons.mpr ⟨w_wsL_law0_r28_22, List.forall_mem_cons.mpr ⟨w_wsL_law0_r28_23, fun _ h => absurd h List.not_mem_nil⟩⟩⟩⟩⟩⟩⟩⟩⟩⟩⟩⟩⟩⟩⟩⟩⟩⟩⟩⟩⟩⟩⟩⟩
set_option maxRecDepth 20000 in
theorem w_wsL_law0_r29_0 : Cond.code yX6_upkeepOf cX6_upkeepOf 1 (some .int) ∈ lw_tbl := List.mem_of_getElem? (i := 508) (by decide +kernel)
set_option maxRecDepth 20000 in
theorem w_wsL_law0_r29_1 : Cond.methodLink RX6 180 yX2_closeMonth ∈ lw_tbl := List.mem_of_getElem? (i := 509) (by decide +kernel)
set_option maxRecDepth 20000 in
theorem w_wsL_law0_r29_2 : Cond.instanceMethod yX2_closeMonth ∈ lw_tbl := List.mem_of_getElem? (i := 510) (by decide +kernel)
set_option maxRecDepth 20000 in
theorem w_wsL_law0_r29_3 : Cond.selects RX2 yX2_closeMonth yX2_closeMonth ∈ lw_tbl := List.mem_of_getElem? (i := 511) (by decide +kernel)
set_option maxRecDepth 20000 in
theorem w_wsL_law0_r29_4 : Cond.code yX2_closeMonth cX2_closeMonth 6 none ∈ lw_tbl := List.mem_of_getElem? (i := 512) (by decide +kernel)
set_option maxRecDepth 20000 in
theorem w_wsL_law0_r29_5 : Cond.methodLink RX6 183 yX6_changeLevels ∈ lw_tbl := List.mem_of_getElem? (i := 513) (by decide +kernel)
set_option maxRecDepth 20000 in
theorem w_wsL_law0_r29_6 : Cond.instanceMethod yX6_changeLevels ∈ lw_tbl := List.mem_of_getElem? (i := 515) (by decide +kernel)
set_option maxRecDepth 20000 in
theorem w_wsL_law0_r29_7 : Cond.selects RX6 yX6_changeLevels yX6_changeLevels ∈ lw_tbl := List.mem_of_getElem? (i := 19) (by decide +kernel)
set_option maxRecDepth 20000 in
theorem w_wsL_law0_r29_8 : Cond.code yX6_changeLevels cX6_changeLevels 3 none ∈ lw_tbl := List.mem_of_getElem? (i := 516) (by decide +kernel)
set_option maxRecDepth 20000 in
theorem w_wsL_law0_r29_9 : Cond.methodLink RX6 190 yX0_isZone ∈ lw_tbl := List.mem_of_getElem? (i := 517) (by decide +kernel)
set_option maxRecDepth 20000 in
theorem w_wsL_law0_r29_10 : Cond.methodLink RX6 193 yX6_nextLevel ∈ lw_tbl := List.mem_of_getElem? (i := 518) (by decide +kernel)
set_option maxRecDepth 20000 in
theorem w_wsL_law0_r29_11 : Cond.instanceMethod yX6_nextLevel ∈ lw_tbl := List.mem_of_getElem? (i := 520) (by decide +kernel)
set_option maxRecDepth 20000 in
theorem w_wsL_law0_r29_12 : Cond.selects RX6 yX6_nextLevel yX6_nextLevel ∈ lw_tbl := List.mem_of_getElem? (i := 20) (by decide +kernel)
set_option maxRecDepth 20000 in
theorem w_wsL_law0_r29_13 : Cond.code yX6_nextLevel cX6_nextLevel 6 (some .int) ∈ lw_tbl := List.mem_of_getElem? (i := 521) (by decide +kernel)
set_option maxRecDepth 20000 in
theorem w_wsL_law0_r29_14 : Cond.methodLink RX6 200 yX6_lacksPeople ∈ lw_tbl := List.mem_of_getElem? (i := 527) (by decide +kernel)
set_option maxRecDepth 20000 in
theorem w_wsL_law0_r29_15 : Cond.instanceMethod yX6_lacksPeople ∈ lw_tbl := List.mem_of_getElem? (i := 529) (by decide +kernel)
set_option maxRecDepth 20000 in
theorem w_wsL_law0_r29_16 : Cond.selects RX6 yX6_lacksPeople yX6_lacksPeople ∈ lw_tbl := List.mem_of_getElem? (i := 21) (by decide +kernel)
set_option maxRecDepth 20000 in
theorem w_wsL_law0_r29_17 : Cond.code yX6_lacksPeople cX6_lacksPeople 4 (some .boolean) ∈ lw_tbl := List.mem_of_getElem? (i := 530) (by decide +kernel)
set_option maxRecDepth 20000 in
theorem w_wsL_law0_r29_18 : Cond.methodLink RX6 203 yX0_peopleOf ∈ lw_tbl := List.mem_of_getElem? (i := 531) (by decide +kernel)
set_option maxRecDepth 20000 in
theorem w_wsL_law0_r29_19 : Cond.methodLink RX6 197 yX0_changeLevel ∈ lw_tbl := List.mem_of_getElem? (i := 556) (by decide +kernel)
set_option maxRecDepth 20000 in
theorem w_wsL_law0_r29_20 : Cond.instanceMethod yX0_changeLevel ∈ lw_tbl := List.mem_of_getElem? (i := 557) (by decide +kernel)
set_option maxRecDepth 20000 in
theorem w_wsL_law0_r29_21 : Cond.selects RX0 yX0_changeLevel yX0_changeLevel ∈ lw_tbl := List.mem_of_getElem? (i := 558) (by decide +kernel)
set_option maxRecDepth 20000 in
theorem w_wsL_law0_r29_22 : Cond.code yX0_changeLevel cX0_changeLevel 3 none ∈ lw_tbl := List.mem_of_getElem? (i := 559) (by decide +kernel)
set_option maxRecDepth 20000 in
theorem w_wsL_law0_r29_23 : Cond.methodLink RL 123 yL_isMoney ∈ lw_tbl := List.mem_of_getElem? (i := 954) (by decide +kernel)
theorem in_wsL_law0_r29 : ∀ w ∈ wsL_law0_r29, w ∈ lw_tbl := List.forall_mem_cons.mpr ⟨w_wsL_law0_r29_0, List.forall_mem_cons.mpr ⟨w_wsL_law0_r29_1, List.forall_mem_cons.mpr ⟨w_wsL_law0_r29_2, List.forall_mem_cons.mpr ⟨w_wsL_law0_r29_3, List.forall_mem_cons.mpr ⟨w_wsL_law0_r29_4, List.forall_mem_cons.mpr ⟨w_wsL_law0_r29_5, List.forall_mem_cons.mpr ⟨w_wsL_law0_r29_6, List.forall_mem_cons.mpr ⟨w_wsL_law0_r29_7, List.forall_mem_cons.mpr ⟨w_wsL_law0_r29_8, List.forall_mem_cons.mpr ⟨w_wsL_law0_r29_9, List.forall_mem_cons.mpr ⟨w_wsL_law0_r29_10, List.forall_mem_cons.mpr ⟨w_wsL_law0_r29_11, List.forall_mem_cons.mpr ⟨w_wsL_law0_r29_12, List.forall_mem_cons.mpr ⟨w_wsL_law0_r29_13, List.forall_mem_cons.mpr ⟨w_wsL_law0_r29_14, List.forall_mem_cons.mpr ⟨w_wsL_law0_r29_15, List.forall_mem_cons.mpr ⟨w_wsL_law0_r29_16, List.forall_mem_cons.mpr ⟨w_wsL_law0_r29_17, List.forall_mem_cons.mpr ⟨w_wsL_law0_r29_18, List.forall_mem_cons.mpr ⟨w_wsL_law0_r29_19, List.forall_mem_cons.mpr ⟨w_wsL_law0_r29_20, List.forall_mem_cons.mpr ⟨w_wsL_law0_r29_21, List.forall_mem_cons.mpr ⟨w_wsL_law0_r29_22, List.forall_mem_cons.mpr ⟨w_wsL_law0_r29_23, fun _ h => absurd h List.not_mem_nil⟩⟩⟩⟩⟩⟩⟩⟩⟩⟩⟩⟩⟩⟩⟩⟩⟩⟩⟩⟩⟩⟩⟩⟩
set_option maxRecDepth 20000 in
theorem w_wsL_law0_r30_0 : Cond.static yL_isMoney ∈ lw_tbl := List.mem_of_getElem? (i := 955) (by decide +kernel)
set_option maxRecDepth 20000 in
theorem w_wsL_law0_r30_1 : Cond.code yL_isMoney cL_isMoney 7 (some .boolean) ∈ lw_tbl := List.mem_of_getElem? (i := 956) (by decide +kernel)
set_option maxRecDepth 20000 in
theorem w_wsL_law0_r30_2 : Cond.methodLink RL 126 yL_isMonth ∈ lw_tbl := List.mem_of_getElem? (i := 957) (by decide +kernel)
set_option maxRecDepth 20000 in
theorem w_wsL_law0_r30_3 : Cond.static yL_isMonth ∈ lw_tbl := List.mem_of_getElem? (i := 958) (by decide +kernel)
set_option maxRecDepth 20000 in
theorem w_wsL_law0_r30_4 : Cond.code yL_isMonth cL_isMonth 12 (some .boolean) ∈ lw_tbl := List.mem_of_getElem? (i := 959) (by decide +kernel)
theorem in_wsL_law0_r30 : ∀ w ∈ wsL_law0_r30, w ∈ lw_tbl := List.forall_mem_cons.mpr ⟨w_wsL_law0_r30_0, List.forall_mem_cons.mpr ⟨w_wsL_law0_r30_1, List.forall_mem_cons.mpr ⟨w_wsL_law0_r30_2, List.forall_mem_cons.mpr ⟨w_wsL_law0_r30_3, List.forall_mem_cons.mpr ⟨w_wsL_law0_r30_4, fun _ h => absurd h List.not_mem_nil⟩⟩⟩⟩⟩
