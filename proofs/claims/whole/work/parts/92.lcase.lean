set_option maxHeartbeats 1000000 in
set_option maxRecDepth 100000 in
theorem law_pass {p : Program} {l : Launch} {e : Env} {s : State} {m : MethodId} {below : List Frame} {meth : Method} {c : Code} {Q : State → Prop} {dC : Nat → ClassId} {dI : Nat → Nat → Nat} {cyI cyZ cyJ cyB : ClassId} {aC aM : Nat → Nat} {b L i : Nat} {xs : Nat → Int32} (hlf : l.stackTraces = false) (cx : CallFix p m c cL_law 7 s #[Value.ref b] wsL_law RL) (hX : va_X b L xs s s.heap) (hbl : b < s.heap.size) (hL : LC (dC, dI) cyI cyZ cyJ cyB aC aM s) (hi : i + 3 ≤ L) (hLb : L ≤ 1536) {C M : zS} {H : Heap} {locs : List Loc} {ls : Array Slot} {cells slots : Nat} (hRel : RK C M) (hI : LI (dC, dI) cyI cyZ cyJ aC aM C M H) (hS : va_S (lA s) s.heap H locs) (hl : lv_has ls 7 [(0, .ref b), (1, .ref (aC 0)), (2, .ref (aM 0)), (3, .ref (aC 36)), (4, .int (nI i))]) (hcl : cells + 8 ≤ room_1.cells) (hsl : slots + 64 ≤ room_1.slots) (KK : law_KK p l e s m below meth c Q dC dI cyI cyZ cyJ aC aM b i cells slots) : W p l e room_1 s m #[Value.ref b] below meth c H locs cells slots Q (F0 m 452 ls []) := by
  obtain ⟨hx, hb, hml, hown, hts⟩ := id cx
  have hbA : ¬ lA s b := Nat.not_le.mpr hbl
  refine lv_aload_n hx hb dL_law_452 rfl (lv_at hl 1 rfl) ?_
  refine lv_aload_n hx hb dL_law_453 rfl (lv_at hl 0 rfl) ?_
  refine lv_iload hx hb dL_law_454 (lv_at hl 4 rfl) ?_
  refine lv_iconst (v := nI 1) hx hb dL_law_456 (by decide) ?_
  refine zAddN (a := i) (b := 1) hx hb dL_law_457 ?_
  refine va_sld hx hb hX hbl hbA hS (vp_in_nI (by omega) (by omega)) dL_law_458 ?_
  refine lv_aload_n hx hb dL_law_459 rfl (lv_at hl 3 rfl) ?_
  refine lawL (av := [.ref (aC 0), .int (xs (nI (i + 1)).toNatClampNeg), .ref (aC 36)]) (rest := []) 3 cx (c_L_pass l dC dI cyI cyJ cyB aC hL.1 hlf C (xs (nI (i + 1)).toNatClampNeg)) gL_law_L_pass rfl ⟨rfl, rfl⟩ (by decide +kernel) ⟨(Nat.le_of_ble_eq_true rfl), (Nat.le_of_ble_eq_true rfl)⟩ hL hI hS rfl hl.1 rfl (Nat.le_of_ble_eq_true rfl) dL_law_460 ⟨by omega, by omega⟩ (fun r5 T H locs hp hI hS => ?_)
  refine lv_istore (lv' := [(5, .int r5), (0, .ref b), (1, .ref (aC 0)), (2, .ref (aM 0)), (3, .ref (aC 36)), (4, .int (nI i))]) hx hb dL_law_463 hl (by decide) rfl (fun ls hl => ?_)
  refine lv_aload_n hx hb dL_law_465 rfl (lv_at hl 3 rfl) ?_
  refine lv_aload_n hx hb dL_law_466 rfl (lv_at hl 1 rfl) ?_
  refine lv_iload hx hb dL_law_467 (lv_at hl 5 rfl) ?_
  refine lv_iconst (v := nI 1) hx hb dL_law_469 (by decide) ?_
  refine zAddN (a := i) (b := 1) hx hb dL_law_470 ?_
  refine va_sld hx hb hX hbl hbA hS (vp_in_nI (by omega) (by omega)) dL_law_471 ?_
  refine lawM (As := [.int (xs (nI (i + 1)).toNatClampNeg)]) (rest := []) 1 cx (c_X7_pass l dC dI cyI cyZ aM hL.2.1 M (xs (nI (i + 1)).toNatClampNeg)) gL_law_X7_pass rfl ⟨rfl, rfl⟩ (by decide +kernel) ⟨(Nat.le_of_ble_eq_true rfl), (Nat.le_of_ble_eq_true rfl)⟩ hL hI hS rfl hl.1 rfl (Nat.le_of_ble_eq_true rfl) dL_law_472 ⟨by omega, by omega⟩ (fun r6 M1 H locs hm hI hS => ?_)
  obtain ⟨h6, h7⟩ := hm
  have hag := law_agree nfA hp (by rw [h7]; exact eq_passC hRel.1 (xs (nI (i + 1)).toNatClampNeg) : LR nA (t_X6_pass C (xs (nI (i + 1)).toNatClampNeg)) (f_X6_pass C (xs (nI (i + 1)).toNatClampNeg)) (f_X7_pass M (xs (nI (i + 1)).toNatClampNeg)) C (g_X6_pass C (xs (nI (i + 1)).toNatClampNeg)) M1)
  refine lv_istore (lv' := [(6, .int r6), (5, .int r5), (0, .ref b), (1, .ref (aC 0)), (2, .ref (aM 0)), (3, .ref (aC 36)), (4, .int (nI i))]) hx hb dL_law_475 hl (by decide) rfl (fun ls hl => ?_)
  refine lv_aload_n hx hb dL_law_477 rfl (lv_at hl 4 rfl) ?_
  refine lawM (As := []) (rest := []) 0 cx (c_X7_thrown l dC dI cyI cyZ aM hL.2.1 M1) gL_law_X7_thrown rfl ⟨rfl, rfl⟩ (by decide +kernel) ⟨(Nat.le_of_ble_eq_true rfl), (Nat.le_of_ble_eq_true rfl)⟩ hL hI hS rfl hl.1 rfl (Nat.le_of_ble_eq_true rfl) dL_law_478 ⟨by omega, by omega⟩ (fun r7 M2 H locs hm hI hS => ?_)
  obtain ⟨h8, h9⟩ := hm
  rw [h9] at hI
  refine lv_iload hx hb dL_law_481 (lv_at hl 1 rfl) ?_
  have fin : W p l e room_1 s m #[Value.ref b] below meth c H locs (cells + 4) (slots + 24) Q (F0 m 505 ls []) := by
    refine lv_goto (tgt := 1206) hx hb dL_law_505 (by decide) ?_
    exact W.widen (by omega) (by omega) (KK _ _ _ _ ls ⟨hag.2.2, by rw [h7]; exact kk_pass hRel.2 (xs (nI (i + 1)).toNatClampNeg)⟩ hI hS (lv_sub hl [2, 3, 4, 5, 6] rfl))
  refine lv_icmp_eq (tgt := 488) hx hb dL_law_483 (by decide) (fun c1 => ?_) (fun c1 => absurd (h8.trans hag.1) c1)
  refine lv_iload hx hb dL_law_488 (lv_at hl 1 rfl) ?_
  refine lv_if_ne (tgt := 505) hx hb dL_law_490 (by decide) (fun c2 => fin) (fun c2 => ?_)
  have h0 : r5 = 0 := c2
  refine lv_aload_n hx hb dL_law_493 rfl (lv_at hl 5 rfl) ?_
  refine lv_iconst (v := 0) hx hb dL_law_494 (by decide) ?_
  refine va_lald hx hb hL.2.2.2.2.2.1 hI.1 36 1 rfl rfl vp_01 dL_law_495 ?_
  have he : T 18 0 = r6 := (hag.2.1 h0).trans h6.symm
  refine lv_iload hx hb dL_law_496 (lv_at hl 0 rfl) ?_
  refine lv_i2l (v := r6.toInt64) hx hb dL_law_498 rfl ?_
  refine W.lcmp hx hb dL_law_499 ?_
  refine lv_if_eq (tgt := 505) hx hb dL_law_500 (by decide) (fun c3 => fin) (fun c3 => absurd (by rw [he]; exact lg_self _) c3)
set_option maxHeartbeats 1000000 in
set_option maxRecDepth 100000 in
theorem law_cash {p : Program} {l : Launch} {e : Env} {s : State} {m : MethodId} {below : List Frame} {meth : Method} {c : Code} {Q : State → Prop} {dC : Nat → ClassId} {dI : Nat → Nat → Nat} {cyI cyZ cyJ cyB : ClassId} {aC aM : Nat → Nat} {b L i : Nat} {xs : Nat → Int32} (hlf : l.stackTraces = false) (cx : CallFix p m c cL_law 7 s #[Value.ref b] wsL_law RL) (hX : va_X b L xs s s.heap) (hbl : b < s.heap.size) (hL : LC (dC, dI) cyI cyZ cyJ cyB aC aM s) (hi : i + 3 ≤ L) (hLb : L ≤ 1536) {C M : zS} {H : Heap} {locs : List Loc} {ls : Array Slot} {cells slots : Nat} (hRel : RK C M) (hI : LI (dC, dI) cyI cyZ cyJ aC aM C M H) (hS : va_S (lA s) s.heap H locs) (hl : lv_has ls 7 [(0, .ref b), (1, .ref (aC 0)), (2, .ref (aM 0)), (3, .ref (aC 36)), (4, .int (nI i))]) (hcl : cells + 8 ≤ room_1.cells) (hsl : slots + 64 ≤ room_1.slots) (KK : law_KK p l e s m below meth c Q dC dI cyI cyZ cyJ aC aM b i cells slots) : W p l e room_1 s m #[Value.ref b] below meth c H locs cells slots Q (F0 m 508 ls []) := by
  obtain ⟨hx, hb, hml, hown, hts⟩ := id cx
  have hI6 : zI aC 36 := fun i j hi hj => hL.1 i j (by omega) (by omega)
  have hag := eq_cash hRel.1
  refine lv_aload_n hx hb dL_law_508 rfl (lv_at hl 1 rfl) ?_
  refine lawC (As := []) (rest := []) 0 cx (c_X6_cash l dC dI cyI aC hI6 C) gL_law_X6_cash rfl ⟨rfl, rfl⟩ (by decide +kernel) ⟨(Nat.le_of_ble_eq_true rfl), (Nat.le_of_ble_eq_true rfl)⟩ hL hI hS rfl hl.1 rfl (Nat.le_of_ble_eq_true rfl) dL_law_509 ⟨by omega, by omega⟩ (fun H locs hI hS => ?_)
  refine lv_aload_n hx hb dL_law_512 rfl (lv_at hl 2 rfl) ?_
  refine lawM (As := []) (rest := [.int (f_X6_cash C)]) 0 cx (c_X7_cash l dC dI cyI cyZ aM hL.2.1 M) gL_law_X7_cash rfl ⟨rfl, rfl⟩ (by decide +kernel) ⟨(Nat.le_of_ble_eq_true rfl), (Nat.le_of_ble_eq_true rfl)⟩ hL hI hS rfl hl.1 rfl (Nat.le_of_ble_eq_true rfl) dL_law_513 ⟨by omega, by omega⟩ (fun r6 M1 H locs hm hI hS => ?_)
  obtain ⟨h6, h7⟩ := hm
  rw [h7] at hI
  refine lv_icmp_eq (tgt := 1206) hx hb dL_law_516 (by decide) (fun c1 => ?_) (fun c1 => absurd (hag.1.trans h6.symm) c1)
  exact W.widen (by omega) (by omega) (KK _ _ _ _ ls ⟨hag.2, kk_cash hRel.2⟩ hI hS hl)
set_option maxHeartbeats 1000000 in
set_option maxRecDepth 100000 in
theorem law_debt {p : Program} {l : Launch} {e : Env} {s : State} {m : MethodId} {below : List Frame} {meth : Method} {c : Code} {Q : State → Prop} {dC : Nat → ClassId} {dI : Nat → Nat → Nat} {cyI cyZ cyJ cyB : ClassId} {aC aM : Nat → Nat} {b L i : Nat} {xs : Nat → Int32} (hlf : l.stackTraces = false) (cx : CallFix p m c cL_law 7 s #[Value.ref b] wsL_law RL) (hX : va_X b L xs s s.heap) (hbl : b < s.heap.size) (hL : LC (dC, dI) cyI cyZ cyJ cyB aC aM s) (hi : i + 3 ≤ L) (hLb : L ≤ 1536) {C M : zS} {H : Heap} {locs : List Loc} {ls : Array Slot} {cells slots : Nat} (hRel : RK C M) (hI : LI (dC, dI) cyI cyZ cyJ aC aM C M H) (hS : va_S (lA s) s.heap H locs) (hl : lv_has ls 7 [(0, .ref b), (1, .ref (aC 0)), (2, .ref (aM 0)), (3, .ref (aC 36)), (4, .int (nI i))]) (hcl : cells + 8 ≤ room_1.cells) (hsl : slots + 64 ≤ room_1.slots) (KK : law_KK p l e s m below meth c Q dC dI cyI cyZ cyJ aC aM b i cells slots) : W p l e room_1 s m #[Value.ref b] below meth c H locs cells slots Q (F0 m 521 ls []) := by
  obtain ⟨hx, hb, hml, hown, hts⟩ := id cx
  have hI6 : zI aC 36 := fun i j hi hj => hL.1 i j (by omega) (by omega)
  have hag := eq_debt hRel.1
  refine lv_aload_n hx hb dL_law_521 rfl (lv_at hl 1 rfl) ?_
  refine lawC (As := []) (rest := []) 0 cx (c_X6_debt l dC dI cyI aC hI6 C) gL_law_X6_debt rfl ⟨rfl, rfl⟩ (by decide +kernel) ⟨(Nat.le_of_ble_eq_true rfl), (Nat.le_of_ble_eq_true rfl)⟩ hL hI hS rfl hl.1 rfl (Nat.le_of_ble_eq_true rfl) dL_law_522 ⟨by omega, by omega⟩ (fun H locs hI hS => ?_)
  refine lv_aload_n hx hb dL_law_525 rfl (lv_at hl 2 rfl) ?_
  refine lawM (As := []) (rest := [.int (f_X6_debt C)]) 0 cx (c_X7_debt l dC dI cyI cyZ aM hL.2.1 M) gL_law_X7_debt rfl ⟨rfl, rfl⟩ (by decide +kernel) ⟨(Nat.le_of_ble_eq_true rfl), (Nat.le_of_ble_eq_true rfl)⟩ hL hI hS rfl hl.1 rfl (Nat.le_of_ble_eq_true rfl) dL_law_526 ⟨by omega, by omega⟩ (fun r6 M1 H locs hm hI hS => ?_)
  obtain ⟨h6, h7⟩ := hm
  rw [h7] at hI
  refine lv_icmp_eq (tgt := 1206) hx hb dL_law_529 (by decide) (fun c1 => ?_) (fun c1 => absurd (hag.1.trans h6.symm) c1)
  exact W.widen (by omega) (by omega) (KK _ _ _ _ ls ⟨hag.2, kk_debt hRel.2⟩ hI hS hl)
set_option maxHeartbeats 1000000 in
set_option maxRecDepth 100000 in
theorem law_earned {p : Program} {l : Launch} {e : Env} {s : State} {m : MethodId} {below : List Frame} {meth : Method} {c : Code} {Q : State → Prop} {dC : Nat → ClassId} {dI : Nat → Nat → Nat} {cyI cyZ cyJ cyB : ClassId} {aC aM : Nat → Nat} {b L i : Nat} {xs : Nat → Int32} (hlf : l.stackTraces = false) (cx : CallFix p m c cL_law 7 s #[Value.ref b] wsL_law RL) (hX : va_X b L xs s s.heap) (hbl : b < s.heap.size) (hL : LC (dC, dI) cyI cyZ cyJ cyB aC aM s) (hi : i + 3 ≤ L) (hLb : L ≤ 1536) {C M : zS} {H : Heap} {locs : List Loc} {ls : Array Slot} {cells slots : Nat} (hRel : RK C M) (hI : LI (dC, dI) cyI cyZ cyJ aC aM C M H) (hS : va_S (lA s) s.heap H locs) (hl : lv_has ls 7 [(0, .ref b), (1, .ref (aC 0)), (2, .ref (aM 0)), (3, .ref (aC 36)), (4, .int (nI i))]) (hcl : cells + 8 ≤ room_1.cells) (hsl : slots + 64 ≤ room_1.slots) (KK : law_KK p l e s m below meth c Q dC dI cyI cyZ cyJ aC aM b i cells slots) : W p l e room_1 s m #[Value.ref b] below meth c H locs cells slots Q (F0 m 534 ls []) := by
  obtain ⟨hx, hb, hml, hown, hts⟩ := id cx
  have hI6 : zI aC 36 := fun i j hi hj => hL.1 i j (by omega) (by omega)
  have hag := eq_earned hRel.1
  refine lv_aload_n hx hb dL_law_534 rfl (lv_at hl 1 rfl) ?_
  refine lawC (As := []) (rest := []) 0 cx (c_X6_earned l dC dI cyI aC hI6 C) gL_law_X6_earned rfl ⟨rfl, rfl⟩ (by decide +kernel) ⟨(Nat.le_of_ble_eq_true rfl), (Nat.le_of_ble_eq_true rfl)⟩ hL hI hS rfl hl.1 rfl (Nat.le_of_ble_eq_true rfl) dL_law_535 ⟨by omega, by omega⟩ (fun H locs hI hS => ?_)
  refine lv_aload_n hx hb dL_law_538 rfl (lv_at hl 2 rfl) ?_
  refine lawM (As := []) (rest := [.int (f_X6_earned C)]) 0 cx (c_X7_earned l dC dI cyI cyZ aM hL.2.1 M) gL_law_X7_earned rfl ⟨rfl, rfl⟩ (by decide +kernel) ⟨(Nat.le_of_ble_eq_true rfl), (Nat.le_of_ble_eq_true rfl)⟩ hL hI hS rfl hl.1 rfl (Nat.le_of_ble_eq_true rfl) dL_law_539 ⟨by omega, by omega⟩ (fun r6 M1 H locs hm hI hS => ?_)
  obtain ⟨h6, h7⟩ := hm
  rw [h7] at hI
  refine lv_icmp_eq (tgt := 1206) hx hb dL_law_542 (by decide) (fun c1 => ?_) (fun c1 => absurd (hag.1.trans h6.symm) c1)
  exact W.widen (by omega) (by omega) (KK _ _ _ _ ls ⟨hag.2, kk_earned hRel.2⟩ hI hS hl)
set_option maxHeartbeats 1000000 in
set_option maxRecDepth 100000 in
theorem law_kind {p : Program} {l : Launch} {e : Env} {s : State} {m : MethodId} {below : List Frame} {meth : Method} {c : Code} {Q : State → Prop} {dC : Nat → ClassId} {dI : Nat → Nat → Nat} {cyI cyZ cyJ cyB : ClassId} {aC aM : Nat → Nat} {b L i : Nat} {xs : Nat → Int32} (hlf : l.stackTraces = false) (cx : CallFix p m c cL_law 7 s #[Value.ref b] wsL_law RL) (hX : va_X b L xs s s.heap) (hbl : b < s.heap.size) (hL : LC (dC, dI) cyI cyZ cyJ cyB aC aM s) (hi : i + 3 ≤ L) (hLb : L ≤ 1536) {C M : zS} {H : Heap} {locs : List Loc} {ls : Array Slot} {cells slots : Nat} (hRel : RK C M) (hI : LI (dC, dI) cyI cyZ cyJ aC aM C M H) (hS : va_S (lA s) s.heap H locs) (hl : lv_has ls 7 [(0, .ref b), (1, .ref (aC 0)), (2, .ref (aM 0)), (3, .ref (aC 36)), (4, .int (nI i))]) (hcl : cells + 8 ≤ room_1.cells) (hsl : slots + 64 ≤ room_1.slots) (KK : law_KK p l e s m below meth c Q dC dI cyI cyZ cyJ aC aM b i cells slots) : W p l e room_1 s m #[Value.ref b] below meth c H locs cells slots Q (F0 m 547 ls []) := by
  obtain ⟨hx, hb, hml, hown, hts⟩ := id cx
  have hbA : ¬ lA s b := Nat.not_le.mpr hbl
  refine lv_aload_n hx hb dL_law_547 rfl (lv_at hl 1 rfl) ?_
  refine lv_aload_n hx hb dL_law_548 rfl (lv_at hl 0 rfl) ?_
  refine lv_iload hx hb dL_law_549 (lv_at hl 4 rfl) ?_
  refine lv_iconst (v := nI 1) hx hb dL_law_551 (by decide) ?_
  refine zAddN (a := i) (b := 1) hx hb dL_law_552 ?_
  refine va_sld hx hb hX hbl hbA hS (vp_in_nI (by omega) (by omega)) dL_law_553 ?_
  refine lv_aload_n hx hb dL_law_554 rfl (lv_at hl 3 rfl) ?_
  refine lawL (av := [.ref (aC 0), .int (xs (nI (i + 1)).toNatClampNeg), .ref (aC 36)]) (rest := []) 3 cx (c_L_kind l dC dI cyI cyJ cyB aC hL.1 hlf C (xs (nI (i + 1)).toNatClampNeg)) gL_law_L_kind rfl ⟨rfl, rfl⟩ (by decide +kernel) ⟨(Nat.le_of_ble_eq_true rfl), (Nat.le_of_ble_eq_true rfl)⟩ hL hI hS rfl hl.1 rfl (Nat.le_of_ble_eq_true rfl) dL_law_555 ⟨by omega, by omega⟩ (fun r5 T H locs hp hI hS => ?_)
  refine lv_istore (lv' := [(5, .int r5), (0, .ref b), (1, .ref (aC 0)), (2, .ref (aM 0)), (3, .ref (aC 36)), (4, .int (nI i))]) hx hb dL_law_558 hl (by decide) rfl (fun ls hl => ?_)
  refine lv_aload_n hx hb dL_law_560 rfl (lv_at hl 3 rfl) ?_
  refine lv_aload_n hx hb dL_law_561 rfl (lv_at hl 1 rfl) ?_
  refine lv_iload hx hb dL_law_562 (lv_at hl 5 rfl) ?_
  refine lv_iconst (v := nI 1) hx hb dL_law_564 (by decide) ?_
  refine zAddN (a := i) (b := 1) hx hb dL_law_565 ?_
  refine va_sld hx hb hX hbl hbA hS (vp_in_nI (by omega) (by omega)) dL_law_566 ?_
  refine lawM (As := [.int (xs (nI (i + 1)).toNatClampNeg)]) (rest := []) 1 cx (c_X7_kind l dC dI cyI cyZ aM hL.2.1 M (xs (nI (i + 1)).toNatClampNeg)) gL_law_X7_kind rfl ⟨rfl, rfl⟩ (by decide +kernel) ⟨(Nat.le_of_ble_eq_true rfl), (Nat.le_of_ble_eq_true rfl)⟩ hL hI hS rfl hl.1 rfl (Nat.le_of_ble_eq_true rfl) dL_law_567 ⟨by omega, by omega⟩ (fun r6 M1 H locs hm hI hS => ?_)
  obtain ⟨h6, h7⟩ := hm
  have hag := law_agree nfO hp (by rw [h7]; exact eq_kind hRel.1 (xs (nI (i + 1)).toNatClampNeg) : LR nO (t_X6_kind C (xs (nI (i + 1)).toNatClampNeg)) (f_X6_kind C (xs (nI (i + 1)).toNatClampNeg)) (f_X7_kind M (xs (nI (i + 1)).toNatClampNeg)) C C M1)
  refine lv_istore (lv' := [(6, .int r6), (5, .int r5), (0, .ref b), (1, .ref (aC 0)), (2, .ref (aM 0)), (3, .ref (aC 36)), (4, .int (nI i))]) hx hb dL_law_570 hl (by decide) rfl (fun ls hl => ?_)
  refine lv_aload_n hx hb dL_law_572 rfl (lv_at hl 4 rfl) ?_
  refine lawM (As := []) (rest := []) 0 cx (c_X7_thrown l dC dI cyI cyZ aM hL.2.1 M1) gL_law_X7_thrown rfl ⟨rfl, rfl⟩ (by decide +kernel) ⟨(Nat.le_of_ble_eq_true rfl), (Nat.le_of_ble_eq_true rfl)⟩ hL hI hS rfl hl.1 rfl (Nat.le_of_ble_eq_true rfl) dL_law_573 ⟨by omega, by omega⟩ (fun r7 M2 H locs hm hI hS => ?_)
  obtain ⟨h8, h9⟩ := hm
  rw [h9] at hI
  refine lv_iload hx hb dL_law_576 (lv_at hl 1 rfl) ?_
  have fin : W p l e room_1 s m #[Value.ref b] below meth c H locs (cells + 4) (slots + 24) Q (F0 m 600 ls []) := by
    refine lv_goto (tgt := 1206) hx hb dL_law_600 (by decide) ?_
    exact W.widen (by omega) (by omega) (KK _ _ _ _ ls ⟨hag.2.2, by rw [h7]; exact kk_kind hRel.2 (xs (nI (i + 1)).toNatClampNeg)⟩ hI hS (lv_sub hl [2, 3, 4, 5, 6] rfl))
  refine lv_icmp_eq (tgt := 583) hx hb dL_law_578 (by decide) (fun c1 => ?_) (fun c1 => absurd (h8.trans hag.1) c1)
  refine lv_iload hx hb dL_law_583 (lv_at hl 1 rfl) ?_
  refine lv_if_ne (tgt := 600) hx hb dL_law_585 (by decide) (fun c2 => fin) (fun c2 => ?_)
  have h0 : r5 = 0 := c2
  refine lv_aload_n hx hb dL_law_588 rfl (lv_at hl 5 rfl) ?_
  refine lv_iconst (v := 0) hx hb dL_law_589 (by decide) ?_
  refine va_lald hx hb hL.2.2.2.2.2.1 hI.1 36 1 rfl rfl vp_01 dL_law_590 ?_
  have he : T 18 0 = r6 := (hag.2.1 h0).trans h6.symm
  refine lv_iload hx hb dL_law_591 (lv_at hl 0 rfl) ?_
  refine lv_i2l (v := r6.toInt64) hx hb dL_law_593 rfl ?_
  refine W.lcmp hx hb dL_law_594 ?_
  refine lv_if_eq (tgt := 600) hx hb dL_law_595 (by decide) (fun c3 => fin) (fun c3 => absurd (by rw [he]; exact lg_self _) c3)
set_option maxHeartbeats 1000000 in
set_option maxRecDepth 100000 in
theorem law_level {p : Program} {l : Launch} {e : Env} {s : State} {m : MethodId} {below : List Frame} {meth : Method} {c : Code} {Q : State → Prop} {dC : Nat → ClassId} {dI : Nat → Nat → Nat} {cyI cyZ cyJ cyB : ClassId} {aC aM : Nat → Nat} {b L i : Nat} {xs : Nat → Int32} (hlf : l.stackTraces = false) (cx : CallFix p m c cL_law 7 s #[Value.ref b] wsL_law RL) (hX : va_X b L xs s s.heap) (hbl : b < s.heap.size) (hL : LC (dC, dI) cyI cyZ cyJ cyB aC aM s) (hi : i + 3 ≤ L) (hLb : L ≤ 1536) {C M : zS} {H : Heap} {locs : List Loc} {ls : Array Slot} {cells slots : Nat} (hRel : RK C M) (hI : LI (dC, dI) cyI cyZ cyJ aC aM C M H) (hS : va_S (lA s) s.heap H locs) (hl : lv_has ls 7 [(0, .ref b), (1, .ref (aC 0)), (2, .ref (aM 0)), (3, .ref (aC 36)), (4, .int (nI i))]) (hcl : cells + 8 ≤ room_1.cells) (hsl : slots + 64 ≤ room_1.slots) (KK : law_KK p l e s m below meth c Q dC dI cyI cyZ cyJ aC aM b i cells slots) : W p l e room_1 s m #[Value.ref b] below meth c H locs cells slots Q (F0 m 603 ls []) := by
  obtain ⟨hx, hb, hml, hown, hts⟩ := id cx
  have hbA : ¬ lA s b := Nat.not_le.mpr hbl
  refine lv_aload_n hx hb dL_law_603 rfl (lv_at hl 1 rfl) ?_
  refine lv_aload_n hx hb dL_law_604 rfl (lv_at hl 0 rfl) ?_
  refine lv_iload hx hb dL_law_605 (lv_at hl 4 rfl) ?_
  refine lv_iconst (v := nI 1) hx hb dL_law_607 (by decide) ?_
  refine zAddN (a := i) (b := 1) hx hb dL_law_608 ?_
  refine va_sld hx hb hX hbl hbA hS (vp_in_nI (by omega) (by omega)) dL_law_609 ?_
  refine lv_aload_n hx hb dL_law_610 rfl (lv_at hl 3 rfl) ?_
  refine lawL (av := [.ref (aC 0), .int (xs (nI (i + 1)).toNatClampNeg), .ref (aC 36)]) (rest := []) 3 cx (c_L_level l dC dI cyI cyJ cyB aC hL.1 hlf C (xs (nI (i + 1)).toNatClampNeg)) gL_law_L_level rfl ⟨rfl, rfl⟩ (by decide +kernel) ⟨(Nat.le_of_ble_eq_true rfl), (Nat.le_of_ble_eq_true rfl)⟩ hL hI hS rfl hl.1 rfl (Nat.le_of_ble_eq_true rfl) dL_law_611 ⟨by omega, by omega⟩ (fun r5 T H locs hp hI hS => ?_)
  refine lv_istore (lv' := [(5, .int r5), (0, .ref b), (1, .ref (aC 0)), (2, .ref (aM 0)), (3, .ref (aC 36)), (4, .int (nI i))]) hx hb dL_law_614 hl (by decide) rfl (fun ls hl => ?_)
  refine lv_aload_n hx hb dL_law_616 rfl (lv_at hl 3 rfl) ?_
  refine lv_aload_n hx hb dL_law_617 rfl (lv_at hl 1 rfl) ?_
  refine lv_iload hx hb dL_law_618 (lv_at hl 5 rfl) ?_
  refine lv_iconst (v := nI 1) hx hb dL_law_620 (by decide) ?_
  refine zAddN (a := i) (b := 1) hx hb dL_law_621 ?_
  refine va_sld hx hb hX hbl hbA hS (vp_in_nI (by omega) (by omega)) dL_law_622 ?_
  refine lawM (As := [.int (xs (nI (i + 1)).toNatClampNeg)]) (rest := []) 1 cx (c_X7_level l dC dI cyI cyZ aM hL.2.1 M (xs (nI (i + 1)).toNatClampNeg)) gL_law_X7_level rfl ⟨rfl, rfl⟩ (by decide +kernel) ⟨(Nat.le_of_ble_eq_true rfl), (Nat.le_of_ble_eq_true rfl)⟩ hL hI hS rfl hl.1 rfl (Nat.le_of_ble_eq_true rfl) dL_law_623 ⟨by omega, by omega⟩ (fun r6 M1 H locs hm hI hS => ?_)
  obtain ⟨h6, h7⟩ := hm
  have hag := law_agree nfO hp (by rw [h7]; exact eq_levelC hRel.1 (xs (nI (i + 1)).toNatClampNeg) : LR nO (t_X6_level C (xs (nI (i + 1)).toNatClampNeg)) (f_X6_level C (xs (nI (i + 1)).toNatClampNeg)) (f_X7_level M (xs (nI (i + 1)).toNatClampNeg)) C C M1)
  refine lv_istore (lv' := [(6, .int r6), (5, .int r5), (0, .ref b), (1, .ref (aC 0)), (2, .ref (aM 0)), (3, .ref (aC 36)), (4, .int (nI i))]) hx hb dL_law_626 hl (by decide) rfl (fun ls hl => ?_)
  refine lv_aload_n hx hb dL_law_628 rfl (lv_at hl 4 rfl) ?_
  refine lawM (As := []) (rest := []) 0 cx (c_X7_thrown l dC dI cyI cyZ aM hL.2.1 M1) gL_law_X7_thrown rfl ⟨rfl, rfl⟩ (by decide +kernel) ⟨(Nat.le_of_ble_eq_true rfl), (Nat.le_of_ble_eq_true rfl)⟩ hL hI hS rfl hl.1 rfl (Nat.le_of_ble_eq_true rfl) dL_law_629 ⟨by omega, by omega⟩ (fun r7 M2 H locs hm hI hS => ?_)
  obtain ⟨h8, h9⟩ := hm
  rw [h9] at hI
  refine lv_iload hx hb dL_law_632 (lv_at hl 1 rfl) ?_
  have fin : W p l e room_1 s m #[Value.ref b] below meth c H locs (cells + 4) (slots + 24) Q (F0 m 656 ls []) := by
    refine lv_goto (tgt := 1206) hx hb dL_law_656 (by decide) ?_
    exact W.widen (by omega) (by omega) (KK _ _ _ _ ls ⟨hag.2.2, by rw [h7]; exact kk_level hRel.2 (xs (nI (i + 1)).toNatClampNeg)⟩ hI hS (lv_sub hl [2, 3, 4, 5, 6] rfl))
  refine lv_icmp_eq (tgt := 639) hx hb dL_law_634 (by decide) (fun c1 => ?_) (fun c1 => absurd (h8.trans hag.1) c1)
  refine lv_iload hx hb dL_law_639 (lv_at hl 1 rfl) ?_
  refine lv_if_ne (tgt := 656) hx hb dL_law_641 (by decide) (fun c2 => fin) (fun c2 => ?_)
  have h0 : r5 = 0 := c2
  refine lv_aload_n hx hb dL_law_644 rfl (lv_at hl 5 rfl) ?_
  refine lv_iconst (v := 0) hx hb dL_law_645 (by decide) ?_
  refine va_lald hx hb hL.2.2.2.2.2.1 hI.1 36 1 rfl rfl vp_01 dL_law_646 ?_
  have he : T 18 0 = r6 := (hag.2.1 h0).trans h6.symm
  refine lv_iload hx hb dL_law_647 (lv_at hl 0 rfl) ?_
  refine lv_i2l (v := r6.toInt64) hx hb dL_law_649 rfl ?_
  refine W.lcmp hx hb dL_law_650 ?_
  refine lv_if_eq (tgt := 656) hx hb dL_law_651 (by decide) (fun c3 => fin) (fun c3 => absurd (by rw [he]; exact lg_self _) c3)
