set_option maxHeartbeats 1000000 in
set_option maxRecDepth 100000 in
theorem law_traffic {p : Program} {l : Launch} {e : Env} {s : State} {m : MethodId} {below : List Frame} {meth : Method} {c : Code} {Q : State → Prop} {dC : Nat → ClassId} {dI : Nat → Nat → Nat} {cyI cyZ cyJ cyB : ClassId} {aC aM : Nat → Nat} {b L i : Nat} {xs : Nat → Int32} (hlf : l.stackTraces = false) (cx : CallFix p m c cL_law 7 s #[Value.ref b] wsL_law RL) (hX : va_X b L xs s s.heap) (hbl : b < s.heap.size) (hL : LC (dC, dI) cyI cyZ cyJ cyB aC aM s) (hi : i + 3 ≤ L) (hLb : L ≤ 1536) {C M : zS} {H : Heap} {locs : List Loc} {ls : Array Slot} {cells slots : Nat} (hRel : RK C M) (hI : LI (dC, dI) cyI cyZ cyJ aC aM C M H) (hS : va_S (lA s) s.heap H locs) (hl : lv_has ls 7 [(0, .ref b), (1, .ref (aC 0)), (2, .ref (aM 0)), (3, .ref (aC 36)), (4, .int (nI i))]) (hcl : cells + 8 ≤ room_1.cells) (hsl : slots + 64 ≤ room_1.slots) (KK : law_KK p l e s m below meth c Q dC dI cyI cyZ cyJ aC aM b i cells slots) : W p l e room_1 s m #[Value.ref b] below meth c H locs cells slots Q (F0 m 970 ls []) := by
  obtain ⟨hx, hb, hml, hown, hts⟩ := id cx
  have hbA : ¬ lA s b := Nat.not_le.mpr hbl
  refine lv_aload_n hx hb dL_law_970 rfl (lv_at hl 1 rfl) ?_
  refine lv_aload_n hx hb dL_law_971 rfl (lv_at hl 0 rfl) ?_
  refine lv_iload hx hb dL_law_972 (lv_at hl 4 rfl) ?_
  refine lv_iconst (v := nI 1) hx hb dL_law_974 (by decide) ?_
  refine zAddN (a := i) (b := 1) hx hb dL_law_975 ?_
  refine va_sld hx hb hX hbl hbA hS (vp_in_nI (by omega) (by omega)) dL_law_976 ?_
  refine lv_aload_n hx hb dL_law_977 rfl (lv_at hl 3 rfl) ?_
  refine lawL (av := [.ref (aC 0), .int (xs (nI (i + 1)).toNatClampNeg), .ref (aC 36)]) (rest := []) 3 cx (c_L_traffic l dC dI cyI cyJ cyB aC hL.1 hlf C (xs (nI (i + 1)).toNatClampNeg)) gL_law_L_traffic rfl ⟨rfl, rfl⟩ (by decide +kernel) ⟨(Nat.le_of_ble_eq_true rfl), (Nat.le_of_ble_eq_true rfl)⟩ hL hI hS rfl hl.1 rfl (Nat.le_of_ble_eq_true rfl) dL_law_978 ⟨by omega, by omega⟩ (fun r5 T H locs hp hI hS => ?_)
  refine lv_istore (lv' := [(5, .int r5), (0, .ref b), (1, .ref (aC 0)), (2, .ref (aM 0)), (3, .ref (aC 36)), (4, .int (nI i))]) hx hb dL_law_981 hl (by decide) rfl (fun ls hl => ?_)
  refine lv_aload_n hx hb dL_law_983 rfl (lv_at hl 3 rfl) ?_
  refine lv_aload_n hx hb dL_law_984 rfl (lv_at hl 1 rfl) ?_
  refine lv_iload hx hb dL_law_985 (lv_at hl 5 rfl) ?_
  refine lv_iconst (v := nI 1) hx hb dL_law_987 (by decide) ?_
  refine zAddN (a := i) (b := 1) hx hb dL_law_988 ?_
  refine va_sld hx hb hX hbl hbA hS (vp_in_nI (by omega) (by omega)) dL_law_989 ?_
  refine lawM (As := [.int (xs (nI (i + 1)).toNatClampNeg)]) (rest := []) 1 cx (c_X7_traffic l dC dI cyI cyZ aM hL.2.1 M (xs (nI (i + 1)).toNatClampNeg)) gL_law_X7_traffic rfl ⟨rfl, rfl⟩ (by decide +kernel) ⟨(Nat.le_of_ble_eq_true rfl), (Nat.le_of_ble_eq_true rfl)⟩ hL hI hS rfl hl.1 rfl (Nat.le_of_ble_eq_true rfl) dL_law_990 ⟨by omega, by omega⟩ (fun r6 M1 H locs hm hI hS => ?_)
  obtain ⟨h6, h7⟩ := hm
  have hag := law_agree nfO hp (by rw [h7]; exact eq_trafficC hRel.1 (xs (nI (i + 1)).toNatClampNeg) : LR nO (t_X6_traffic C (xs (nI (i + 1)).toNatClampNeg)) (f_X6_traffic C (xs (nI (i + 1)).toNatClampNeg)) (f_X7_traffic M (xs (nI (i + 1)).toNatClampNeg)) C C M1)
  refine lv_istore (lv' := [(6, .int r6), (5, .int r5), (0, .ref b), (1, .ref (aC 0)), (2, .ref (aM 0)), (3, .ref (aC 36)), (4, .int (nI i))]) hx hb dL_law_993 hl (by decide) rfl (fun ls hl => ?_)
  refine lv_aload_n hx hb dL_law_995 rfl (lv_at hl 4 rfl) ?_
  refine lawM (As := []) (rest := []) 0 cx (c_X7_thrown l dC dI cyI cyZ aM hL.2.1 M1) gL_law_X7_thrown rfl ⟨rfl, rfl⟩ (by decide +kernel) ⟨(Nat.le_of_ble_eq_true rfl), (Nat.le_of_ble_eq_true rfl)⟩ hL hI hS rfl hl.1 rfl (Nat.le_of_ble_eq_true rfl) dL_law_996 ⟨by omega, by omega⟩ (fun r7 M2 H locs hm hI hS => ?_)
  obtain ⟨h8, h9⟩ := hm
  rw [h9] at hI
  refine lv_iload hx hb dL_law_999 (lv_at hl 1 rfl) ?_
  have fin : W p l e room_1 s m #[Value.ref b] below meth c H locs (cells + 4) (slots + 24) Q (F0 m 1023 ls []) := by
    refine lv_goto (tgt := 1206) hx hb dL_law_1023 (by decide) ?_
    exact W.widen (by omega) (by omega) (KK _ _ _ _ ls ⟨hag.2.2, by rw [h7]; exact kk_traffic hRel.2 (xs (nI (i + 1)).toNatClampNeg)⟩ hI hS (lv_sub hl [2, 3, 4, 5, 6] rfl))
  refine lv_icmp_eq (tgt := 1006) hx hb dL_law_1001 (by decide) (fun c1 => ?_) (fun c1 => absurd (h8.trans hag.1) c1)
  refine lv_iload hx hb dL_law_1006 (lv_at hl 1 rfl) ?_
  refine lv_if_ne (tgt := 1023) hx hb dL_law_1008 (by decide) (fun c2 => fin) (fun c2 => ?_)
  have h0 : r5 = 0 := c2
  refine lv_aload_n hx hb dL_law_1011 rfl (lv_at hl 5 rfl) ?_
  refine lv_iconst (v := 0) hx hb dL_law_1012 (by decide) ?_
  refine va_lald hx hb hL.2.2.2.2.2.1 hI.1 36 1 rfl rfl vp_01 dL_law_1013 ?_
  have he : T 18 0 = r6 := (hag.2.1 h0).trans h6.symm
  refine lv_iload hx hb dL_law_1014 (lv_at hl 0 rfl) ?_
  refine lv_i2l (v := r6.toInt64) hx hb dL_law_1016 rfl ?_
  refine W.lcmp hx hb dL_law_1017 ?_
  refine lv_if_eq (tgt := 1023) hx hb dL_law_1018 (by decide) (fun c3 => fin) (fun c3 => absurd (by rw [he]; exact lg_self _) c3)
set_option maxHeartbeats 1000000 in
set_option maxRecDepth 100000 in
theorem law_value {p : Program} {l : Launch} {e : Env} {s : State} {m : MethodId} {below : List Frame} {meth : Method} {c : Code} {Q : State → Prop} {dC : Nat → ClassId} {dI : Nat → Nat → Nat} {cyI cyZ cyJ cyB : ClassId} {aC aM : Nat → Nat} {b L i : Nat} {xs : Nat → Int32} (hlf : l.stackTraces = false) (cx : CallFix p m c cL_law 7 s #[Value.ref b] wsL_law RL) (hX : va_X b L xs s s.heap) (hbl : b < s.heap.size) (hL : LC (dC, dI) cyI cyZ cyJ cyB aC aM s) (hi : i + 3 ≤ L) (hLb : L ≤ 1536) {C M : zS} {H : Heap} {locs : List Loc} {ls : Array Slot} {cells slots : Nat} (hRel : RK C M) (hI : LI (dC, dI) cyI cyZ cyJ aC aM C M H) (hS : va_S (lA s) s.heap H locs) (hl : lv_has ls 7 [(0, .ref b), (1, .ref (aC 0)), (2, .ref (aM 0)), (3, .ref (aC 36)), (4, .int (nI i))]) (hcl : cells + 8 ≤ room_1.cells) (hsl : slots + 64 ≤ room_1.slots) (KK : law_KK p l e s m below meth c Q dC dI cyI cyZ cyJ aC aM b i cells slots) : W p l e room_1 s m #[Value.ref b] below meth c H locs cells slots Q (F0 m 1026 ls []) := by
  obtain ⟨hx, hb, hml, hown, hts⟩ := id cx
  have hbA : ¬ lA s b := Nat.not_le.mpr hbl
  refine lv_aload_n hx hb dL_law_1026 rfl (lv_at hl 1 rfl) ?_
  refine lv_aload_n hx hb dL_law_1027 rfl (lv_at hl 0 rfl) ?_
  refine lv_iload hx hb dL_law_1028 (lv_at hl 4 rfl) ?_
  refine lv_iconst (v := nI 1) hx hb dL_law_1030 (by decide) ?_
  refine zAddN (a := i) (b := 1) hx hb dL_law_1031 ?_
  refine va_sld hx hb hX hbl hbA hS (vp_in_nI (by omega) (by omega)) dL_law_1032 ?_
  refine lv_aload_n hx hb dL_law_1033 rfl (lv_at hl 3 rfl) ?_
  refine lawL (av := [.ref (aC 0), .int (xs (nI (i + 1)).toNatClampNeg), .ref (aC 36)]) (rest := []) 3 cx (c_L_value l dC dI cyI cyJ cyB aC hL.1 hlf C (xs (nI (i + 1)).toNatClampNeg)) gL_law_L_value rfl ⟨rfl, rfl⟩ (by decide +kernel) ⟨(Nat.le_of_ble_eq_true rfl), (Nat.le_of_ble_eq_true rfl)⟩ hL hI hS rfl hl.1 rfl (Nat.le_of_ble_eq_true rfl) dL_law_1034 ⟨by omega, by omega⟩ (fun r5 T H locs hp hI hS => ?_)
  refine lv_istore (lv' := [(5, .int r5), (0, .ref b), (1, .ref (aC 0)), (2, .ref (aM 0)), (3, .ref (aC 36)), (4, .int (nI i))]) hx hb dL_law_1037 hl (by decide) rfl (fun ls hl => ?_)
  refine lv_aload_n hx hb dL_law_1039 rfl (lv_at hl 3 rfl) ?_
  refine lv_aload_n hx hb dL_law_1040 rfl (lv_at hl 1 rfl) ?_
  refine lv_iload hx hb dL_law_1041 (lv_at hl 5 rfl) ?_
  refine lv_iconst (v := nI 1) hx hb dL_law_1043 (by decide) ?_
  refine zAddN (a := i) (b := 1) hx hb dL_law_1044 ?_
  refine va_sld hx hb hX hbl hbA hS (vp_in_nI (by omega) (by omega)) dL_law_1045 ?_
  refine lawM (As := [.int (xs (nI (i + 1)).toNatClampNeg)]) (rest := []) 1 cx (c_X7_value l dC dI cyI cyZ aM hL.2.1 M (xs (nI (i + 1)).toNatClampNeg)) gL_law_X7_value rfl ⟨rfl, rfl⟩ (by decide +kernel) ⟨(Nat.le_of_ble_eq_true rfl), (Nat.le_of_ble_eq_true rfl)⟩ hL hI hS rfl hl.1 rfl (Nat.le_of_ble_eq_true rfl) dL_law_1046 ⟨by omega, by omega⟩ (fun r6 M1 H locs hm hI hS => ?_)
  obtain ⟨h6, h7⟩ := hm
  have hag := law_agree nfO hp (by rw [h7]; exact eq_valueC hRel.1 (xs (nI (i + 1)).toNatClampNeg) : LR nO (t_X6_value C (xs (nI (i + 1)).toNatClampNeg)) (f_X6_value C (xs (nI (i + 1)).toNatClampNeg)) (f_X7_value M (xs (nI (i + 1)).toNatClampNeg)) C C M1)
  refine lv_istore (lv' := [(6, .int r6), (5, .int r5), (0, .ref b), (1, .ref (aC 0)), (2, .ref (aM 0)), (3, .ref (aC 36)), (4, .int (nI i))]) hx hb dL_law_1049 hl (by decide) rfl (fun ls hl => ?_)
  refine lv_aload_n hx hb dL_law_1051 rfl (lv_at hl 4 rfl) ?_
  refine lawM (As := []) (rest := []) 0 cx (c_X7_thrown l dC dI cyI cyZ aM hL.2.1 M1) gL_law_X7_thrown rfl ⟨rfl, rfl⟩ (by decide +kernel) ⟨(Nat.le_of_ble_eq_true rfl), (Nat.le_of_ble_eq_true rfl)⟩ hL hI hS rfl hl.1 rfl (Nat.le_of_ble_eq_true rfl) dL_law_1052 ⟨by omega, by omega⟩ (fun r7 M2 H locs hm hI hS => ?_)
  obtain ⟨h8, h9⟩ := hm
  rw [h9] at hI
  refine lv_iload hx hb dL_law_1055 (lv_at hl 1 rfl) ?_
  have fin : W p l e room_1 s m #[Value.ref b] below meth c H locs (cells + 4) (slots + 24) Q (F0 m 1079 ls []) := by
    refine lv_goto (tgt := 1206) hx hb dL_law_1079 (by decide) ?_
    exact W.widen (by omega) (by omega) (KK _ _ _ _ ls ⟨hag.2.2, by rw [h7]; exact kk_value hRel.2 (xs (nI (i + 1)).toNatClampNeg)⟩ hI hS (lv_sub hl [2, 3, 4, 5, 6] rfl))
  refine lv_icmp_eq (tgt := 1062) hx hb dL_law_1057 (by decide) (fun c1 => ?_) (fun c1 => absurd (h8.trans hag.1) c1)
  refine lv_iload hx hb dL_law_1062 (lv_at hl 1 rfl) ?_
  refine lv_if_ne (tgt := 1079) hx hb dL_law_1064 (by decide) (fun c2 => fin) (fun c2 => ?_)
  have h0 : r5 = 0 := c2
  refine lv_aload_n hx hb dL_law_1067 rfl (lv_at hl 5 rfl) ?_
  refine lv_iconst (v := 0) hx hb dL_law_1068 (by decide) ?_
  refine va_lald hx hb hL.2.2.2.2.2.1 hI.1 36 1 rfl rfl vp_01 dL_law_1069 ?_
  have he : T 18 0 = r6 := (hag.2.1 h0).trans h6.symm
  refine lv_iload hx hb dL_law_1070 (lv_at hl 0 rfl) ?_
  refine lv_i2l (v := r6.toInt64) hx hb dL_law_1072 rfl ?_
  refine W.lcmp hx hb dL_law_1073 ?_
  refine lv_if_eq (tgt := 1079) hx hb dL_law_1074 (by decide) (fun c3 => fin) (fun c3 => absurd (by rw [he]; exact lg_self _) c3)
set_option maxHeartbeats 1000000 in
set_option maxRecDepth 100000 in
theorem law_powerLeft {p : Program} {l : Launch} {e : Env} {s : State} {m : MethodId} {below : List Frame} {meth : Method} {c : Code} {Q : State → Prop} {dC : Nat → ClassId} {dI : Nat → Nat → Nat} {cyI cyZ cyJ cyB : ClassId} {aC aM : Nat → Nat} {b L i : Nat} {xs : Nat → Int32} (hlf : l.stackTraces = false) (cx : CallFix p m c cL_law 7 s #[Value.ref b] wsL_law RL) (hX : va_X b L xs s s.heap) (hbl : b < s.heap.size) (hL : LC (dC, dI) cyI cyZ cyJ cyB aC aM s) (hi : i + 3 ≤ L) (hLb : L ≤ 1536) {C M : zS} {H : Heap} {locs : List Loc} {ls : Array Slot} {cells slots : Nat} (hRel : RK C M) (hI : LI (dC, dI) cyI cyZ cyJ aC aM C M H) (hS : va_S (lA s) s.heap H locs) (hl : lv_has ls 7 [(0, .ref b), (1, .ref (aC 0)), (2, .ref (aM 0)), (3, .ref (aC 36)), (4, .int (nI i))]) (hcl : cells + 8 ≤ room_1.cells) (hsl : slots + 64 ≤ room_1.slots) (KK : law_KK p l e s m below meth c Q dC dI cyI cyZ cyJ aC aM b i cells slots) : W p l e room_1 s m #[Value.ref b] below meth c H locs cells slots Q (F0 m 1082 ls []) := by
  obtain ⟨hx, hb, hml, hown, hts⟩ := id cx
  have hbA : ¬ lA s b := Nat.not_le.mpr hbl
  refine lv_aload_n hx hb dL_law_1082 rfl (lv_at hl 1 rfl) ?_
  refine lv_aload_n hx hb dL_law_1083 rfl (lv_at hl 0 rfl) ?_
  refine lv_iload hx hb dL_law_1084 (lv_at hl 4 rfl) ?_
  refine lv_iconst (v := nI 1) hx hb dL_law_1086 (by decide) ?_
  refine zAddN (a := i) (b := 1) hx hb dL_law_1087 ?_
  refine va_sld hx hb hX hbl hbA hS (vp_in_nI (by omega) (by omega)) dL_law_1088 ?_
  refine lv_aload_n hx hb dL_law_1089 rfl (lv_at hl 3 rfl) ?_
  refine lawL (av := [.ref (aC 0), .int (xs (nI (i + 1)).toNatClampNeg), .ref (aC 36)]) (rest := []) 3 cx (c_L_powerLeft l dC dI cyI cyJ cyB aC hL.1 hlf C (xs (nI (i + 1)).toNatClampNeg)) gL_law_L_powerLeft rfl ⟨rfl, rfl⟩ (by decide +kernel) ⟨(Nat.le_of_ble_eq_true rfl), (Nat.le_of_ble_eq_true rfl)⟩ hL hI hS rfl hl.1 rfl (Nat.le_of_ble_eq_true rfl) dL_law_1090 ⟨by omega, by omega⟩ (fun r5 T H locs hp hI hS => ?_)
  refine lv_istore (lv' := [(5, .int r5), (0, .ref b), (1, .ref (aC 0)), (2, .ref (aM 0)), (3, .ref (aC 36)), (4, .int (nI i))]) hx hb dL_law_1093 hl (by decide) rfl (fun ls hl => ?_)
  refine lv_aload_n hx hb dL_law_1095 rfl (lv_at hl 3 rfl) ?_
  refine lv_aload_n hx hb dL_law_1096 rfl (lv_at hl 1 rfl) ?_
  refine lv_iload hx hb dL_law_1097 (lv_at hl 5 rfl) ?_
  refine lv_iconst (v := nI 1) hx hb dL_law_1099 (by decide) ?_
  refine zAddN (a := i) (b := 1) hx hb dL_law_1100 ?_
  refine va_sld hx hb hX hbl hbA hS (vp_in_nI (by omega) (by omega)) dL_law_1101 ?_
  refine lawM (As := [.int (xs (nI (i + 1)).toNatClampNeg)]) (rest := []) 1 cx (c_X7_powerLeft l dC dI cyI cyZ aM hL.2.1 M (xs (nI (i + 1)).toNatClampNeg)) gL_law_X7_powerLeft rfl ⟨rfl, rfl⟩ (by decide +kernel) ⟨(Nat.le_of_ble_eq_true rfl), (Nat.le_of_ble_eq_true rfl)⟩ hL hI hS rfl hl.1 rfl (Nat.le_of_ble_eq_true rfl) dL_law_1102 ⟨by omega, by omega⟩ (fun r6 M1 H locs hm hI hS => ?_)
  obtain ⟨h6, h7⟩ := hm
  have hag := law_agree nfO hp (by rw [h7]; exact eq_powerC hRel.1 (xs (nI (i + 1)).toNatClampNeg) : LR nO (t_X6_powerLeft C (xs (nI (i + 1)).toNatClampNeg)) (f_X6_powerLeft C (xs (nI (i + 1)).toNatClampNeg)) (f_X7_powerLeft M (xs (nI (i + 1)).toNatClampNeg)) C C M1)
  refine lv_istore (lv' := [(6, .int r6), (5, .int r5), (0, .ref b), (1, .ref (aC 0)), (2, .ref (aM 0)), (3, .ref (aC 36)), (4, .int (nI i))]) hx hb dL_law_1105 hl (by decide) rfl (fun ls hl => ?_)
  refine lv_aload_n hx hb dL_law_1107 rfl (lv_at hl 4 rfl) ?_
  refine lawM (As := []) (rest := []) 0 cx (c_X7_thrown l dC dI cyI cyZ aM hL.2.1 M1) gL_law_X7_thrown rfl ⟨rfl, rfl⟩ (by decide +kernel) ⟨(Nat.le_of_ble_eq_true rfl), (Nat.le_of_ble_eq_true rfl)⟩ hL hI hS rfl hl.1 rfl (Nat.le_of_ble_eq_true rfl) dL_law_1108 ⟨by omega, by omega⟩ (fun r7 M2 H locs hm hI hS => ?_)
  obtain ⟨h8, h9⟩ := hm
  rw [h9] at hI
  refine lv_iload hx hb dL_law_1111 (lv_at hl 1 rfl) ?_
  have fin : W p l e room_1 s m #[Value.ref b] below meth c H locs (cells + 4) (slots + 24) Q (F0 m 1135 ls []) := by
    refine lv_goto (tgt := 1206) hx hb dL_law_1135 (by decide) ?_
    exact W.widen (by omega) (by omega) (KK _ _ _ _ ls ⟨hag.2.2, by rw [h7]; exact kk_powerLeft hRel.2 (xs (nI (i + 1)).toNatClampNeg)⟩ hI hS (lv_sub hl [2, 3, 4, 5, 6] rfl))
  refine lv_icmp_eq (tgt := 1118) hx hb dL_law_1113 (by decide) (fun c1 => ?_) (fun c1 => absurd (h8.trans hag.1) c1)
  refine lv_iload hx hb dL_law_1118 (lv_at hl 1 rfl) ?_
  refine lv_if_ne (tgt := 1135) hx hb dL_law_1120 (by decide) (fun c2 => fin) (fun c2 => ?_)
  have h0 : r5 = 0 := c2
  refine lv_aload_n hx hb dL_law_1123 rfl (lv_at hl 5 rfl) ?_
  refine lv_iconst (v := 0) hx hb dL_law_1124 (by decide) ?_
  refine va_lald hx hb hL.2.2.2.2.2.1 hI.1 36 1 rfl rfl vp_01 dL_law_1125 ?_
  have he : T 18 0 = r6 := (hag.2.1 h0).trans h6.symm
  refine lv_iload hx hb dL_law_1126 (lv_at hl 0 rfl) ?_
  refine lv_i2l (v := r6.toInt64) hx hb dL_law_1128 rfl ?_
  refine W.lcmp hx hb dL_law_1129 ?_
  refine lv_if_eq (tgt := 1135) hx hb dL_law_1130 (by decide) (fun c3 => fin) (fun c3 => absurd (by rw [he]; exact lg_self _) c3)
set_option maxHeartbeats 1000000 in
set_option maxRecDepth 100000 in
theorem law_going {p : Program} {l : Launch} {e : Env} {s : State} {m : MethodId} {below : List Frame} {meth : Method} {c : Code} {Q : State → Prop} {dC : Nat → ClassId} {dI : Nat → Nat → Nat} {cyI cyZ cyJ cyB : ClassId} {aC aM : Nat → Nat} {b L i : Nat} {xs : Nat → Int32} (hlf : l.stackTraces = false) (cx : CallFix p m c cL_law 7 s #[Value.ref b] wsL_law RL) (hX : va_X b L xs s s.heap) (hbl : b < s.heap.size) (hL : LC (dC, dI) cyI cyZ cyJ cyB aC aM s) (hi : i + 3 ≤ L) (hLb : L ≤ 1536) {C M : zS} {H : Heap} {locs : List Loc} {ls : Array Slot} {cells slots : Nat} (hRel : RK C M) (hI : LI (dC, dI) cyI cyZ cyJ aC aM C M H) (hS : va_S (lA s) s.heap H locs) (hl : lv_has ls 7 [(0, .ref b), (1, .ref (aC 0)), (2, .ref (aM 0)), (3, .ref (aC 36)), (4, .int (nI i))]) (hcl : cells + 8 ≤ room_1.cells) (hsl : slots + 64 ≤ room_1.slots) (KK : law_KK p l e s m below meth c Q dC dI cyI cyZ cyJ aC aM b i cells slots) : W p l e room_1 s m #[Value.ref b] below meth c H locs cells slots Q (F0 m 1138 ls []) := by
  obtain ⟨hx, hb, hml, hown, hts⟩ := id cx
  have hbA : ¬ lA s b := Nat.not_le.mpr hbl
  refine lv_aload_n hx hb dL_law_1138 rfl (lv_at hl 1 rfl) ?_
  refine lv_aload_n hx hb dL_law_1139 rfl (lv_at hl 0 rfl) ?_
  refine lv_iload hx hb dL_law_1140 (lv_at hl 4 rfl) ?_
  refine lv_iconst (v := nI 1) hx hb dL_law_1142 (by decide) ?_
  refine zAddN (a := i) (b := 1) hx hb dL_law_1143 ?_
  refine va_sld hx hb hX hbl hbA hS (vp_in_nI (by omega) (by omega)) dL_law_1144 ?_
  refine lv_aload_n hx hb dL_law_1145 rfl (lv_at hl 0 rfl) ?_
  refine lv_iload hx hb dL_law_1146 (lv_at hl 4 rfl) ?_
  refine lv_iconst (v := nI 2) hx hb dL_law_1148 (by decide) ?_
  refine zAddN (a := i) (b := 2) hx hb dL_law_1149 ?_
  refine va_sld hx hb hX hbl hbA hS (vp_in_nI (by omega) (by omega)) dL_law_1150 ?_
  refine lv_aload_n hx hb dL_law_1151 rfl (lv_at hl 3 rfl) ?_
  refine lawL (av := [.ref (aC 0), .int (xs (nI (i + 1)).toNatClampNeg), .int (xs (nI (i + 2)).toNatClampNeg), .ref (aC 36)]) (rest := []) 4 cx (c_L_going l dC dI cyI cyJ cyB aC hL.1 hlf C (xs (nI (i + 1)).toNatClampNeg) (xs (nI (i + 2)).toNatClampNeg)) gL_law_L_going rfl ⟨rfl, rfl⟩ (by decide +kernel) ⟨(Nat.le_of_ble_eq_true rfl), (Nat.le_of_ble_eq_true rfl)⟩ hL hI hS rfl hl.1 rfl (Nat.le_of_ble_eq_true rfl) dL_law_1152 ⟨by omega, by omega⟩ (fun r5 T H locs hp hI hS => ?_)
  refine lv_istore (lv' := [(5, .int r5), (0, .ref b), (1, .ref (aC 0)), (2, .ref (aM 0)), (3, .ref (aC 36)), (4, .int (nI i))]) hx hb dL_law_1155 hl (by decide) rfl (fun ls hl => ?_)
  refine lv_aload_n hx hb dL_law_1157 rfl (lv_at hl 3 rfl) ?_
  refine lv_aload_n hx hb dL_law_1158 rfl (lv_at hl 1 rfl) ?_
  refine lv_iload hx hb dL_law_1159 (lv_at hl 5 rfl) ?_
  refine lv_iconst (v := nI 1) hx hb dL_law_1161 (by decide) ?_
  refine zAddN (a := i) (b := 1) hx hb dL_law_1162 ?_
  refine va_sld hx hb hX hbl hbA hS (vp_in_nI (by omega) (by omega)) dL_law_1163 ?_
  refine lv_aload_n hx hb dL_law_1164 rfl (lv_at hl 1 rfl) ?_
  refine lv_iload hx hb dL_law_1165 (lv_at hl 5 rfl) ?_
  refine lv_iconst (v := nI 2) hx hb dL_law_1167 (by decide) ?_
  refine zAddN (a := i) (b := 2) hx hb dL_law_1168 ?_
  refine va_sld hx hb hX hbl hbA hS (vp_in_nI (by omega) (by omega)) dL_law_1169 ?_
  refine lawM (As := [.int (xs (nI (i + 1)).toNatClampNeg), .int (xs (nI (i + 2)).toNatClampNeg)]) (rest := []) 2 cx (c_X7_going l dC dI cyI cyZ aM hL.2.1 M (xs (nI (i + 1)).toNatClampNeg) (xs (nI (i + 2)).toNatClampNeg)) gL_law_X7_going rfl ⟨rfl, rfl⟩ (by decide +kernel) ⟨(Nat.le_of_ble_eq_true rfl), (Nat.le_of_ble_eq_true rfl)⟩ hL hI hS rfl hl.1 rfl (Nat.le_of_ble_eq_true rfl) dL_law_1170 ⟨by omega, by omega⟩ (fun r6 M1 H locs hm hI hS => ?_)
  obtain ⟨h6, h7⟩ := hm
  have hag := law_agree nfO hp (by rw [h7]; exact eq_goingC hRel.1 (xs (nI (i + 1)).toNatClampNeg) (xs (nI (i + 2)).toNatClampNeg) : LR nO (t_X6_going C (xs (nI (i + 1)).toNatClampNeg) (xs (nI (i + 2)).toNatClampNeg)) (f_X6_going C (xs (nI (i + 1)).toNatClampNeg) (xs (nI (i + 2)).toNatClampNeg)) (f_X7_going M (xs (nI (i + 1)).toNatClampNeg) (xs (nI (i + 2)).toNatClampNeg)) C C M1)
  refine lv_istore (lv' := [(6, .int r6), (5, .int r5), (0, .ref b), (1, .ref (aC 0)), (2, .ref (aM 0)), (3, .ref (aC 36)), (4, .int (nI i))]) hx hb dL_law_1173 hl (by decide) rfl (fun ls hl => ?_)
  refine lv_aload_n hx hb dL_law_1175 rfl (lv_at hl 4 rfl) ?_
  refine lawM (As := []) (rest := []) 0 cx (c_X7_thrown l dC dI cyI cyZ aM hL.2.1 M1) gL_law_X7_thrown rfl ⟨rfl, rfl⟩ (by decide +kernel) ⟨(Nat.le_of_ble_eq_true rfl), (Nat.le_of_ble_eq_true rfl)⟩ hL hI hS rfl hl.1 rfl (Nat.le_of_ble_eq_true rfl) dL_law_1176 ⟨by omega, by omega⟩ (fun r7 M2 H locs hm hI hS => ?_)
  obtain ⟨h8, h9⟩ := hm
  rw [h9] at hI
  refine lv_iload hx hb dL_law_1179 (lv_at hl 1 rfl) ?_
  have fin : W p l e room_1 s m #[Value.ref b] below meth c H locs (cells + 4) (slots + 24) Q (F0 m 1203 ls []) := by
    refine lv_goto (tgt := 1206) hx hb dL_law_1203 (by decide) ?_
    exact W.widen (by omega) (by omega) (KK _ _ _ _ ls ⟨hag.2.2, by rw [h7]; exact kk_going hRel.2 (xs (nI (i + 1)).toNatClampNeg) (xs (nI (i + 2)).toNatClampNeg)⟩ hI hS (lv_sub hl [2, 3, 4, 5, 6] rfl))
  refine lv_icmp_eq (tgt := 1186) hx hb dL_law_1181 (by decide) (fun c1 => ?_) (fun c1 => absurd (h8.trans hag.1) c1)
  refine lv_iload hx hb dL_law_1186 (lv_at hl 1 rfl) ?_
  refine lv_if_ne (tgt := 1203) hx hb dL_law_1188 (by decide) (fun c2 => fin) (fun c2 => ?_)
  have h0 : r5 = 0 := c2
  refine lv_aload_n hx hb dL_law_1191 rfl (lv_at hl 5 rfl) ?_
  refine lv_iconst (v := 0) hx hb dL_law_1192 (by decide) ?_
  refine va_lald hx hb hL.2.2.2.2.2.1 hI.1 36 1 rfl rfl vp_01 dL_law_1193 ?_
  have he : T 18 0 = r6 := (hag.2.1 h0).trans h6.symm
  refine lv_iload hx hb dL_law_1194 (lv_at hl 0 rfl) ?_
  refine lv_i2l (v := r6.toInt64) hx hb dL_law_1196 rfl ?_
  refine W.lcmp hx hb dL_law_1197 ?_
  refine lv_if_eq (tgt := 1203) hx hb dL_law_1198 (by decide) (fun c3 => fin) (fun c3 => absurd (by rw [he]; exact lg_self _) c3)
