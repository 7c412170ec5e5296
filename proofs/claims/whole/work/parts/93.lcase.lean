set_option maxHeartbeats 1000000 in
set_option maxRecDepth 100000 in
theorem law_net {p : Program} {l : Launch} {e : Env} {s : State} {m : MethodId} {below : List Frame} {meth : Method} {c : Code} {Q : State → Prop} {dC : Nat → ClassId} {dI : Nat → Nat → Nat} {cyI cyZ cyJ cyB : ClassId} {aC aM : Nat → Nat} {b L i : Nat} {xs : Nat → Int32} (hlf : l.stackTraces = false) (cx : CallFix p m c cL_law 7 s #[Value.ref b] wsL_law RL) (hX : va_X b L xs s s.heap) (hbl : b < s.heap.size) (hL : LC (dC, dI) cyI cyZ cyJ cyB aC aM s) (hi : i + 3 ≤ L) (hLb : L ≤ 1536) {C M : zS} {H : Heap} {locs : List Loc} {ls : Array Slot} {cells slots : Nat} (hRel : RK C M) (hI : LI (dC, dI) cyI cyZ cyJ aC aM C M H) (hS : va_S (lA s) s.heap H locs) (hl : lv_has ls 7 [(0, .ref b), (1, .ref (aC 0)), (2, .ref (aM 0)), (3, .ref (aC 36)), (4, .int (nI i))]) (hcl : cells + 8 ≤ room_1.cells) (hsl : slots + 64 ≤ room_1.slots) (KK : law_KK p l e s m below meth c Q dC dI cyI cyZ cyJ aC aM b i cells slots) : W p l e room_1 s m #[Value.ref b] below meth c H locs cells slots Q (F0 m 727 ls []) := by
  obtain ⟨hx, hb, hml, hown, hts⟩ := id cx
  have hbA : ¬ lA s b := Nat.not_le.mpr hbl
  refine lv_aload_n hx hb dL_law_727 rfl (lv_at hl 1 rfl) ?_
  refine lv_aload_n hx hb dL_law_728 rfl (lv_at hl 0 rfl) ?_
  refine lv_iload hx hb dL_law_729 (lv_at hl 4 rfl) ?_
  refine lv_iconst (v := nI 1) hx hb dL_law_731 (by decide) ?_
  refine zAddN (a := i) (b := 1) hx hb dL_law_732 ?_
  refine va_sld hx hb hX hbl hbA hS (vp_in_nI (by omega) (by omega)) dL_law_733 ?_
  refine lv_aload_n hx hb dL_law_734 rfl (lv_at hl 3 rfl) ?_
  refine lawL (av := [.ref (aC 0), .int (xs (nI (i + 1)).toNatClampNeg), .ref (aC 36)]) (rest := []) 3 cx (c_L_net l dC dI cyI cyJ cyB aC hL.1 hlf C (xs (nI (i + 1)).toNatClampNeg)) gL_law_L_net rfl ⟨rfl, rfl⟩ (by decide +kernel) ⟨(Nat.le_of_ble_eq_true rfl), (Nat.le_of_ble_eq_true rfl)⟩ hL hI hS rfl hl.1 rfl (Nat.le_of_ble_eq_true rfl) dL_law_735 ⟨by omega, by omega⟩ (fun r5 T H locs hp hI hS => ?_)
  refine lv_istore (lv' := [(5, .int r5), (0, .ref b), (1, .ref (aC 0)), (2, .ref (aM 0)), (3, .ref (aC 36)), (4, .int (nI i))]) hx hb dL_law_738 hl (by decide) rfl (fun ls hl => ?_)
  refine lv_aload_n hx hb dL_law_740 rfl (lv_at hl 3 rfl) ?_
  refine lv_aload_n hx hb dL_law_741 rfl (lv_at hl 1 rfl) ?_
  refine lv_iload hx hb dL_law_742 (lv_at hl 5 rfl) ?_
  refine lv_iconst (v := nI 1) hx hb dL_law_744 (by decide) ?_
  refine zAddN (a := i) (b := 1) hx hb dL_law_745 ?_
  refine va_sld hx hb hX hbl hbA hS (vp_in_nI (by omega) (by omega)) dL_law_746 ?_
  refine lawM (As := [.int (xs (nI (i + 1)).toNatClampNeg)]) (rest := []) 1 cx (c_X7_net l dC dI cyI cyZ aM hL.2.1 M (xs (nI (i + 1)).toNatClampNeg)) gL_law_X7_net rfl ⟨rfl, rfl⟩ (by decide +kernel) ⟨(Nat.le_of_ble_eq_true rfl), (Nat.le_of_ble_eq_true rfl)⟩ hL hI hS rfl hl.1 rfl (Nat.le_of_ble_eq_true rfl) dL_law_747 ⟨by omega, by omega⟩ (fun r6 M1 H locs hm hI hS => ?_)
  obtain ⟨h6, h7⟩ := hm
  have hag := law_agree nfO hp (by rw [h7]; exact eq_netC hRel.1 (xs (nI (i + 1)).toNatClampNeg) : LR nO (t_X6_net C (xs (nI (i + 1)).toNatClampNeg)) (f_X6_net C (xs (nI (i + 1)).toNatClampNeg)) (f_X7_net M (xs (nI (i + 1)).toNatClampNeg)) C C M1)
  refine lv_istore (lv' := [(6, .int r6), (5, .int r5), (0, .ref b), (1, .ref (aC 0)), (2, .ref (aM 0)), (3, .ref (aC 36)), (4, .int (nI i))]) hx hb dL_law_750 hl (by decide) rfl (fun ls hl => ?_)
  refine lv_aload_n hx hb dL_law_752 rfl (lv_at hl 4 rfl) ?_
  refine lawM (As := []) (rest := []) 0 cx (c_X7_thrown l dC dI cyI cyZ aM hL.2.1 M1) gL_law_X7_thrown rfl ⟨rfl, rfl⟩ (by decide +kernel) ⟨(Nat.le_of_ble_eq_true rfl), (Nat.le_of_ble_eq_true rfl)⟩ hL hI hS rfl hl.1 rfl (Nat.le_of_ble_eq_true rfl) dL_law_753 ⟨by omega, by omega⟩ (fun r7 M2 H locs hm hI hS => ?_)
  obtain ⟨h8, h9⟩ := hm
  rw [h9] at hI
  refine lv_iload hx hb dL_law_756 (lv_at hl 1 rfl) ?_
  have fin : W p l e room_1 s m #[Value.ref b] below meth c H locs (cells + 4) (slots + 24) Q (F0 m 780 ls []) := by
    refine lv_goto (tgt := 1206) hx hb dL_law_780 (by decide) ?_
    exact W.widen (by omega) (by omega) (KK _ _ _ _ ls ⟨hag.2.2, by rw [h7]; exact kk_net hRel.2 (xs (nI (i + 1)).toNatClampNeg)⟩ hI hS (lv_sub hl [2, 3, 4, 5, 6] rfl))
  refine lv_icmp_eq (tgt := 763) hx hb dL_law_758 (by decide) (fun c1 => ?_) (fun c1 => absurd (h8.trans hag.1) c1)
  refine lv_iload hx hb dL_law_763 (lv_at hl 1 rfl) ?_
  refine lv_if_ne (tgt := 780) hx hb dL_law_765 (by decide) (fun c2 => fin) (fun c2 => ?_)
  have h0 : r5 = 0 := c2
  refine lv_aload_n hx hb dL_law_768 rfl (lv_at hl 5 rfl) ?_
  refine lv_iconst (v := 0) hx hb dL_law_769 (by decide) ?_
  refine va_lald hx hb hL.2.2.2.2.2.1 hI.1 36 1 rfl rfl vp_01 dL_law_770 ?_
  have he : T 18 0 = r6 := (hag.2.1 h0).trans h6.symm
  refine lv_iload hx hb dL_law_771 (lv_at hl 0 rfl) ?_
  refine lv_i2l (v := r6.toInt64) hx hb dL_law_773 rfl ?_
  refine W.lcmp hx hb dL_law_774 ?_
  refine lv_if_eq (tgt := 780) hx hb dL_law_775 (by decide) (fun c3 => fin) (fun c3 => absurd (by rw [he]; exact lg_self _) c3)
set_option maxHeartbeats 1000000 in
set_option maxRecDepth 100000 in
theorem law_steps {p : Program} {l : Launch} {e : Env} {s : State} {m : MethodId} {below : List Frame} {meth : Method} {c : Code} {Q : State → Prop} {dC : Nat → ClassId} {dI : Nat → Nat → Nat} {cyI cyZ cyJ cyB : ClassId} {aC aM : Nat → Nat} {b L i : Nat} {xs : Nat → Int32} (hlf : l.stackTraces = false) (cx : CallFix p m c cL_law 7 s #[Value.ref b] wsL_law RL) (hX : va_X b L xs s s.heap) (hbl : b < s.heap.size) (hL : LC (dC, dI) cyI cyZ cyJ cyB aC aM s) (hi : i + 3 ≤ L) (hLb : L ≤ 1536) {C M : zS} {H : Heap} {locs : List Loc} {ls : Array Slot} {cells slots : Nat} (hRel : RK C M) (hI : LI (dC, dI) cyI cyZ cyJ aC aM C M H) (hS : va_S (lA s) s.heap H locs) (hl : lv_has ls 7 [(0, .ref b), (1, .ref (aC 0)), (2, .ref (aM 0)), (3, .ref (aC 36)), (4, .int (nI i))]) (hcl : cells + 8 ≤ room_1.cells) (hsl : slots + 64 ≤ room_1.slots) (KK : law_KK p l e s m below meth c Q dC dI cyI cyZ cyJ aC aM b i cells slots) : W p l e room_1 s m #[Value.ref b] below meth c H locs cells slots Q (F0 m 783 ls []) := by
  obtain ⟨hx, hb, hml, hown, hts⟩ := id cx
  have hbA : ¬ lA s b := Nat.not_le.mpr hbl
  refine lv_aload_n hx hb dL_law_783 rfl (lv_at hl 1 rfl) ?_
  refine lv_aload_n hx hb dL_law_784 rfl (lv_at hl 0 rfl) ?_
  refine lv_iload hx hb dL_law_785 (lv_at hl 4 rfl) ?_
  refine lv_iconst (v := nI 1) hx hb dL_law_787 (by decide) ?_
  refine zAddN (a := i) (b := 1) hx hb dL_law_788 ?_
  refine va_sld hx hb hX hbl hbA hS (vp_in_nI (by omega) (by omega)) dL_law_789 ?_
  refine lv_aload_n hx hb dL_law_790 rfl (lv_at hl 0 rfl) ?_
  refine lv_iload hx hb dL_law_791 (lv_at hl 4 rfl) ?_
  refine lv_iconst (v := nI 2) hx hb dL_law_793 (by decide) ?_
  refine zAddN (a := i) (b := 2) hx hb dL_law_794 ?_
  refine va_sld hx hb hX hbl hbA hS (vp_in_nI (by omega) (by omega)) dL_law_795 ?_
  refine lv_aload_n hx hb dL_law_796 rfl (lv_at hl 3 rfl) ?_
  refine lawL (av := [.ref (aC 0), .int (xs (nI (i + 1)).toNatClampNeg), .int (xs (nI (i + 2)).toNatClampNeg), .ref (aC 36)]) (rest := []) 4 cx (c_L_steps l dC dI cyI cyJ cyB aC hL.1 hlf C (xs (nI (i + 1)).toNatClampNeg) (xs (nI (i + 2)).toNatClampNeg)) gL_law_L_steps rfl ⟨rfl, rfl⟩ (by decide +kernel) ⟨(Nat.le_of_ble_eq_true rfl), (Nat.le_of_ble_eq_true rfl)⟩ hL hI hS rfl hl.1 rfl (Nat.le_of_ble_eq_true rfl) dL_law_797 ⟨by omega, by omega⟩ (fun r5 T H locs hp hI hS => ?_)
  refine lv_istore (lv' := [(5, .int r5), (0, .ref b), (1, .ref (aC 0)), (2, .ref (aM 0)), (3, .ref (aC 36)), (4, .int (nI i))]) hx hb dL_law_800 hl (by decide) rfl (fun ls hl => ?_)
  refine lv_aload_n hx hb dL_law_802 rfl (lv_at hl 3 rfl) ?_
  refine lv_aload_n hx hb dL_law_803 rfl (lv_at hl 1 rfl) ?_
  refine lv_iload hx hb dL_law_804 (lv_at hl 5 rfl) ?_
  refine lv_iconst (v := nI 1) hx hb dL_law_806 (by decide) ?_
  refine zAddN (a := i) (b := 1) hx hb dL_law_807 ?_
  refine va_sld hx hb hX hbl hbA hS (vp_in_nI (by omega) (by omega)) dL_law_808 ?_
  refine lv_aload_n hx hb dL_law_809 rfl (lv_at hl 1 rfl) ?_
  refine lv_iload hx hb dL_law_810 (lv_at hl 5 rfl) ?_
  refine lv_iconst (v := nI 2) hx hb dL_law_812 (by decide) ?_
  refine zAddN (a := i) (b := 2) hx hb dL_law_813 ?_
  refine va_sld hx hb hX hbl hbA hS (vp_in_nI (by omega) (by omega)) dL_law_814 ?_
  refine lawM (As := [.int (xs (nI (i + 1)).toNatClampNeg), .int (xs (nI (i + 2)).toNatClampNeg)]) (rest := []) 2 cx (c_X7_steps l dC dI cyI cyZ aM hL.2.1 M (xs (nI (i + 1)).toNatClampNeg) (xs (nI (i + 2)).toNatClampNeg)) gL_law_X7_steps rfl ⟨rfl, rfl⟩ (by decide +kernel) ⟨(Nat.le_of_ble_eq_true rfl), (Nat.le_of_ble_eq_true rfl)⟩ hL hI hS rfl hl.1 rfl (Nat.le_of_ble_eq_true rfl) dL_law_815 ⟨by omega, by omega⟩ (fun r6 M1 H locs hm hI hS => ?_)
  obtain ⟨h6, h7⟩ := hm
  have hag := law_agree nfO hp (by rw [h7]; exact eq_stepsC hRel.1 (xs (nI (i + 1)).toNatClampNeg) (xs (nI (i + 2)).toNatClampNeg) : LR nO (t_X6_steps C (xs (nI (i + 1)).toNatClampNeg) (xs (nI (i + 2)).toNatClampNeg)) (f_X6_steps C (xs (nI (i + 1)).toNatClampNeg) (xs (nI (i + 2)).toNatClampNeg)) (f_X7_steps M (xs (nI (i + 1)).toNatClampNeg) (xs (nI (i + 2)).toNatClampNeg)) C C M1)
  refine lv_istore (lv' := [(6, .int r6), (5, .int r5), (0, .ref b), (1, .ref (aC 0)), (2, .ref (aM 0)), (3, .ref (aC 36)), (4, .int (nI i))]) hx hb dL_law_818 hl (by decide) rfl (fun ls hl => ?_)
  refine lv_aload_n hx hb dL_law_820 rfl (lv_at hl 4 rfl) ?_
  refine lawM (As := []) (rest := []) 0 cx (c_X7_thrown l dC dI cyI cyZ aM hL.2.1 M1) gL_law_X7_thrown rfl ⟨rfl, rfl⟩ (by decide +kernel) ⟨(Nat.le_of_ble_eq_true rfl), (Nat.le_of_ble_eq_true rfl)⟩ hL hI hS rfl hl.1 rfl (Nat.le_of_ble_eq_true rfl) dL_law_821 ⟨by omega, by omega⟩ (fun r7 M2 H locs hm hI hS => ?_)
  obtain ⟨h8, h9⟩ := hm
  rw [h9] at hI
  refine lv_iload hx hb dL_law_824 (lv_at hl 1 rfl) ?_
  have fin : W p l e room_1 s m #[Value.ref b] below meth c H locs (cells + 4) (slots + 24) Q (F0 m 848 ls []) := by
    refine lv_goto (tgt := 1206) hx hb dL_law_848 (by decide) ?_
    exact W.widen (by omega) (by omega) (KK _ _ _ _ ls ⟨hag.2.2, by rw [h7]; exact kk_steps hRel.2 (xs (nI (i + 1)).toNatClampNeg) (xs (nI (i + 2)).toNatClampNeg)⟩ hI hS (lv_sub hl [2, 3, 4, 5, 6] rfl))
  refine lv_icmp_eq (tgt := 831) hx hb dL_law_826 (by decide) (fun c1 => ?_) (fun c1 => absurd (h8.trans hag.1) c1)
  refine lv_iload hx hb dL_law_831 (lv_at hl 1 rfl) ?_
  refine lv_if_ne (tgt := 848) hx hb dL_law_833 (by decide) (fun c2 => fin) (fun c2 => ?_)
  have h0 : r5 = 0 := c2
  refine lv_aload_n hx hb dL_law_836 rfl (lv_at hl 5 rfl) ?_
  refine lv_iconst (v := 0) hx hb dL_law_837 (by decide) ?_
  refine va_lald hx hb hL.2.2.2.2.2.1 hI.1 36 1 rfl rfl vp_01 dL_law_838 ?_
  have he : T 18 0 = r6 := (hag.2.1 h0).trans h6.symm
  refine lv_iload hx hb dL_law_839 (lv_at hl 0 rfl) ?_
  refine lv_i2l (v := r6.toInt64) hx hb dL_law_841 rfl ?_
  refine W.lcmp hx hb dL_law_842 ?_
  refine lv_if_eq (tgt := 848) hx hb dL_law_843 (by decide) (fun c3 => fin) (fun c3 => absurd (by rw [he]; exact lg_self _) c3)
set_option maxHeartbeats 1000000 in
set_option maxRecDepth 100000 in
theorem law_isServed {p : Program} {l : Launch} {e : Env} {s : State} {m : MethodId} {below : List Frame} {meth : Method} {c : Code} {Q : State → Prop} {dC : Nat → ClassId} {dI : Nat → Nat → Nat} {cyI cyZ cyJ cyB : ClassId} {aC aM : Nat → Nat} {b L i : Nat} {xs : Nat → Int32} (hlf : l.stackTraces = false) (cx : CallFix p m c cL_law 7 s #[Value.ref b] wsL_law RL) (hX : va_X b L xs s s.heap) (hbl : b < s.heap.size) (hL : LC (dC, dI) cyI cyZ cyJ cyB aC aM s) (hi : i + 3 ≤ L) (hLb : L ≤ 1536) {C M : zS} {H : Heap} {locs : List Loc} {ls : Array Slot} {cells slots : Nat} (hRel : RK C M) (hI : LI (dC, dI) cyI cyZ cyJ aC aM C M H) (hS : va_S (lA s) s.heap H locs) (hl : lv_has ls 7 [(0, .ref b), (1, .ref (aC 0)), (2, .ref (aM 0)), (3, .ref (aC 36)), (4, .int (nI i))]) (hcl : cells + 8 ≤ room_1.cells) (hsl : slots + 64 ≤ room_1.slots) (KK : law_KK p l e s m below meth c Q dC dI cyI cyZ cyJ aC aM b i cells slots) : W p l e room_1 s m #[Value.ref b] below meth c H locs cells slots Q (F0 m 851 ls []) := by
  obtain ⟨hx, hb, hml, hown, hts⟩ := id cx
  have hbA : ¬ lA s b := Nat.not_le.mpr hbl
  refine lv_aload_n hx hb dL_law_851 rfl (lv_at hl 1 rfl) ?_
  refine lv_aload_n hx hb dL_law_852 rfl (lv_at hl 0 rfl) ?_
  refine lv_iload hx hb dL_law_853 (lv_at hl 4 rfl) ?_
  refine lv_iconst (v := nI 1) hx hb dL_law_855 (by decide) ?_
  refine zAddN (a := i) (b := 1) hx hb dL_law_856 ?_
  refine va_sld hx hb hX hbl hbA hS (vp_in_nI (by omega) (by omega)) dL_law_857 ?_
  refine lv_aload_n hx hb dL_law_858 rfl (lv_at hl 3 rfl) ?_
  refine lawL (av := [.ref (aC 0), .int (xs (nI (i + 1)).toNatClampNeg), .ref (aC 36)]) (rest := []) 3 cx (c_L_isServed l dC dI cyI cyJ cyB aC hL.1 hlf C (xs (nI (i + 1)).toNatClampNeg)) gL_law_L_isServed rfl ⟨rfl, rfl⟩ (by decide +kernel) ⟨(Nat.le_of_ble_eq_true rfl), (Nat.le_of_ble_eq_true rfl)⟩ hL hI hS rfl hl.1 rfl (Nat.le_of_ble_eq_true rfl) dL_law_859 ⟨by omega, by omega⟩ (fun r5 T H locs hp hI hS => ?_)
  refine lv_istore (lv' := [(5, .int r5), (0, .ref b), (1, .ref (aC 0)), (2, .ref (aM 0)), (3, .ref (aC 36)), (4, .int (nI i))]) hx hb dL_law_862 hl (by decide) rfl (fun ls hl => ?_)
  refine lv_aload_n hx hb dL_law_864 rfl (lv_at hl 3 rfl) ?_
  refine lv_aload_n hx hb dL_law_865 rfl (lv_at hl 1 rfl) ?_
  refine lv_iload hx hb dL_law_866 (lv_at hl 5 rfl) ?_
  refine lv_iconst (v := nI 1) hx hb dL_law_868 (by decide) ?_
  refine zAddN (a := i) (b := 1) hx hb dL_law_869 ?_
  refine va_sld hx hb hX hbl hbA hS (vp_in_nI (by omega) (by omega)) dL_law_870 ?_
  refine lawM (As := [.int (xs (nI (i + 1)).toNatClampNeg)]) (rest := []) 1 cx (c_X7_isServed l dC dI cyI cyZ aM hL.2.1 M (xs (nI (i + 1)).toNatClampNeg)) gL_law_X7_isServed rfl ⟨rfl, rfl⟩ (by decide +kernel) ⟨(Nat.le_of_ble_eq_true rfl), (Nat.le_of_ble_eq_true rfl)⟩ hL hI hS rfl hl.1 rfl (Nat.le_of_ble_eq_true rfl) dL_law_871 ⟨by omega, by omega⟩ (fun r6 M1 H locs hm hI hS => ?_)
  obtain ⟨h6, h7⟩ := hm
  have hag := law_agree nfO hp (by rw [h7]; exact eq_servedC hRel.1 (xs (nI (i + 1)).toNatClampNeg) : LR nO (t_X6_isServed C (xs (nI (i + 1)).toNatClampNeg)) (f_X6_isServed C (xs (nI (i + 1)).toNatClampNeg)) (f_X7_isServed M (xs (nI (i + 1)).toNatClampNeg)) C C M1)
  refine lv_istore (lv' := [(6, .int r6), (5, .int r5), (0, .ref b), (1, .ref (aC 0)), (2, .ref (aM 0)), (3, .ref (aC 36)), (4, .int (nI i))]) hx hb dL_law_874 hl (by decide) rfl (fun ls hl => ?_)
  refine lv_aload_n hx hb dL_law_876 rfl (lv_at hl 4 rfl) ?_
  refine lawM (As := []) (rest := []) 0 cx (c_X7_thrown l dC dI cyI cyZ aM hL.2.1 M1) gL_law_X7_thrown rfl ⟨rfl, rfl⟩ (by decide +kernel) ⟨(Nat.le_of_ble_eq_true rfl), (Nat.le_of_ble_eq_true rfl)⟩ hL hI hS rfl hl.1 rfl (Nat.le_of_ble_eq_true rfl) dL_law_877 ⟨by omega, by omega⟩ (fun r7 M2 H locs hm hI hS => ?_)
  obtain ⟨h8, h9⟩ := hm
  rw [h9] at hI
  refine lv_iload hx hb dL_law_880 (lv_at hl 1 rfl) ?_
  have fin : W p l e room_1 s m #[Value.ref b] below meth c H locs (cells + 4) (slots + 24) Q (F0 m 911 ls []) := by
    refine lv_goto (tgt := 1206) hx hb dL_law_911 (by decide) ?_
    exact W.widen (by omega) (by omega) (KK _ _ _ _ ls ⟨hag.2.2, by rw [h7]; exact kk_isServed hRel.2 (xs (nI (i + 1)).toNatClampNeg)⟩ hI hS (lv_sub hl [2, 3, 4, 5, 6] rfl))
  refine lv_icmp_eq (tgt := 887) hx hb dL_law_882 (by decide) (fun c1 => ?_) (fun c1 => absurd (h8.trans hag.1) c1)
  refine lv_iload hx hb dL_law_887 (lv_at hl 1 rfl) ?_
  refine lv_if_ne (tgt := 911) hx hb dL_law_889 (by decide) (fun c2 => fin) (fun c2 => ?_)
  have h0 : r5 = 0 := c2
  refine lv_aload_n hx hb dL_law_892 rfl (lv_at hl 5 rfl) ?_
  refine lv_iconst (v := 0) hx hb dL_law_893 (by decide) ?_
  refine va_lald hx hb hL.2.2.2.2.2.1 hI.1 36 1 rfl rfl vp_01 dL_law_894 ?_
  have he : T 18 0 = r6 := (hag.2.1 h0).trans h6.symm
  refine lv_iload hx hb dL_law_895 (lv_at hl 0 rfl) ?_
  have tail : ∀ v : Int32, v = r6 → W p l e room_1 s m #[Value.ref b] below meth c H locs (cells + 4) (slots + 24) Q (F0 m 905 ls [.long v.toInt64, .long (oV (T 18 0) (0 : Int32).toNatClampNeg)]) := by
    intro v hv
    refine W.lcmp hx hb dL_law_905 ?_
    refine lv_if_eq (tgt := 911) hx hb dL_law_906 (by decide) (fun c3 => fin) (fun c3 => absurd (by rw [he, hv]; exact lg_self _) c3)
  refine lv_if_eq (tgt := 904) hx hb dL_law_897 (by decide) (fun c3 => ?_) (fun c3 => ?_)
  · refine lv_lconst (v := (0 : Int32).toInt64) hx hb dL_law_904 (by decide) ?_
    exact tail 0 c3.symm
  · refine lv_lconst (v := (1 : Int32).toInt64) hx hb dL_law_900 (by decide) ?_
    refine lv_goto (tgt := 905) hx hb dL_law_901 (by decide) ?_
    exact tail 1 (((f7_01 M (xs (nI (i + 1)).toNatClampNeg)).resolve_left (fun z => c3 (h6.trans z))).symm.trans h6.symm)
set_option maxHeartbeats 1000000 in
set_option maxRecDepth 100000 in
theorem law_placed {p : Program} {l : Launch} {e : Env} {s : State} {m : MethodId} {below : List Frame} {meth : Method} {c : Code} {Q : State → Prop} {dC : Nat → ClassId} {dI : Nat → Nat → Nat} {cyI cyZ cyJ cyB : ClassId} {aC aM : Nat → Nat} {b L i : Nat} {xs : Nat → Int32} (hlf : l.stackTraces = false) (cx : CallFix p m c cL_law 7 s #[Value.ref b] wsL_law RL) (hX : va_X b L xs s s.heap) (hbl : b < s.heap.size) (hL : LC (dC, dI) cyI cyZ cyJ cyB aC aM s) (hi : i + 3 ≤ L) (hLb : L ≤ 1536) {C M : zS} {H : Heap} {locs : List Loc} {ls : Array Slot} {cells slots : Nat} (hRel : RK C M) (hI : LI (dC, dI) cyI cyZ cyJ aC aM C M H) (hS : va_S (lA s) s.heap H locs) (hl : lv_has ls 7 [(0, .ref b), (1, .ref (aC 0)), (2, .ref (aM 0)), (3, .ref (aC 36)), (4, .int (nI i))]) (hcl : cells + 8 ≤ room_1.cells) (hsl : slots + 64 ≤ room_1.slots) (KK : law_KK p l e s m below meth c Q dC dI cyI cyZ cyJ aC aM b i cells slots) : W p l e room_1 s m #[Value.ref b] below meth c H locs cells slots Q (F0 m 914 ls []) := by
  obtain ⟨hx, hb, hml, hown, hts⟩ := id cx
  have hbA : ¬ lA s b := Nat.not_le.mpr hbl
  refine lv_aload_n hx hb dL_law_914 rfl (lv_at hl 1 rfl) ?_
  refine lv_aload_n hx hb dL_law_915 rfl (lv_at hl 0 rfl) ?_
  refine lv_iload hx hb dL_law_916 (lv_at hl 4 rfl) ?_
  refine lv_iconst (v := nI 1) hx hb dL_law_918 (by decide) ?_
  refine zAddN (a := i) (b := 1) hx hb dL_law_919 ?_
  refine va_sld hx hb hX hbl hbA hS (vp_in_nI (by omega) (by omega)) dL_law_920 ?_
  refine lv_aload_n hx hb dL_law_921 rfl (lv_at hl 3 rfl) ?_
  refine lawL (av := [.ref (aC 0), .int (xs (nI (i + 1)).toNatClampNeg), .ref (aC 36)]) (rest := []) 3 cx (c_L_placed l dC dI cyI cyJ cyB aC hL.1 hlf C (xs (nI (i + 1)).toNatClampNeg)) gL_law_L_placed rfl ⟨rfl, rfl⟩ (by decide +kernel) ⟨(Nat.le_of_ble_eq_true rfl), (Nat.le_of_ble_eq_true rfl)⟩ hL hI hS rfl hl.1 rfl (Nat.le_of_ble_eq_true rfl) dL_law_922 ⟨by omega, by omega⟩ (fun r5 T H locs hp hI hS => ?_)
  refine lv_istore (lv' := [(5, .int r5), (0, .ref b), (1, .ref (aC 0)), (2, .ref (aM 0)), (3, .ref (aC 36)), (4, .int (nI i))]) hx hb dL_law_925 hl (by decide) rfl (fun ls hl => ?_)
  refine lv_aload_n hx hb dL_law_927 rfl (lv_at hl 3 rfl) ?_
  refine lv_aload_n hx hb dL_law_928 rfl (lv_at hl 1 rfl) ?_
  refine lv_iload hx hb dL_law_929 (lv_at hl 5 rfl) ?_
  refine lv_iconst (v := nI 1) hx hb dL_law_931 (by decide) ?_
  refine zAddN (a := i) (b := 1) hx hb dL_law_932 ?_
  refine va_sld hx hb hX hbl hbA hS (vp_in_nI (by omega) (by omega)) dL_law_933 ?_
  refine lawM (As := [.int (xs (nI (i + 1)).toNatClampNeg)]) (rest := []) 1 cx (c_X7_placed l dC dI cyI cyZ aM hL.2.1 M (xs (nI (i + 1)).toNatClampNeg)) gL_law_X7_placed rfl ⟨rfl, rfl⟩ (by decide +kernel) ⟨(Nat.le_of_ble_eq_true rfl), (Nat.le_of_ble_eq_true rfl)⟩ hL hI hS rfl hl.1 rfl (Nat.le_of_ble_eq_true rfl) dL_law_934 ⟨by omega, by omega⟩ (fun r6 M1 H locs hm hI hS => ?_)
  obtain ⟨h6, h7⟩ := hm
  have hag := law_agree nfO hp (by rw [h7]; exact eq_placedC hRel.1 (xs (nI (i + 1)).toNatClampNeg) : LR nO (t_X6_placed C (xs (nI (i + 1)).toNatClampNeg)) (f_X6_placed C (xs (nI (i + 1)).toNatClampNeg)) (f_X7_placed M (xs (nI (i + 1)).toNatClampNeg)) C C M1)
  refine lv_istore (lv' := [(6, .int r6), (5, .int r5), (0, .ref b), (1, .ref (aC 0)), (2, .ref (aM 0)), (3, .ref (aC 36)), (4, .int (nI i))]) hx hb dL_law_937 hl (by decide) rfl (fun ls hl => ?_)
  refine lv_aload_n hx hb dL_law_939 rfl (lv_at hl 4 rfl) ?_
  refine lawM (As := []) (rest := []) 0 cx (c_X7_thrown l dC dI cyI cyZ aM hL.2.1 M1) gL_law_X7_thrown rfl ⟨rfl, rfl⟩ (by decide +kernel) ⟨(Nat.le_of_ble_eq_true rfl), (Nat.le_of_ble_eq_true rfl)⟩ hL hI hS rfl hl.1 rfl (Nat.le_of_ble_eq_true rfl) dL_law_940 ⟨by omega, by omega⟩ (fun r7 M2 H locs hm hI hS => ?_)
  obtain ⟨h8, h9⟩ := hm
  rw [h9] at hI
  refine lv_iload hx hb dL_law_943 (lv_at hl 1 rfl) ?_
  have fin : W p l e room_1 s m #[Value.ref b] below meth c H locs (cells + 4) (slots + 24) Q (F0 m 967 ls []) := by
    refine lv_goto (tgt := 1206) hx hb dL_law_967 (by decide) ?_
    exact W.widen (by omega) (by omega) (KK _ _ _ _ ls ⟨hag.2.2, by rw [h7]; exact kk_placed hRel.2 (xs (nI (i + 1)).toNatClampNeg)⟩ hI hS (lv_sub hl [2, 3, 4, 5, 6] rfl))
  refine lv_icmp_eq (tgt := 950) hx hb dL_law_945 (by decide) (fun c1 => ?_) (fun c1 => absurd (h8.trans hag.1) c1)
  refine lv_iload hx hb dL_law_950 (lv_at hl 1 rfl) ?_
  refine lv_if_ne (tgt := 967) hx hb dL_law_952 (by decide) (fun c2 => fin) (fun c2 => ?_)
  have h0 : r5 = 0 := c2
  refine lv_aload_n hx hb dL_law_955 rfl (lv_at hl 5 rfl) ?_
  refine lv_iconst (v := 0) hx hb dL_law_956 (by decide) ?_
  refine va_lald hx hb hL.2.2.2.2.2.1 hI.1 36 1 rfl rfl vp_01 dL_law_957 ?_
  have he : T 18 0 = r6 := (hag.2.1 h0).trans h6.symm
  refine lv_iload hx hb dL_law_958 (lv_at hl 0 rfl) ?_
  refine lv_i2l (v := r6.toInt64) hx hb dL_law_960 rfl ?_
  refine W.lcmp hx hb dL_law_961 ?_
  refine lv_if_eq (tgt := 967) hx hb dL_law_962 (by decide) (fun c3 => fin) (fun c3 => absurd (by rw [he]; exact lg_self _) c3)
