set_option maxHeartbeats 1000000 in
set_option maxRecDepth 100000 in
theorem c_L_sign (l : Launch) (dC : Nat → ClassId) (dI : Nat → Nat → Nat) (cyI cyJ cyB : ClassId) (ad : Nat → Nat) (hI : zI ad 37) (hlf : l.stackTraces = false) (S : zS) (x0 x1 : Int32) (hlv : lvOK (S 1)) : lMet l (dC, dI) cyI cyJ cyB ad yL_sign wsL_sign ({ frames := 13, cells := 8, slots := 64, locals := 423 } : Room) [.ref (ad 0), .int x0, .int x1, .ref (ad 36)] S 8 64 (lPost nO (t_X6_sign S x0 x1) (f_X6_sign S x0 x1) S S) := by
  refine lStart (by decide) rfl (Nat.le_of_ble_eq_true rfl) ?_
  intro p e s m args below meth c ls cx hrt hlk hex hP hK hXs hl
  have hl : lv_has ls 5 [(0, .ref (ad 0)), (1, .int x0), (2, .int x1), (3, .ref (ad 36))] := hl
  have hS : va_S (zA ad 37 s.heap.size) s.heap s.heap [] := va_S.rf
  have hI6 : zI ad 36 := fun i j hi hj => hI i j (by omega) (by omega)
  refine lv_aload_n cx.1 cx.2.1 dL_sign_0 rfl (lv_at hl 3 rfl) ?_
  refine lv_iconst (v := 0) cx.1 cx.2.1 dL_sign_1 (by decide) ?_
  refine lv_aload_n cx.1 cx.2.1 dL_sign_2 rfl (lv_at hl 0 rfl) ?_
  refine lv_iload_n cx.1 cx.2.1 dL_sign_3 rfl (lv_at hl 1 rfl) ?_
  refine lv_iload_n cx.1 cx.2.1 dL_sign_4 rfl (lv_at hl 2 rfl) ?_
  refine lCall (X := xS) (tys' := [(cyI, .int), (cyB, .byte)]) (As := [.int x0, .int x1]) (rest := [.int 0, .ref (ad 36)]) 2 cx (c_X6_sign l dC dI cyI cyB ad hI6 hlf S x0 x1 hlv) gL_sign_X6_sign rfl ⟨rfl, rfl⟩ (by decide +kernel) ⟨(Nat.le_of_ble_eq_true rfl), (Nat.le_of_ble_eq_true rfl)⟩ (xS_X ad 36) (fun _ _ h => h.1) hI hXs (hK.sub (tys' := [(cyI, .int), (cyB, .byte)]) [0, 2] rfl) hP hS rfl hl.1 rfl (Nat.le_of_ble_eq_true rfl) dL_sign_5 ⟨(Nat.le_of_ble_eq_true rfl), (Nat.le_of_ble_eq_true rfl)⟩ (fun E ce q9 H1 locs1 hE hP hS hce hcv hcl => ?_) (fun r T H1 locs1 hp hP hS => ?_)
  · rcases tE_sign S x0 x1 with h9 | h9
    · rw [h9] at hE; cases hE
    · rw [h9] at hE
      obtain rfl : xIO = E := Option.some.inj hE
      refine vx_catch (own := RL) (name := xIO) (E := xIO) (hown := cx.2.2.2.1) [] (⟨0, 10, 13, 13⟩ : ExceptionTableEntry) [] (by rw [hex]; rfl) (fun z hz => by cases hz) rfl (by decide) (cx.2.2.2.2 (Cond.classLink RL 13 "java/lang/IndexOutOfBoundsException") (by decide +kernel)) (va_Nw.use rfl (hXs.1.1.2.2.2.2.2 xIO (by decide))) hce hcv hcl ?_
      refine lv_astore (lv' := [(4, .ref q9), (0, .ref (ad 0)), (1, .int x0), (2, .int x1), (3, .ref (ad 36))]) cx.1 cx.2.1 dL_sign_13 hl (by decide) rfl (fun ls hl => ?_)
      refine lv_iconst (v := 1) cx.1 cx.2.1 dL_sign_15 (by decide) ?_
      exact lRet cx hrt hlk rfl hS hP (Or.inr ⟨(xIO, 1), by decide, h9, rfl, rfl⟩) (Nat.le_of_ble_eq_true rfl) (Nat.le_of_ble_eq_true rfl) dL_sign_16
  · obtain ⟨h7, h8, h9⟩ := hp
    subst h7
    rw [h8] at hP
    refine lv_i2l (v := (f_X6_sign S x0 x1).toInt64) cx.1 cx.2.1 dL_sign_8 rfl ?_
    refine lStore (v := (f_X6_sign S x0 x1)) cx hI hK hP hS dL_sign_9 (fun H locs hP hS => ?_)
    refine lv_goto (tgt := 17) cx.1 cx.2.1 dL_sign_10 (by decide) ?_
    refine lv_iconst (v := 0) cx.1 cx.2.1 dL_sign_17 (by decide) ?_
    exact lRet cx hrt hlk rfl hS hP (Or.inl ⟨h9, rfl, rfl⟩) (Nat.le_of_ble_eq_true rfl) (Nat.le_of_ble_eq_true rfl) dL_sign_18
set_option maxHeartbeats 1000000 in
set_option maxRecDepth 100000 in
theorem law_sign {p : Program} {l : Launch} {e : Env} {s : State} {m : MethodId} {below : List Frame} {meth : Method} {c : Code} {Q : State → Prop} {dC : Nat → ClassId} {dI : Nat → Nat → Nat} {cyI cyZ cyJ cyB : ClassId} {aC aM : Nat → Nat} {b L i : Nat} {xs : Nat → Int32} (hlf : l.stackTraces = false) (cx : CallFix p m c cL_law 7 s #[Value.ref b] wsL_law RL) (hX : va_X b L xs s s.heap) (hbl : b < s.heap.size) (hL : LC (dC, dI) cyI cyZ cyJ cyB aC aM s) (hi : i + 3 ≤ L) (hLb : L ≤ 1536) {C M : zS} {H : Heap} {locs : List Loc} {ls : Array Slot} {cells slots : Nat} (hRel : RK C M) (hI : LI (dC, dI) cyI cyZ cyJ aC aM C M H) (hS : va_S (lA s) s.heap H locs) (hl : lv_has ls 7 [(0, .ref b), (1, .ref (aC 0)), (2, .ref (aM 0)), (3, .ref (aC 36)), (4, .int (nI i))]) (hcl : cells + 8 ≤ room_1.cells) (hsl : slots + 64 ≤ room_1.slots) (KK : law_KK p l e s m below meth c Q dC dI cyI cyZ cyJ aC aM b i cells slots) : W p l e room_1 s m #[Value.ref b] below meth c H locs cells slots Q (F0 m 659 ls []) := by
  obtain ⟨hx, hb, hml, hown, hts⟩ := id cx
  have hbA : ¬ lA s b := Nat.not_le.mpr hbl
  refine lv_aload_n hx hb dL_law_659 rfl (lv_at hl 1 rfl) ?_
  refine lv_aload_n hx hb dL_law_660 rfl (lv_at hl 0 rfl) ?_
  refine lv_iload hx hb dL_law_661 (lv_at hl 4 rfl) ?_
  refine lv_iconst (v := nI 1) hx hb dL_law_663 (by decide) ?_
  refine zAddN (a := i) (b := 1) hx hb dL_law_664 ?_
  refine va_sld hx hb hX hbl hbA hS (vp_in_nI (by omega) (by omega)) dL_law_665 ?_
  refine lv_aload_n hx hb dL_law_666 rfl (lv_at hl 0 rfl) ?_
  refine lv_iload hx hb dL_law_667 (lv_at hl 4 rfl) ?_
  refine lv_iconst (v := nI 2) hx hb dL_law_669 (by decide) ?_
  refine zAddN (a := i) (b := 2) hx hb dL_law_670 ?_
  refine va_sld hx hb hX hbl hbA hS (vp_in_nI (by omega) (by omega)) dL_law_671 ?_
  refine lv_aload_n hx hb dL_law_672 rfl (lv_at hl 3 rfl) ?_
  refine lawL (av := [.ref (aC 0), .int (xs (nI (i + 1)).toNatClampNeg), .int (xs (nI (i + 2)).toNatClampNeg), .ref (aC 36)]) (rest := []) 4 cx (c_L_sign l dC dI cyI cyJ cyB aC hL.1 hlf C (xs (nI (i + 1)).toNatClampNeg) (xs (nI (i + 2)).toNatClampNeg) hRel.1.lv) gL_law_L_sign rfl ⟨rfl, rfl⟩ (by decide +kernel) ⟨(Nat.le_of_ble_eq_true rfl), (Nat.le_of_ble_eq_true rfl)⟩ hL hI hS rfl hl.1 rfl (Nat.le_of_ble_eq_true rfl) dL_law_673 ⟨by omega, by omega⟩ (fun r5 T H locs hp hI hS => ?_)
  refine lv_istore (lv' := [(5, .int r5), (0, .ref b), (1, .ref (aC 0)), (2, .ref (aM 0)), (3, .ref (aC 36)), (4, .int (nI i))]) hx hb dL_law_676 hl (by decide) rfl (fun ls hl => ?_)
  refine lv_aload_n hx hb dL_law_678 rfl (lv_at hl 3 rfl) ?_
  refine lv_aload_n hx hb dL_law_679 rfl (lv_at hl 1 rfl) ?_
  refine lv_iload hx hb dL_law_680 (lv_at hl 5 rfl) ?_
  refine lv_iconst (v := nI 1) hx hb dL_law_682 (by decide) ?_
  refine zAddN (a := i) (b := 1) hx hb dL_law_683 ?_
  refine va_sld hx hb hX hbl hbA hS (vp_in_nI (by omega) (by omega)) dL_law_684 ?_
  refine lv_aload_n hx hb dL_law_685 rfl (lv_at hl 1 rfl) ?_
  refine lv_iload hx hb dL_law_686 (lv_at hl 5 rfl) ?_
  refine lv_iconst (v := nI 2) hx hb dL_law_688 (by decide) ?_
  refine zAddN (a := i) (b := 2) hx hb dL_law_689 ?_
  refine va_sld hx hb hX hbl hbA hS (vp_in_nI (by omega) (by omega)) dL_law_690 ?_
  refine lawM (As := [.int (xs (nI (i + 1)).toNatClampNeg), .int (xs (nI (i + 2)).toNatClampNeg)]) (rest := []) 2 cx (c_X7_sign l dC dI cyI cyZ aM hL.2.1 M (xs (nI (i + 1)).toNatClampNeg) (xs (nI (i + 2)).toNatClampNeg)) gL_law_X7_sign rfl ⟨rfl, rfl⟩ (by decide +kernel) ⟨(Nat.le_of_ble_eq_true rfl), (Nat.le_of_ble_eq_true rfl)⟩ hL hI hS rfl hl.1 rfl (Nat.le_of_ble_eq_true rfl) dL_law_691 ⟨by omega, by omega⟩ (fun r6 M1 H locs hm hI hS => ?_)
  obtain ⟨h6, h7⟩ := hm
  have hag := law_agree nfO hp (by rw [h7]; exact eq_signC hRel (xs (nI (i + 1)).toNatClampNeg) (xs (nI (i + 2)).toNatClampNeg) : LR nO (t_X6_sign C (xs (nI (i + 1)).toNatClampNeg) (xs (nI (i + 2)).toNatClampNeg)) (f_X6_sign C (xs (nI (i + 1)).toNatClampNeg) (xs (nI (i + 2)).toNatClampNeg)) (f_X7_sign M (xs (nI (i + 1)).toNatClampNeg) (xs (nI (i + 2)).toNatClampNeg)) C C M1)
  refine lv_istore (lv' := [(6, .int r6), (5, .int r5), (0, .ref b), (1, .ref (aC 0)), (2, .ref (aM 0)), (3, .ref (aC 36)), (4, .int (nI i))]) hx hb dL_law_694 hl (by decide) rfl (fun ls hl => ?_)
  refine lv_aload_n hx hb dL_law_696 rfl (lv_at hl 4 rfl) ?_
  refine lawM (As := []) (rest := []) 0 cx (c_X7_thrown l dC dI cyI cyZ aM hL.2.1 M1) gL_law_X7_thrown rfl ⟨rfl, rfl⟩ (by decide +kernel) ⟨(Nat.le_of_ble_eq_true rfl), (Nat.le_of_ble_eq_true rfl)⟩ hL hI hS rfl hl.1 rfl (Nat.le_of_ble_eq_true rfl) dL_law_697 ⟨by omega, by omega⟩ (fun r7 M2 H locs hm hI hS => ?_)
  obtain ⟨h8, h9⟩ := hm
  rw [h9] at hI
  refine lv_iload hx hb dL_law_700 (lv_at hl 1 rfl) ?_
  have fin : W p l e room_1 s m #[Value.ref b] below meth c H locs (cells + 8) (slots + 64) Q (F0 m 724 ls []) := by
    refine lv_goto (tgt := 1206) hx hb dL_law_724 (by decide) ?_
    exact W.widen (by omega) (by omega) (KK _ _ _ _ ls ⟨hag.2.2, by rw [h7]; exact kk_sign hRel.2 (xs (nI (i + 1)).toNatClampNeg) (xs (nI (i + 2)).toNatClampNeg)⟩ hI hS (lv_sub hl [2, 3, 4, 5, 6] rfl))
  refine lv_icmp_eq (tgt := 707) hx hb dL_law_702 (by decide) (fun c1 => ?_) (fun c1 => absurd (h8.trans hag.1) c1)
  refine lv_iload hx hb dL_law_707 (lv_at hl 1 rfl) ?_
  refine lv_if_ne (tgt := 724) hx hb dL_law_709 (by decide) (fun c2 => fin) (fun c2 => ?_)
  have h0 : r5 = 0 := c2
  refine lv_aload_n hx hb dL_law_712 rfl (lv_at hl 5 rfl) ?_
  refine lv_iconst (v := 0) hx hb dL_law_713 (by decide) ?_
  refine va_lald hx hb hL.2.2.2.2.2.1 hI.1 36 1 rfl rfl vp_01 dL_law_714 ?_
  have he : T 18 0 = r6 := (hag.2.1 h0).trans h6.symm
  refine lv_iload hx hb dL_law_715 (lv_at hl 0 rfl) ?_
  refine lv_i2l (v := r6.toInt64) hx hb dL_law_717 rfl ?_
  refine W.lcmp hx hb dL_law_718 ?_
  refine lv_if_eq (tgt := 724) hx hb dL_law_719 (by decide) (fun c3 => fin) (fun c3 => absurd (by rw [he]; exact lg_self _) c3)
