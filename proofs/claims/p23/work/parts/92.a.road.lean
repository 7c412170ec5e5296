set_option maxHeartbeats 4000000 in
set_option maxRecDepth 100000 in
theorem c_L_areBeside (l : Launch) (dC : Nat → ClassId) (dI : Nat → Nat → Nat) (cyI cyB : ClassId) (ad : Nat → Nat) (hI : zI ad 39) (S : zS) (xa : Int32) (xb : Int32) : zMi l (dC, dI) (lTys cyI cyB) ad 39 xL (qw cyI ad) yL_areBeside wsL_areBeside ({ frames := 0, cells := 0, slots := 0, locals := 0 } : Room) [.int xa, .int xb] S (fun v T => v = f_L_areBeside xa xb ∧ T = S) := by
  refine zStartI (by decide) rfl (Nat.le_of_ble_eq_true rfl) ?_
  intro p e s m args below meth c ls cx hrt hlk hP hK hXs hl
  have hl : lv_has ls 4 [(0, .int xa), (1, .int xb)] := hl
  have hS : va_S (zA ad 39 s.heap.size) s.heap s.heap [] := va_S.rf
  obtain ⟨Q, hQ⟩ : ∃ Q, Q = MQ below (zQi (dC, dI) (qw cyI ad) (fun v T => v = f_L_areBeside xa xb ∧ T = S) (zA ad 39 s.heap.size)) args s 0 0 (zA ad 39 s.heap.size) := ⟨_, rfl⟩
  rw [← hQ]
  have j10 : ∀ (v : Int32) (H : Heap) (locs : List Loc), v = (if xb ≤ xa then xb else xa : Int32) → va_P (dC, dI) vwCl (qw cyI ad S) H → va_S (zA ad 39 s.heap.size) s.heap H locs → W p l e (headSpec wsL_areBeside ({ frames := 0, cells := 0, slots := 0, locals := 0 } : Room)).room s m args below meth c H locs 0 0 Q (F0 m 10 ls (.int v :: [])) := by
    intro v H locs hv hP hS
    subst hv
    refine lv_istore_n (lv' := [(2, .int (if xb ≤ xa then xb else xa : Int32)), (0, .int xa), (1, .int xb)]) cx.1 cx.2.1 dL_areBeside_10 rfl hl (by decide) rfl (fun ls hl => ?_)
    have j21 : ∀ (v : Int32) (H : Heap) (locs : List Loc), v = (if xb ≤ xa then xa else xb : Int32) → va_P (dC, dI) vwCl (qw cyI ad S) H → va_S (zA ad 39 s.heap.size) s.heap H locs → W p l e (headSpec wsL_areBeside ({ frames := 0, cells := 0, slots := 0, locals := 0 } : Room)).room s m args below meth c H locs 0 0 Q (F0 m 21 ls (.int v :: [])) := by
      intro v H locs hv hP hS
      subst hv
      refine lv_istore_n (lv' := [(3, .int (if xb ≤ xa then xa else xb : Int32)), (2, .int (if xb ≤ xa then xb else xa : Int32)), (0, .int xa), (1, .int xb)]) cx.1 cx.2.1 dL_areBeside_21 rfl hl (by decide) rfl (fun ls hl => ?_)
      refine lv_iload_n cx.1 cx.2.1 dL_areBeside_22 rfl (lv_at hl 0 rfl) ?_
      refine lv_iload_n cx.1 cx.2.1 dL_areBeside_23 rfl (lv_at hl 1 rfl) ?_
      refine lv_isub cx.1 cx.2.1 dL_areBeside_24 ?_
      refine lv_bipush (v := 8) cx.1 cx.2.1 dL_areBeside_25 (by decide) ?_
      refine lv_icmp_eq (tgt := 48) cx.1 cx.2.1 dL_areBeside_27 (by decide) (fun c3 => ?_) (fun c3 => ?_)
      · refine lv_iconst (v := 1) cx.1 cx.2.1 dL_areBeside_48 (by decide) ?_
        refine lv_goto (tgt := 53) cx.1 cx.2.1 dL_areBeside_49 (by decide) ?_
        rw [hQ]
        exact zRetI cx hrt hlk (by first | rfl | decide) hS hP ⟨(by unfold f_L_areBeside; rw [if_pos c3]), rfl⟩ dL_areBeside_53
      · refine lv_iload_n cx.1 cx.2.1 dL_areBeside_30 rfl (lv_at hl 0 rfl) ?_
        refine lv_iload_n cx.1 cx.2.1 dL_areBeside_31 rfl (lv_at hl 1 rfl) ?_
        refine lv_isub cx.1 cx.2.1 dL_areBeside_32 ?_
        refine lv_iconst (v := 1) cx.1 cx.2.1 dL_areBeside_33 (by decide) ?_
        refine lv_icmp_ne (tgt := 52) cx.1 cx.2.1 dL_areBeside_34 (by decide) (fun c4 => ?_) (fun c4 => ?_)
        · refine lv_iconst (v := 0) cx.1 cx.2.1 dL_areBeside_52 (by decide) ?_
          rw [hQ]
          exact zRetI cx hrt hlk (by first | rfl | decide) hS hP ⟨(by unfold f_L_areBeside; rw [if_neg c3, if_pos c4]), rfl⟩ dL_areBeside_53
        · refine lv_iload_n cx.1 cx.2.1 dL_areBeside_37 rfl (lv_at hl 1 rfl) ?_
          refine lv_bipush (v := 8) cx.1 cx.2.1 dL_areBeside_38 (by decide) ?_
          refine lv_idiv cx.1 cx.2.1 dL_areBeside_40 (by decide) ?_
          refine lv_iload_n cx.1 cx.2.1 dL_areBeside_41 rfl (lv_at hl 0 rfl) ?_
          refine lv_bipush (v := 8) cx.1 cx.2.1 dL_areBeside_42 (by decide) ?_
          refine lv_idiv cx.1 cx.2.1 dL_areBeside_44 (by decide) ?_
          refine lv_icmp_ne (tgt := 52) cx.1 cx.2.1 dL_areBeside_45 (by decide) (fun c5 => ?_) (fun c5 => ?_)
          · refine lv_iconst (v := 0) cx.1 cx.2.1 dL_areBeside_52 (by decide) ?_
            rw [hQ]
            exact zRetI cx hrt hlk (by first | rfl | decide) hS hP ⟨(by unfold f_L_areBeside; rw [if_neg c3, if_neg (not_not_intro c4), if_pos c5]), rfl⟩ dL_areBeside_53
          · refine lv_iconst (v := 1) cx.1 cx.2.1 dL_areBeside_48 (by decide) ?_
            refine lv_goto (tgt := 53) cx.1 cx.2.1 dL_areBeside_49 (by decide) ?_
            rw [hQ]
            exact zRetI cx hrt hlk (by first | rfl | decide) hS hP ⟨(by unfold f_L_areBeside; rw [if_neg c3, if_neg (not_not_intro c4), if_neg (not_not_intro c5)]), rfl⟩ dL_areBeside_53
    refine lv_iload_n cx.1 cx.2.1 dL_areBeside_11 rfl (lv_at hl 1 rfl) ?_
    refine lv_iload_n cx.1 cx.2.1 dL_areBeside_12 rfl (lv_at hl 2 rfl) ?_
    refine lv_icmp_ge (tgt := 20) cx.1 cx.2.1 dL_areBeside_13 (by decide) (fun c2 => ?_) (fun c2 => ?_)
    · refine lv_iload_n cx.1 cx.2.1 dL_areBeside_20 rfl (lv_at hl 1 rfl) ?_
      exact j21 _ _ _ (by first | (rw [if_pos c2]; done) | exact Eq.symm ((if_pos c2).trans (rfl))) hP hS
    · refine lv_iload_n cx.1 cx.2.1 dL_areBeside_16 rfl (lv_at hl 2 rfl) ?_
      refine lv_goto (tgt := 21) cx.1 cx.2.1 dL_areBeside_17 (by decide) ?_
      exact j21 _ _ _ (by first | (rw [if_neg c2]; done) | exact Eq.symm ((if_neg c2).trans (rfl))) hP hS
  refine lv_iload_n cx.1 cx.2.1 dL_areBeside_0 rfl (lv_at hl 0 rfl) ?_
  refine lv_iload_n cx.1 cx.2.1 dL_areBeside_1 rfl (lv_at hl 1 rfl) ?_
  refine lv_icmp_ge (tgt := 9) cx.1 cx.2.1 dL_areBeside_2 (by decide) (fun c1 => ?_) (fun c1 => ?_)
  · refine lv_iload_n cx.1 cx.2.1 dL_areBeside_9 rfl (lv_at hl 1 rfl) ?_
    exact j10 _ _ _ (by first | (rw [if_pos c1]; done) | exact Eq.symm ((if_pos c1).trans (rfl))) hP hS
  · refine lv_iload_n cx.1 cx.2.1 dL_areBeside_5 rfl (lv_at hl 0 rfl) ?_
    refine lv_goto (tgt := 10) cx.1 cx.2.1 dL_areBeside_6 (by decide) ?_
    exact j10 _ _ _ (by first | (rw [if_neg c1]; done) | exact Eq.symm ((if_neg c1).trans (rfl))) hP hS

set_option maxHeartbeats 4000000 in
set_option maxRecDepth 100000 in
theorem c_L_costOf (l : Launch) (dC : Nat → ClassId) (dI : Nat → Nat → Nat) (cyI cyB : ClassId) (ad : Nat → Nat) (hI : zI ad 39) (S : zS) (xk : Int32) : zMi l (dC, dI) (lTys cyI cyB) ad 39 xL (qw cyI ad) yL_costOf wsL_costOf ({ frames := 0, cells := 0, slots := 0, locals := 0 } : Room) [.int xk] S (fun v T => v = f_L_costOf xk ∧ T = S) := by
  refine zStartI (by decide) rfl (Nat.le_of_ble_eq_true rfl) ?_
  intro p e s m args below meth c ls cx hrt hlk hP hK hXs hl
  have hl : lv_has ls 1 [(0, .int xk)] := hl
  have hS : va_S (zA ad 39 s.heap.size) s.heap s.heap [] := va_S.rf
  refine lv_iload_n cx.1 cx.2.1 dL_costOf_0 rfl (lv_at hl 0 rfl) ?_
  refine lv_iconst (v := 1) cx.1 cx.2.1 dL_costOf_1 (by decide) ?_
  refine lv_icmp_ne (tgt := 10) cx.1 cx.2.1 dL_costOf_2 (by decide) (fun c1 => ?_) (fun c1 => ?_)
  · refine lv_iload_n cx.1 cx.2.1 dL_costOf_10 rfl (lv_at hl 0 rfl) ?_
    refine lv_iconst (v := 4) cx.1 cx.2.1 dL_costOf_11 (by decide) ?_
    refine lv_icmp_ge (tgt := 20) cx.1 cx.2.1 dL_costOf_12 (by decide) (fun c2 => ?_) (fun c2 => ?_)
    · refine lv_iload_n cx.1 cx.2.1 dL_costOf_20 rfl (lv_at hl 0 rfl) ?_
      refine lv_iconst (v := 4) cx.1 cx.2.1 dL_costOf_21 (by decide) ?_
      refine lv_icmp_ne (tgt := 30) cx.1 cx.2.1 dL_costOf_22 (by decide) (fun c3 => ?_) (fun c3 => ?_)
      · refine lv_iload_n cx.1 cx.2.1 dL_costOf_30 rfl (lv_at hl 0 rfl) ?_
        refine lv_iconst (v := 5) cx.1 cx.2.1 dL_costOf_31 (by decide) ?_
        refine lv_icmp_ne (tgt := 41) cx.1 cx.2.1 dL_costOf_32 (by decide) (fun c4 => ?_) (fun c4 => ?_)
        · refine lv_sipush (v := 150) cx.1 cx.2.1 dL_costOf_41 (by decide) ?_
          exact zRetI cx hrt hlk rfl hS hP ⟨(by unfold f_L_costOf; rw [if_pos c1, if_pos c2, if_pos c3, if_pos c4]), rfl⟩ dL_costOf_44
        · refine lv_sipush (v := 200) cx.1 cx.2.1 dL_costOf_35 (by decide) ?_
          refine lv_goto (tgt := 44) cx.1 cx.2.1 dL_costOf_38 (by decide) ?_
          exact zRetI cx hrt hlk rfl hS hP ⟨(by unfold f_L_costOf; rw [if_pos c1, if_pos c2, if_pos c3, if_neg (not_not_intro c4)]), rfl⟩ dL_costOf_44
      · refine lv_bipush (v := 30) cx.1 cx.2.1 dL_costOf_25 (by decide) ?_
        refine lv_goto (tgt := 44) cx.1 cx.2.1 dL_costOf_27 (by decide) ?_
        exact zRetI cx hrt hlk rfl hS hP ⟨(by unfold f_L_costOf; rw [if_pos c1, if_pos c2, if_neg (not_not_intro c3)]), rfl⟩ dL_costOf_44
    · refine lv_bipush (v := 20) cx.1 cx.2.1 dL_costOf_15 (by decide) ?_
      refine lv_goto (tgt := 44) cx.1 cx.2.1 dL_costOf_17 (by decide) ?_
      exact zRetI cx hrt hlk rfl hS hP ⟨(by unfold f_L_costOf; rw [if_pos c1, if_neg c2]), rfl⟩ dL_costOf_44
  · refine lv_bipush (v := 10) cx.1 cx.2.1 dL_costOf_5 (by decide) ?_
    refine lv_goto (tgt := 44) cx.1 cx.2.1 dL_costOf_7 (by decide) ?_
    exact zRetI cx hrt hlk rfl hS hP ⟨(by unfold f_L_costOf; rw [if_neg (not_not_intro c1)]), rfl⟩ dL_costOf_44

set_option maxHeartbeats 4000000 in
set_option maxRecDepth 100000 in
theorem c_L_road (l : Launch) (dC : Nat → ClassId) (dI : Nat → Nat → Nat) (cyI cyB : ClassId) (ad : Nat → Nat) (hI : zI ad 39) (S : zS) (F : zS) (hF : LF S F) (nc : Nat) (hnc : nc < 64) : zMi l (dC, dI) (lTys cyI cyB) ad 39 xL (qw cyI ad) yL_road wsL_road ({ frames := 1, cells := 0, slots := 0, locals := 23 } : Room) [.ref (ad 36), .int (nI nc)] S (fun v T => v = F 2 nc ∧ T = S) := by
  refine zStartI (by decide) rfl (Nat.le_of_ble_eq_true rfl) ?_
  intro p e s m args below meth c ls cx hrt hlk hP hK hXs hl
  have hl : lv_has ls 4 [(0, .ref (ad 36)), (1, .int (nI nc))] := hl
  have hS : va_S (zA ad 39 s.heap.size) s.heap s.heap [] := va_S.rf
  obtain ⟨Q, hQ⟩ : ∃ Q, Q = MQ below (zQi (dC, dI) (qw cyI ad) (fun v T => v = F 2 nc ∧ T = S) (zA ad 39 s.heap.size)) args s 0 0 (zA ad 39 s.heap.size) := ⟨_, rfl⟩
  rw [← hQ]
  have j12 : ∀ (v : Int32) (H : Heap) (locs : List Loc), v = (if ¬ (S 20 nc) = 1 then (-1) else (nI nc) : Int32) → va_P (dC, dI) vwCl (qw cyI ad S) H → va_S (zA ad 39 s.heap.size) s.heap H locs → W p l e (headSpec wsL_road ({ frames := 1, cells := 0, slots := 0, locals := 23 } : Room)).room s m args below meth c H locs 0 0 Q (F0 m 12 ls (.int v :: [])) := by
    intro v H locs hv hP hS
    subst hv
    refine lv_istore_n (lv' := [(2, .int (if ¬ (S 20 nc) = 1 then (-1) else (nI nc) : Int32)), (0, .ref (ad 36)), (1, .int (nI nc))]) cx.1 cx.2.1 dL_road_12 rfl hl (by decide) rfl (fun ls hl => ?_)
    refine lv_bipush (v := 63) cx.1 cx.2.1 dL_road_13 (by decide) ?_
    refine lv_istore_n (lv' := [(3, .int 63), (2, .int (if ¬ (S 20 nc) = 1 then (-1) else (nI nc) : Int32)), (0, .ref (ad 36)), (1, .int (nI nc))]) cx.1 cx.2.1 dL_road_15 rfl hl (by decide) rfl (fun ls hl => ?_)
    have lp16 : ∀ (fu i : Nat) (ro : Int32) (hi16 : i ≤ 64) (hacc16 : lp_L_road_16 S F nc (64 - i) i ro = lp_L_road_16 S F nc 64 0 (if ¬ (S 20 nc) = 1 then (-1) else (nI nc) : Int32))  (_ : 64 - i < fu) (H : Heap) (locs : List Loc) (ls : Array Slot), va_P (dC, dI) vwCl (qw cyI ad S) H → va_S (zA ad 39 s.heap.size) s.heap H locs → lv_has ls 4 [(3, .int (nI 63 - nI i)), (2, .int ro), (0, .ref (ad 36)), (1, .int (nI nc))] → W p l e (headSpec wsL_road ({ frames := 1, cells := 0, slots := 0, locals := 23 } : Room)).room s m args below meth c H locs 0 0 Q (F0 m 16 ls []) := by
      intro fu
      induction fu with
      | zero => intro i ro hi16 hacc16  hm; exact absurd hm (Nat.not_lt_zero _)
      | succ fu ih16 =>
        intro i ro hi16 hacc16  hm H locs ls hP hS hl
        refine lv_iload_n cx.1 cx.2.1 dL_road_16 rfl (lv_at hl 0 rfl) ?_
        refine lv_if_lt (tgt := 54) cx.1 cx.2.1 dL_road_17 (by decide) (fun c2 => ?_) (fun c2 => ?_)
        · have nc2 : 63 + 1 ≤ i := (zdn_lt (by decide) (by omega)).mp c2
          have hx16 : lp_L_road_16 S F nc 64 0 (if ¬ (S 20 nc) = 1 then (-1) else (nI nc) : Int32) = ro := by
            rw [← hacc16]
            rw [show 64 - i = 0 by omega]; rfl
          have hz0 : (lp_L_road_16 S F nc 64 0 (if ¬ (S 20 nc) = 1 then (-1) else (nI nc) : Int32)) = ro := hx16
          obtain ⟨N1, hN1⟩ : ∃ Z : Int32, (lp_L_road_16 S F nc 64 0 (if ¬ (S 20 nc) = 1 then (-1) else (nI nc) : Int32)) = Z := ⟨_, rfl⟩
          rw [hN1] at hz0
          subst hz0
          refine lv_iload_n cx.1 cx.2.1 dL_road_54 rfl (lv_at hl 1 rfl) ?_
          rw [hQ]
          exact zRetI cx hrt hlk rfl hS hP ⟨hN1.symm.trans (road_f hF hnc), rfl⟩ dL_road_55
        · have nc2 : ¬ 63 + 1 ≤ i := fun z => c2 ((zdn_lt (by decide) (by omega)).mpr z)
          rw [show nI 63 - nI i = nI (63 - i) from pk_sub (by omega)] at hl
          refine lv_aload_n cx.1 cx.2.1 dL_road_20 rfl (lv_at hl 2 rfl) ?_
          refine lv_iload_n cx.1 cx.2.1 dL_road_21 rfl (lv_at hl 3 rfl) ?_
          refine zIldN cx hK hP 36 0 rfl rfl (nc) (by omega) (by decide) rfl dL_road_22 ?_
          refine lv_iconst (v := 1) cx.1 cx.2.1 dL_road_23 (by decide) ?_
          refine lv_icmp_eq (tgt := 54) cx.1 cx.2.1 dL_road_24 (by decide) (fun c3 => ?_) (fun c3 => ?_)
          · have hx16 : lp_L_road_16 S F nc 64 0 (if ¬ (S 20 nc) = 1 then (-1) else (nI nc) : Int32) = ro := by
              rw [← hacc16]
              cases hn : 64 - i with
              | zero => rfl
              | succ q => rw [lp_L_road_16]; rw [if_pos c3]
            have hz0 : (lp_L_road_16 S F nc 64 0 (if ¬ (S 20 nc) = 1 then (-1) else (nI nc) : Int32)) = ro := hx16
            obtain ⟨N1, hN1⟩ : ∃ Z : Int32, (lp_L_road_16 S F nc 64 0 (if ¬ (S 20 nc) = 1 then (-1) else (nI nc) : Int32)) = Z := ⟨_, rfl⟩
            rw [hN1] at hz0
            subst hz0
            refine lv_iload_n cx.1 cx.2.1 dL_road_54 rfl (lv_at hl 1 rfl) ?_
            rw [hQ]
            exact zRetI cx hrt hlk rfl hS hP ⟨hN1.symm.trans (road_f hF hnc), rfl⟩ dL_road_55
          · have j47 : ∀ (v : Int32) (H : Heap) (locs : List Loc), v = (if ¬ (S 20 (63 - i)) = 1 then ro else (if (f_L_areBeside (nI (63 - i)) (nI nc)) = 0 then ro else (nI (63 - i))) : Int32) → va_P (dC, dI) vwCl (qw cyI ad S) H → va_S (zA ad 39 s.heap.size) s.heap H locs → W p l e (headSpec wsL_road ({ frames := 1, cells := 0, slots := 0, locals := 23 } : Room)).room s m args below meth c H locs 0 0 Q (F0 m 47 ls (.int v :: [])) := by
              intro v H locs hv hP hS
              subst hv
              refine lv_istore_n (lv' := [(2, .int (if ¬ (S 20 (63 - i)) = 1 then ro else (if (f_L_areBeside (nI (63 - i)) (nI nc)) = 0 then ro else (nI (63 - i))) : Int32)), (3, .int (nI (63 - i))), (0, .ref (ad 36)), (1, .int (nI nc))]) cx.1 cx.2.1 dL_road_47 rfl hl (by decide) rfl (fun ls hl => ?_)
              refine lv_iinc (v := nI 63 - nI (i + 1)) (lv' := [(3, .int (nI 63 - nI (i + 1))), (2, .int (if ¬ (S 20 (63 - i)) = 1 then ro else (if (f_L_areBeside (nI (63 - i)) (nI nc)) = 0 then ro else (nI (63 - i))) : Int32)), (0, .ref (ad 36)), (1, .int (nI nc))]) cx.1 cx.2.1 dL_road_48 hl (k := 1) rfl (zdn_s (by omega)) (by decide) rfl (fun ls hl => ?_)
              refine lv_goto (tgt := 16) cx.1 cx.2.1 dL_road_51 (by decide) ?_
              have ha16 : lp_L_road_16 S F nc (64 - (i + 1)) (i + 1) (if ¬ (S 20 (63 - i)) = 1 then ro else (if (f_L_areBeside (nI (63 - i)) (nI nc)) = 0 then ro else (nI (63 - i))) : Int32) = lp_L_road_16 S F nc 64 0 (if ¬ (S 20 nc) = 1 then (-1) else (nI nc) : Int32) := by
                rw [← hacc16, show 64 - i = (64 - (i + 1)) + 1 by omega]
                conv => rhs; rw [lp_L_road_16]
                rw [if_neg c3]
              exact ih16 (i + 1) (if ¬ (S 20 (63 - i)) = 1 then ro else (if (f_L_areBeside (nI (63 - i)) (nI nc)) = 0 then ro else (nI (63 - i))) : Int32) (by omega) ha16  (by omega) _ _ ls hP hS (lv_sub hl [0, 1, 2, 3] rfl)
            refine lv_aload_n cx.1 cx.2.1 dL_road_27 rfl (lv_at hl 2 rfl) ?_
            refine lv_iload_n cx.1 cx.2.1 dL_road_28 rfl (lv_at hl 0 rfl) ?_
            refine zIldN cx hK hP 36 0 rfl rfl (63 - i) (by omega) (by decide) rfl dL_road_29 ?_
            refine lv_iconst (v := 1) cx.1 cx.2.1 dL_road_30 (by decide) ?_
            refine lv_icmp_ne (tgt := 46) cx.1 cx.2.1 dL_road_31 (by decide) (fun c4 => ?_) (fun c4 => ?_)
            · refine lv_iload_n cx.1 cx.2.1 dL_road_46 rfl (lv_at hl 1 rfl) ?_
              exact j47 _ _ _ (by first | (rw [if_pos c4]; done) | exact Eq.symm ((if_pos c4).trans (rfl))) hP hS
            · refine lv_iload_n cx.1 cx.2.1 dL_road_34 rfl (lv_at hl 0 rfl) ?_
              refine lv_iload_n cx.1 cx.2.1 dL_road_35 rfl (lv_at hl 3 rfl) ?_
              refine zThenIx (v := f_L_areBeside (nI (63 - i)) (nI nc)) (S' := S) hS (zRunS (As := [.int (nI (63 - i)), .int (nI nc)]) (rest := []) _ 2 cx (c_L_areBeside l dC dI cyI cyB ad hI S (nI (63 - i)) (nI nc)) gL_road_L_areBeside rfl ⟨rfl, rfl⟩ (by decide +kernel) ⟨Nat.le_of_ble_eq_true rfl, Nat.le_of_ble_eq_true rfl⟩ (xL_X ad 39) hXs hK hP hS rfl hl.1 rfl (Nat.le_of_ble_eq_true rfl) dL_road_36 ⟨Nat.zero_le _, Nat.zero_le _⟩) (fun H locs hP hS => ?_)
              refine lv_if_eq (tgt := 46) cx.1 cx.2.1 dL_road_39 (by decide) (fun c5 => ?_) (fun c5 => ?_)
              · refine lv_iload_n cx.1 cx.2.1 dL_road_46 rfl (lv_at hl 1 rfl) ?_
                exact j47 _ _ _ (by first | (rw [if_neg (not_not_intro c4), if_pos c5]; done) | exact Eq.symm ((if_neg (not_not_intro c4)).trans ((if_pos c5).trans (rfl)))) hP hS
              · refine lv_iload_n cx.1 cx.2.1 dL_road_42 rfl (lv_at hl 0 rfl) ?_
                refine lv_goto (tgt := 47) cx.1 cx.2.1 dL_road_43 (by decide) ?_
                exact j47 _ _ _ (by first | (rw [if_neg (not_not_intro c4), if_neg c5]; done) | exact Eq.symm ((if_neg (not_not_intro c4)).trans ((if_neg c5).trans (rfl)))) hP hS
    exact lp16 (64 - 0 + 1) 0 (if ¬ (S 20 nc) = 1 then (-1) else (nI nc) : Int32) (by omega) (by rw [Nat.sub_zero])  (Nat.lt_succ_self _) _ _ ls hP hS (lv_sub hl [0, 1, 2, 3] rfl)
  refine lv_aload_n cx.1 cx.2.1 dL_road_0 rfl (lv_at hl 0 rfl) ?_
  refine lv_iload_n cx.1 cx.2.1 dL_road_1 rfl (lv_at hl 1 rfl) ?_
  refine zIldN cx hK hP 36 0 rfl rfl (nc) (by omega) (by decide) rfl dL_road_2 ?_
  refine lv_iconst (v := 1) cx.1 cx.2.1 dL_road_3 (by decide) ?_
  refine lv_icmp_ne (tgt := 11) cx.1 cx.2.1 dL_road_4 (by decide) (fun c1 => ?_) (fun c1 => ?_)
  · refine lv_iconst (v := (-1)) cx.1 cx.2.1 dL_road_11 (by decide) ?_
    exact j12 _ _ _ (by first | (rw [if_pos c1]; done) | exact Eq.symm ((if_pos c1).trans (rfl))) hP hS
  · refine lv_iload_n cx.1 cx.2.1 dL_road_7 rfl (lv_at hl 1 rfl) ?_
    refine lv_goto (tgt := 12) cx.1 cx.2.1 dL_road_8 (by decide) ?_
    exact j12 _ _ _ (by first | (rw [if_neg (not_not_intro c1)]; done) | exact Eq.symm ((if_neg (not_not_intro c1)).trans (rfl))) hP hS
