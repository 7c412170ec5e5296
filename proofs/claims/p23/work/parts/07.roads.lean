def lp_X3_findRoad_12 (S : zS) (xc : Int32) : Nat → Nat → Int32
  | 0, i => (-1)
  | q + 1, i => if (f_X6_neighbourOf xc (nI i)) = (-1) then (lp_X3_findRoad_12 S xc q (i + 1) ) else (if (f_X0_isRoad S (f_X6_neighbourOf xc (nI i))) = 0 then (lp_X3_findRoad_12 S xc q (i + 1) ) else (f_X6_neighbourOf xc (nI i)))
def f_X3_findRoad (S : zS) (xc : Int32) : Int32 := if (f_X0_isRoad S xc) = 0 then lp_X3_findRoad_12 S xc 4 0 else (xc)
set_option maxHeartbeats 4000000 in
set_option maxRecDepth 100000 in
theorem c_X3_findRoad (l : Launch) (dC : Nat → ClassId) (dI : Nat → Nat → Nat) (cyI : ClassId) (ad : Nat → Nat) (hI : zI ad 36) (S : zS) (xc : Int32) : zMi l (dC, dI) [(cyI, .int)] ad 36 xN (cw cyI ad) yX3_findRoad wsX3_findRoad ({ frames := 2, cells := 0, slots := 0, locals := 42 } : Room) [.ref (ad 2), .ref (ad 1), .int xc] S (fun v T => v = f_X3_findRoad S xc ∧ T = S) := by
  refine zStartI (by decide) rfl (Nat.le_of_ble_eq_true rfl) ?_
  intro p e s m args below meth c ls cx hrt hlk hP hK hXs hl
  have hl : lv_has ls 5 [(0, .ref (ad 2)), (1, .ref (ad 1)), (2, .int xc)] := hl
  have hS : va_S (zA ad 36 s.heap.size) s.heap s.heap [] := va_S.rf
  obtain ⟨Q, hQ⟩ : ∃ Q, Q = MQ below (zQi (dC, dI) (cw cyI ad) (fun v T => v = f_X3_findRoad S xc ∧ T = S) (zA ad 36 s.heap.size)) args s 0 0 (zA ad 36 s.heap.size) := ⟨_, rfl⟩
  rw [← hQ]
  refine lv_aload_n cx.1 cx.2.1 dX3_findRoad_0 rfl (lv_at hl 1 rfl) ?_
  refine lv_iload_n cx.1 cx.2.1 dX3_findRoad_1 rfl (lv_at hl 2 rfl) ?_
  refine zThenIx (v := f_X0_isRoad S xc) (S' := S) hS (zRunV (As := [.int xc]) (rest := []) _ 1 cx (c_X0_isRoad l dC dI cyI ad hI S xc) gX3_findRoad_X0_isRoad rfl ⟨rfl, rfl⟩ (by decide +kernel) ⟨Nat.le_of_ble_eq_true rfl, Nat.le_of_ble_eq_true rfl⟩ (xN_X ad 36) hXs hK hP hS 1 rfl rfl rfl rfl hl.1 rfl (Nat.le_of_ble_eq_true rfl) dX3_findRoad_2 ⟨Nat.zero_le _, Nat.zero_le _⟩) (fun H locs hP hS => ?_)
  refine lv_if_eq (tgt := 10) cx.1 cx.2.1 dX3_findRoad_5 (by decide) (fun c1 => ?_) (fun c1 => ?_)
  · refine lv_iconst (v := 0) cx.1 cx.2.1 dX3_findRoad_10 (by decide) ?_
    refine lv_istore_n (lv' := [(3, .int 0), (0, .ref (ad 2)), (1, .ref (ad 1)), (2, .int xc)]) cx.1 cx.2.1 dX3_findRoad_11 rfl hl (by decide) rfl (fun ls hl => ?_)
    have lp12 : ∀ (fu i : Nat)  (hi12 : i ≤ 4) (hacc12 : lp_X3_findRoad_12 S xc (4 - i) i  = lp_X3_findRoad_12 S xc 4 0)  (_ : 4 - i < fu) (H : Heap) (locs : List Loc) (ls : Array Slot), va_P (dC, dI) vwCl (cw cyI ad S) H → va_S (zA ad 36 s.heap.size) s.heap H locs → lv_has ls 5 [(3, .int (nI i)), (0, .ref (ad 2)), (1, .ref (ad 1)), (2, .int xc)] → W p l e (headSpec wsX3_findRoad ({ frames := 2, cells := 0, slots := 0, locals := 42 } : Room)).room s m args below meth c H locs 0 0 Q (F0 m 12 ls []) := by
      intro fu
      induction fu with
      | zero => intro i  hi12 hacc12  hm; exact absurd hm (Nat.not_lt_zero _)
      | succ fu ih12 =>
        intro i  hi12 hacc12  hm H locs ls hP hS hl
        refine lv_iload_n cx.1 cx.2.1 dX3_findRoad_12 rfl (lv_at hl 0 rfl) ?_
        refine lv_iconst (v := 4) cx.1 cx.2.1 dX3_findRoad_13 (by decide) ?_
        refine lv_icmp_ge (tgt := 48) cx.1 cx.2.1 dX3_findRoad_14 (by decide) (fun c2 => ?_) (fun c2 => ?_)
        · have nc2 : 4 ≤ i := (nI_leI (a := 4) (b := i) (by first | decide | omega) (by first | decide | omega)).mp c2
          refine lv_iconst (v := (-1)) cx.1 cx.2.1 dX3_findRoad_48 (by decide) ?_
          rw [hQ]
          exact zRetI cx hrt hlk rfl hS hP ⟨(by unfold f_X3_findRoad; rw [if_pos c1]; rw [← hacc12]; rw [show 4 - i = 0 by omega]; rfl), rfl⟩ dX3_findRoad_49
        · have nc2 : ¬ 4 ≤ i := fun z => c2 ((nI_leI (a := 4) (b := i) (by first | decide | omega) (by first | decide | omega)).mpr z)
          refine lv_iload_n cx.1 cx.2.1 dX3_findRoad_17 rfl (lv_at hl 3 rfl) ?_
          refine lv_iload_n cx.1 cx.2.1 dX3_findRoad_18 rfl (lv_at hl 0 rfl) ?_
          refine zThenIx (v := f_X6_neighbourOf xc (nI i)) (S' := S) hS (zRunSN (As := [.int xc, .int (nI i)]) (rest := []) _ 2 cx (c_X6_neighbourOf l dC dI cyI ad hI S xc (nI i)) gX3_findRoad_X6_neighbourOf_n54 hXs.2 (cx.2.2.2.2 _ (by decide +kernel)) (cx.2.2.2.2 _ (by decide +kernel)) rfl ⟨rfl, rfl⟩ (by decide +kernel) ⟨Nat.le_of_ble_eq_true rfl, Nat.le_of_ble_eq_true rfl⟩ (xN_X ad 36) hXs hK hP hS rfl hl.1 rfl (Nat.le_of_ble_eq_true rfl) dX3_findRoad_19 ⟨Nat.zero_le _, Nat.zero_le _⟩) (fun H locs hP hS => ?_)
          refine lv_istore (lv' := [(4, .int (f_X6_neighbourOf xc (nI i))), (3, .int (nI i)), (0, .ref (ad 2)), (1, .ref (ad 1)), (2, .int xc)]) cx.1 cx.2.1 dX3_findRoad_22 hl (by decide) rfl (fun ls hl => ?_)
          refine lv_iload cx.1 cx.2.1 dX3_findRoad_24 (lv_at hl 0 rfl) ?_
          refine lv_iconst (v := (-1)) cx.1 cx.2.1 dX3_findRoad_26 (by decide) ?_
          refine lv_icmp_eq (tgt := 42) cx.1 cx.2.1 dX3_findRoad_27 (by decide) (fun c3 => ?_) (fun c3 => ?_)
          · refine lv_iinc (v := nI (i + 1)) (lv' := [(3, .int (nI (i + 1))), (4, .int (f_X6_neighbourOf xc (nI i))), (0, .ref (ad 2)), (1, .ref (ad 1)), (2, .int xc)]) cx.1 cx.2.1 dX3_findRoad_42 hl (k := 1) rfl (nI_1 i) (by decide) rfl (fun ls hl => ?_)
            refine lv_goto (tgt := 12) cx.1 cx.2.1 dX3_findRoad_45 (by decide) ?_
            have ha12 : lp_X3_findRoad_12 S xc (4 - (i + 1)) (i + 1)  = lp_X3_findRoad_12 S xc 4 0 := by
              rw [← hacc12, show 4 - i = (4 - (i + 1)) + 1 by omega]
              conv => rhs; rw [lp_X3_findRoad_12]
              rw [if_pos c3]
            exact ih12 (i + 1)  (by omega) ha12  (by omega) _ _ ls hP hS (lv_sub hl [0, 2, 3, 4] rfl)
          · refine lv_aload_n cx.1 cx.2.1 dX3_findRoad_30 rfl (lv_at hl 3 rfl) ?_
            refine lv_iload cx.1 cx.2.1 dX3_findRoad_31 (lv_at hl 0 rfl) ?_
            refine zThenIx (v := f_X0_isRoad S (f_X6_neighbourOf xc (nI i))) (S' := S) hS (zRunV (As := [.int (f_X6_neighbourOf xc (nI i))]) (rest := []) _ 1 cx (c_X0_isRoad l dC dI cyI ad hI S (f_X6_neighbourOf xc (nI i))) gX3_findRoad_X0_isRoad rfl ⟨rfl, rfl⟩ (by decide +kernel) ⟨Nat.le_of_ble_eq_true rfl, Nat.le_of_ble_eq_true rfl⟩ (xN_X ad 36) hXs hK hP hS 1 rfl rfl rfl rfl hl.1 rfl (Nat.le_of_ble_eq_true rfl) dX3_findRoad_33 ⟨Nat.zero_le _, Nat.zero_le _⟩) (fun H locs hP hS => ?_)
            refine lv_if_eq (tgt := 42) cx.1 cx.2.1 dX3_findRoad_36 (by decide) (fun c4 => ?_) (fun c4 => ?_)
            · refine lv_iinc (v := nI (i + 1)) (lv' := [(3, .int (nI (i + 1))), (4, .int (f_X6_neighbourOf xc (nI i))), (0, .ref (ad 2)), (1, .ref (ad 1)), (2, .int xc)]) cx.1 cx.2.1 dX3_findRoad_42 hl (k := 1) rfl (nI_1 i) (by decide) rfl (fun ls hl => ?_)
              refine lv_goto (tgt := 12) cx.1 cx.2.1 dX3_findRoad_45 (by decide) ?_
              have ha12 : lp_X3_findRoad_12 S xc (4 - (i + 1)) (i + 1)  = lp_X3_findRoad_12 S xc 4 0 := by
                rw [← hacc12, show 4 - i = (4 - (i + 1)) + 1 by omega]
                conv => rhs; rw [lp_X3_findRoad_12]
                rw [if_neg c3, if_pos c4]
              exact ih12 (i + 1)  (by omega) ha12  (by omega) _ _ ls hP hS (lv_sub hl [0, 2, 3, 4] rfl)
            · refine lv_iload cx.1 cx.2.1 dX3_findRoad_39 (lv_at hl 0 rfl) ?_
              rw [hQ]
              exact zRetI cx hrt hlk rfl hS hP ⟨(by unfold f_X3_findRoad; rw [if_pos c1]; rw [← hacc12]; rw [show 4 - i = (4 - i - 1) + 1 by omega, lp_X3_findRoad_12]; rw [if_neg c3, if_neg c4]), rfl⟩ dX3_findRoad_41
    exact lp12 (4 - 0 + 1) 0  (by omega) (by rw [Nat.sub_zero])  (Nat.lt_succ_self _) _ _ ls hP hS (lv_sub hl [0, 1, 2, 3] rfl)
  · refine lv_iload_n cx.1 cx.2.1 dX3_findRoad_8 rfl (lv_at hl 2 rfl) ?_
    rw [hQ]
    exact zRetI cx hrt hlk rfl hS hP ⟨(by unfold f_X3_findRoad; rw [if_neg c1]), rfl⟩ dX3_findRoad_9

def bd_X3_spread_82 (S : zS) (xst : Int32) (i : Nat) (nq : Int32) (T31 : zS) (j : Nat) (mq : Int32) (T82 : zS) : Int32 × zS := if (f_X6_neighbourOf (rg 64 (T31 5) (nI i)) (nI j)) = (-1) then ((mq, T82)) else (if (f_X0_isRoad T82 (f_X6_neighbourOf (rg 64 (T31 5) (nI i)) (nI j))) = 0 then ((mq, T82)) else (if ¬ (rg 4096 (T82 4) ((xst * 64) + (f_X6_neighbourOf (rg 64 (T31 5) (nI i)) (nI j)))) = (-1) then ((mq, T82)) else ((mq + 1, zUp (zUp T82 4 (rs 4096 (T82 4) ((xst * 64) + (f_X6_neighbourOf (rg 64 (T31 5) (nI i)) (nI j))) ((rg 4096 (T82 4) ((xst * 64) + (rg 64 (T31 5) (nI i)))) + 1))) 5 (rs 64 (T82 5) mq (f_X6_neighbourOf (rg 64 (T31 5) (nI i)) (nI j)))))))
def lp_X3_spread_82 (S : zS) (xst : Int32) (i : Nat) (nq : Int32) (T31 : zS) (mq0 : Int32) (T820 : zS) : Nat → Int32 × zS
  | 0 => (mq0, T820)
  | q + 1 => bd_X3_spread_82 S xst i nq T31 q (lp_X3_spread_82 S xst i nq T31 mq0 T820 q).1 (lp_X3_spread_82 S xst i nq T31 mq0 T820 q).2
def lp_X3_spread_31 (S : zS) (xst : Int32) : Nat → Nat → Int32 → zS → Int32 × zS
  | 0, i, nq, T31 => (nq, T31)
  | q + 1, i, nq, T31 => if nq ≤ (nI i) then ((nq, T31)) else (if ¬ (rg 64 (T31 3) (rg 64 (T31 5) (nI i))) = (-1) then (lp_X3_spread_31 S xst q (i + 1) ((lp_X3_spread_82 S xst i nq T31 nq T31 4).1) ((lp_X3_spread_82 S xst i nq T31 nq T31 4).2)) else (lp_X3_spread_31 S xst q (i + 1) ((lp_X3_spread_82 S xst i nq T31 nq (zUp T31 3 (rs 64 (T31 3) (rg 64 (T31 5) (nI i)) xst)) 4).1) ((lp_X3_spread_82 S xst i nq T31 nq (zUp T31 3 (rs 64 (T31 3) (rg 64 (T31 5) (nI i)) xst)) 4).2)))
def g_X3_spread (S : zS) (xst : Int32) : zS := (lp_X3_spread_31 S xst 64 0 1 (zUp (zUp S 4 (rs 4096 (S 4) ((xst * 64) + xst) 0)) 5 (rs 64 (S 5) 0 xst))).2
theorem fr_bd_X3_spread_82 (S : zS) (xst : Int32) (i : Nat) (nq : Int32) (T31 : zS) (j : Nat) (mq : Int32) (T82 : zS) (r : Nat) (h3 : r ≠ 3) (h4 : r ≠ 4) (h5 : r ≠ 5) : (bd_X3_spread_82 S xst i nq T31 j mq T82).2 r = T82 r := by
  unfold bd_X3_spread_82
  (repeat' split) <;> simp [zUp, h3, h4, h5]
theorem fr_lp_X3_spread_82 (S : zS) (xst : Int32) (i : Nat) (nq : Int32) (T31 : zS) (mq0 : Int32) (T820 : zS) (r : Nat) (h3 : r ≠ 3) (h4 : r ≠ 4) (h5 : r ≠ 5) : ∀ n, (lp_X3_spread_82 S xst i nq T31 mq0 T820 n).2 r = T820 r
  | 0 => rfl
  | n + 1 => by
    show (bd_X3_spread_82 S xst i nq T31 n (lp_X3_spread_82 S xst i nq T31 mq0 T820 n).1 (lp_X3_spread_82 S xst i nq T31 mq0 T820 n).2).2 r = _
    rw [fr_bd_X3_spread_82 _ _ _ _ _ _ _ _ r h3 h4 h5]
    exact fr_lp_X3_spread_82 S xst i nq T31 mq0 T820 r h3 h4 h5 n
theorem fr_lp_X3_spread_31 (S : zS) (xst : Int32) (r : Nat) (h3 : r ≠ 3) (h4 : r ≠ 4) (h5 : r ≠ 5) : ∀ (q i : Nat) (nq : Int32) (T31 : zS), (lp_X3_spread_31 S xst q i nq T31).2 r = T31 r := by
  intro q
  induction q with
  | zero => intros; rfl
  | succ q ih =>
    intro i nq T31
    rw [lp_X3_spread_31]
    (repeat' split) <;> simp [ih, zUp, h3, h4, h5, fr_lp_X3_spread_82]
theorem fr_X3_spread (S : zS) (xst : Int32) (r : Nat) (h3 : r ≠ 3) (h4 : r ≠ 4) (h5 : r ≠ 5) : g_X3_spread S xst r = S r := by
  unfold g_X3_spread
  (repeat' split) <;> simp [zUp, h3, h4, h5, fr_lp_X3_spread_82, fr_lp_X3_spread_31]
set_option maxHeartbeats 4000000 in
set_option maxRecDepth 100000 in
theorem c_X3_spread (l : Launch) (dC : Nat → ClassId) (dI : Nat → Nat → Nat) (cyI : ClassId) (ad : Nat → Nat) (hI : zI ad 36) (S : zS) (xst : Int32) : zMv l (dC, dI) [(cyI, .int)] ad 36 xN (cw cyI ad) yX3_spread wsX3_spread ({ frames := 2, cells := 0, slots := 0, locals := 42 } : Room) [.ref (ad 2), .ref (ad 1), .int xst] S (fun T => T = g_X3_spread S xst) := by
  refine zStartV (by decide) rfl (Nat.le_of_ble_eq_true rfl) ?_
  intro p e s m args below meth c ls cx hrt hlk hP hK hXs hl
  have hl : lv_has ls 9 [(0, .ref (ad 2)), (1, .ref (ad 1)), (2, .int xst)] := hl
  have hS : va_S (zA ad 36 s.heap.size) s.heap s.heap [] := va_S.rf
  have hinX3 : ∀ w ∈ u_ws RX3 TX3 5, w ∈ wsX3_spread := by decide +kernel
  obtain ⟨Q, hQ⟩ : ∃ Q, Q = MQ below (zQv (dC, dI) (cw cyI ad) (fun T => T = g_X3_spread S xst) (zA ad 36 s.heap.size)) args s 0 0 (zA ad 36 s.heap.size) := ⟨_, rfl⟩
  rw [← hQ]
  refine lv_iload_n cx.1 cx.2.1 dX3_spread_0 rfl (lv_at hl 2 rfl) ?_
  refine lv_bipush (v := 64) cx.1 cx.2.1 dX3_spread_1 (by decide) ?_
  refine lv_imul cx.1 cx.2.1 dX3_spread_3 ?_
  refine lv_istore_n (lv' := [(3, .int (xst * 64)), (0, .ref (ad 2)), (1, .ref (ad 1)), (2, .int xst)]) cx.1 cx.2.1 dX3_spread_4 rfl hl (by decide) rfl (fun ls hl => ?_)
  refine lv_aload_n cx.1 cx.2.1 dX3_spread_5 rfl (lv_at hl 1 rfl) ?_
  refine zGet (v := .ref (ad 14)) (own := RX3) cx hinX3 hK hP 2 rfl rfl 2 (by decide) (by decide +kernel) rfl rfl dX3_spread_6 ?_
  refine lv_iload_n cx.1 cx.2.1 dX3_spread_9 rfl (lv_at hl 0 rfl) ?_
  refine lv_iload_n cx.1 cx.2.1 dX3_spread_10 rfl (lv_at hl 3 rfl) ?_
  refine lv_iadd cx.1 cx.2.1 dX3_spread_11 ?_
  refine lv_iconst (v := 0) cx.1 cx.2.1 dX3_spread_12 (by decide) ?_
  refine zThenVx (S' := zUp S 4 (rs 4096 (S 4) ((xst * 64) + xst) 0)) hS (zRunV (As := [.int ((xst * 64) + xst), .int 0]) (rest := []) _ 2 cx (c_X4_set l dC dI cyI ad hI S 4 (by decide) ((xst * 64) + xst) 0) gX3_spread_X4_set rfl ⟨rfl, rfl⟩ (by decide +kernel) ⟨Nat.le_of_ble_eq_true rfl, Nat.le_of_ble_eq_true rfl⟩ (xN_X ad 36) hXs hK hP hS 14 rfl rfl rfl rfl hl.1 rfl (Nat.le_of_ble_eq_true rfl) dX3_spread_13 ⟨Nat.zero_le _, Nat.zero_le _⟩) (fun H locs hP hS => ?_)
  refine lv_aload_n cx.1 cx.2.1 dX3_spread_16 rfl (lv_at hl 1 rfl) ?_
  refine zGet (v := .ref (ad 16)) (own := RX3) cx hinX3 hK hP 2 rfl rfl 3 (by decide) (by decide +kernel) rfl rfl dX3_spread_17 ?_
  refine lv_iconst (v := 0) cx.1 cx.2.1 dX3_spread_20 (by decide) ?_
  refine lv_iload_n cx.1 cx.2.1 dX3_spread_21 rfl (lv_at hl 3 rfl) ?_
  refine zThenVx (S' := zUp (zUp S 4 (rs 4096 (S 4) ((xst * 64) + xst) 0)) 5 (rs 64 (S 5) 0 xst)) hS (zRunV (As := [.int 0, .int xst]) (rest := []) _ 2 cx (c_X4_set l dC dI cyI ad hI (zUp S 4 (rs 4096 (S 4) ((xst * 64) + xst) 0)) 5 (by decide) 0 xst) gX3_spread_X4_set rfl ⟨rfl, rfl⟩ (by decide +kernel) ⟨Nat.le_of_ble_eq_true rfl, Nat.le_of_ble_eq_true rfl⟩ (xN_X ad 36) hXs hK hP hS 16 rfl rfl rfl rfl hl.1 rfl (Nat.le_of_ble_eq_true rfl) dX3_spread_22 ⟨Nat.zero_le _, Nat.zero_le _⟩) (fun H locs hP hS => ?_)
  refine lv_iconst (v := 1) cx.1 cx.2.1 dX3_spread_25 (by decide) ?_
  refine lv_istore (lv' := [(4, .int 1), (3, .int (xst * 64)), (0, .ref (ad 2)), (1, .ref (ad 1)), (2, .int xst)]) cx.1 cx.2.1 dX3_spread_26 hl (by decide) rfl (fun ls hl => ?_)
  refine lv_iconst (v := 0) cx.1 cx.2.1 dX3_spread_28 (by decide) ?_
  refine lv_istore (lv' := [(5, .int 0), (4, .int 1), (3, .int (xst * 64)), (0, .ref (ad 2)), (1, .ref (ad 1)), (2, .int xst)]) cx.1 cx.2.1 dX3_spread_29 hl (by decide) rfl (fun ls hl => ?_)
  have lp31 : ∀ (fu i : Nat) (nq : Int32) (T31 : zS) (hi31 : i ≤ 64) (hacc31 : lp_X3_spread_31 S xst (64 - i) i nq T31 = lp_X3_spread_31 S xst 64 0 1 (zUp (zUp S 4 (rs 4096 (S 4) ((xst * 64) + xst) 0)) 5 (rs 64 (S 5) 0 xst)))  (_ : 64 - i < fu) (H : Heap) (locs : List Loc) (ls : Array Slot), va_P (dC, dI) vwCl (cw cyI ad T31) H → va_S (zA ad 36 s.heap.size) s.heap H locs → lv_has ls 9 [(5, .int (nI i)), (4, .int nq), (3, .int (xst * 64)), (0, .ref (ad 2)), (1, .ref (ad 1)), (2, .int xst)] → W p l e (headSpec wsX3_spread ({ frames := 2, cells := 0, slots := 0, locals := 42 } : Room)).room s m args below meth c H locs 0 0 Q (F0 m 31 ls []) := by
    intro fu
    induction fu with
    | zero => intro i nq T31 hi31 hacc31  hm; exact absurd hm (Nat.not_lt_zero _)
    | succ fu ih31 =>
      intro i nq T31 hi31 hacc31  hm H locs ls hP hS hl
      refine lv_iload cx.1 cx.2.1 dX3_spread_31 (lv_at hl 0 rfl) ?_
      refine lv_iload cx.1 cx.2.1 dX3_spread_33 (lv_at hl 1 rfl) ?_
      refine lv_icmp_ge (tgt := 177) cx.1 cx.2.1 dX3_spread_35 (by decide) (fun c1 => ?_) (fun c1 => ?_)
      · have hx31 : lp_X3_spread_31 S xst 64 0 1 (zUp (zUp S 4 (rs 4096 (S 4) ((xst * 64) + xst) 0)) 5 (rs 64 (S 5) 0 xst)) = (nq, T31) := by
          rw [← hacc31]
          cases hn : 64 - i with
          | zero => rfl
          | succ q => rw [lp_X3_spread_31]; rw [if_pos c1]
        have hz0 : (lp_X3_spread_31 S xst 64 0 1 (zUp (zUp S 4 (rs 4096 (S 4) ((xst * 64) + xst) 0)) 5 (rs 64 (S 5) 0 xst))).1 = nq := (congrArg Prod.fst hx31)
        have hz1 : (lp_X3_spread_31 S xst 64 0 1 (zUp (zUp S 4 (rs 4096 (S 4) ((xst * 64) + xst) 0)) 5 (rs 64 (S 5) 0 xst))).2 = T31 := (congrArg Prod.snd hx31)
        subst hz0
        subst hz1
        rw [hQ]
        exact zRetV cx hrt hlk hS hP (by unfold g_X3_spread; rfl) dX3_spread_177
      · refine lv_iload cx.1 cx.2.1 dX3_spread_38 (lv_at hl 0 rfl) ?_
        refine lv_bipush (v := 64) cx.1 cx.2.1 dX3_spread_40 (by decide) ?_
        refine lv_icmp_ge (tgt := 177) cx.1 cx.2.1 dX3_spread_42 (by decide) (fun c2 => ?_) (fun c2 => ?_)
        · have nc2 : 64 ≤ i := (nI_leI (a := 64) (b := i) (by first | decide | omega) (by first | decide | omega)).mp c2
          have hx31 : lp_X3_spread_31 S xst 64 0 1 (zUp (zUp S 4 (rs 4096 (S 4) ((xst * 64) + xst) 0)) 5 (rs 64 (S 5) 0 xst)) = (nq, T31) := by
            rw [← hacc31]
            rw [show 64 - i = 0 by omega]; rfl
          have hz0 : (lp_X3_spread_31 S xst 64 0 1 (zUp (zUp S 4 (rs 4096 (S 4) ((xst * 64) + xst) 0)) 5 (rs 64 (S 5) 0 xst))).1 = nq := (congrArg Prod.fst hx31)
          have hz1 : (lp_X3_spread_31 S xst 64 0 1 (zUp (zUp S 4 (rs 4096 (S 4) ((xst * 64) + xst) 0)) 5 (rs 64 (S 5) 0 xst))).2 = T31 := (congrArg Prod.snd hx31)
          subst hz0
          subst hz1
          rw [hQ]
          exact zRetV cx hrt hlk hS hP (by unfold g_X3_spread; rfl) dX3_spread_177
        · have nc2 : ¬ 64 ≤ i := fun z => c2 ((nI_leI (a := 64) (b := i) (by first | decide | omega) (by first | decide | omega)).mpr z)
          refine lv_aload_n cx.1 cx.2.1 dX3_spread_45 rfl (lv_at hl 3 rfl) ?_
          refine zGet (v := .ref (ad 16)) (own := RX3) cx hinX3 hK hP 2 rfl rfl 3 (by decide) (by decide +kernel) rfl rfl dX3_spread_46 ?_
          refine lv_iload cx.1 cx.2.1 dX3_spread_49 (lv_at hl 0 rfl) ?_
          refine zThenIx (v := rg 64 (T31 5) (nI i)) (S' := T31) hS (zRunV (As := [.int (nI i)]) (rest := []) _ 1 cx (c_X4_get l dC dI cyI ad hI T31 5 (by decide) (nI i)) gX3_spread_X4_get rfl ⟨rfl, rfl⟩ (by decide +kernel) ⟨Nat.le_of_ble_eq_true rfl, Nat.le_of_ble_eq_true rfl⟩ (xN_X ad 36) hXs hK hP hS 16 rfl rfl rfl rfl hl.1 rfl (Nat.le_of_ble_eq_true rfl) dX3_spread_51 ⟨Nat.zero_le _, Nat.zero_le _⟩) (fun H locs hP hS => ?_)
          refine lv_istore (lv' := [(6, .int (rg 64 (T31 5) (nI i))), (5, .int (nI i)), (4, .int nq), (3, .int (xst * 64)), (0, .ref (ad 2)), (1, .ref (ad 1)), (2, .int xst)]) cx.1 cx.2.1 dX3_spread_54 hl (by decide) rfl (fun ls hl => ?_)
          refine lv_aload_n cx.1 cx.2.1 dX3_spread_56 rfl (lv_at hl 4 rfl) ?_
          refine zGet (v := .ref (ad 12)) (own := RX3) cx hinX3 hK hP 2 rfl rfl 1 (by decide) (by decide +kernel) rfl rfl dX3_spread_57 ?_
          refine lv_iload cx.1 cx.2.1 dX3_spread_60 (lv_at hl 0 rfl) ?_
          refine zThenIx (v := rg 64 (T31 3) (rg 64 (T31 5) (nI i))) (S' := T31) hS (zRunV (As := [.int (rg 64 (T31 5) (nI i))]) (rest := []) _ 1 cx (c_X4_get l dC dI cyI ad hI T31 3 (by decide) (rg 64 (T31 5) (nI i))) gX3_spread_X4_get rfl ⟨rfl, rfl⟩ (by decide +kernel) ⟨Nat.le_of_ble_eq_true rfl, Nat.le_of_ble_eq_true rfl⟩ (xN_X ad 36) hXs hK hP hS 12 rfl rfl rfl rfl hl.1 rfl (Nat.le_of_ble_eq_true rfl) dX3_spread_62 ⟨Nat.zero_le _, Nat.zero_le _⟩) (fun H locs hP hS => ?_)
          refine lv_iconst (v := (-1)) cx.1 cx.2.1 dX3_spread_65 (by decide) ?_
          refine lv_icmp_ne (tgt := 79) cx.1 cx.2.1 dX3_spread_66 (by decide) (fun c3 => ?_) (fun c3 => ?_)
          · refine lv_iconst (v := 0) cx.1 cx.2.1 dX3_spread_79 (by decide) ?_
            refine lv_istore (lv' := [(7, .int 0), (6, .int (rg 64 (T31 5) (nI i))), (5, .int (nI i)), (4, .int nq), (3, .int (xst * 64)), (0, .ref (ad 2)), (1, .ref (ad 1)), (2, .int xst)]) cx.1 cx.2.1 dX3_spread_80 hl (by decide) rfl (fun ls hl => ?_)
            have lp82 : ∀ (fu j : Nat) (mq : Int32) (T82 : zS) (hi82 : j ≤ 4) (hacc82 : lp_X3_spread_82 S xst i nq T31 nq T31 j = (mq, T82))  (_ : 4 - j < fu) (H : Heap) (locs : List Loc) (ls : Array Slot), va_P (dC, dI) vwCl (cw cyI ad T82) H → va_S (zA ad 36 s.heap.size) s.heap H locs → lv_has ls 9 [(7, .int (nI j)), (6, .int (rg 64 (T31 5) (nI i))), (5, .int (nI i)), (4, .int mq), (3, .int (xst * 64)), (0, .ref (ad 2)), (1, .ref (ad 1)), (2, .int xst)] → W p l e (headSpec wsX3_spread ({ frames := 2, cells := 0, slots := 0, locals := 42 } : Room)).room s m args below meth c H locs 0 0 Q (F0 m 82 ls []) := by
              intro fu
              induction fu with
              | zero => intro j mq T82 hi82 hacc82  hm; exact absurd hm (Nat.not_lt_zero _)
              | succ fu ih82 =>
                intro j mq T82 hi82 hacc82  hm H locs ls hP hS hl
                refine lv_iload cx.1 cx.2.1 dX3_spread_82 (lv_at hl 0 rfl) ?_
                refine lv_iconst (v := 4) cx.1 cx.2.1 dX3_spread_84 (by decide) ?_
                refine lv_icmp_ge (tgt := 171) cx.1 cx.2.1 dX3_spread_85 (by decide) (fun c4 => ?_) (fun c4 => ?_)
                · have nc4 : 4 ≤ j := (nI_leI (a := 4) (b := j) (by first | decide | omega) (by first | decide | omega)).mp c4
                  obtain rfl : j = 4 := by omega
                  have hz0 : (lp_X3_spread_82 S xst i nq T31 nq T31 4).1 = mq := (congrArg Prod.fst hacc82)
                  have hz1 : (lp_X3_spread_82 S xst i nq T31 nq T31 4).2 = T82 := (congrArg Prod.snd hacc82)
                  subst hz0
                  subst hz1
                  refine lv_iinc (v := nI (i + 1)) (lv' := [(5, .int (nI (i + 1))), (7, .int (nI 4)), (6, .int (rg 64 (T31 5) (nI i))), (4, .int ((lp_X3_spread_82 S xst i nq T31 nq T31 4).1)), (3, .int (xst * 64)), (0, .ref (ad 2)), (1, .ref (ad 1)), (2, .int xst)]) cx.1 cx.2.1 dX3_spread_171 hl (k := 2) rfl (nI_1 i) (by decide) rfl (fun ls hl => ?_)
                  refine lv_goto (tgt := 31) cx.1 cx.2.1 dX3_spread_174 (by decide) ?_
                  have ha31 : lp_X3_spread_31 S xst (64 - (i + 1)) (i + 1) ((lp_X3_spread_82 S xst i nq T31 nq T31 4).1) ((lp_X3_spread_82 S xst i nq T31 nq T31 4).2) = lp_X3_spread_31 S xst 64 0 1 (zUp (zUp S 4 (rs 4096 (S 4) ((xst * 64) + xst) 0)) 5 (rs 64 (S 5) 0 xst)) := by
                    rw [← hacc31, show 64 - i = (64 - (i + 1)) + 1 by omega]
                    conv => rhs; rw [lp_X3_spread_31]
                    rw [if_neg c1, if_pos c3]
                  exact ih31 (i + 1) ((lp_X3_spread_82 S xst i nq T31 nq T31 4).1) ((lp_X3_spread_82 S xst i nq T31 nq T31 4).2) (by omega) ha31  (by omega) _ _ ls hP hS (lv_sub hl [0, 3, 4, 5, 6, 7] rfl)
                · have nc4 : ¬ 4 ≤ j := fun z => c4 ((nI_leI (a := 4) (b := j) (by first | decide | omega) (by first | decide | omega)).mpr z)
                  refine lv_iload cx.1 cx.2.1 dX3_spread_88 (lv_at hl 1 rfl) ?_
                  refine lv_iload cx.1 cx.2.1 dX3_spread_90 (lv_at hl 0 rfl) ?_
                  refine zThenIx (v := f_X6_neighbourOf (rg 64 (T31 5) (nI i)) (nI j)) (S' := T82) hS (zRunSN (As := [.int (rg 64 (T31 5) (nI i)), .int (nI j)]) (rest := []) _ 2 cx (c_X6_neighbourOf l dC dI cyI ad hI T82 (rg 64 (T31 5) (nI i)) (nI j)) gX3_spread_X6_neighbourOf_n54 hXs.2 (cx.2.2.2.2 _ (by decide +kernel)) (cx.2.2.2.2 _ (by decide +kernel)) rfl ⟨rfl, rfl⟩ (by decide +kernel) ⟨Nat.le_of_ble_eq_true rfl, Nat.le_of_ble_eq_true rfl⟩ (xN_X ad 36) hXs hK hP hS rfl hl.1 rfl (Nat.le_of_ble_eq_true rfl) dX3_spread_92 ⟨Nat.zero_le _, Nat.zero_le _⟩) (fun H locs hP hS => ?_)
                  refine lv_istore (lv' := [(8, .int (f_X6_neighbourOf (rg 64 (T31 5) (nI i)) (nI j))), (7, .int (nI j)), (6, .int (rg 64 (T31 5) (nI i))), (5, .int (nI i)), (4, .int mq), (3, .int (xst * 64)), (0, .ref (ad 2)), (1, .ref (ad 1)), (2, .int xst)]) cx.1 cx.2.1 dX3_spread_95 hl (by decide) rfl (fun ls hl => ?_)
                  refine lv_iload cx.1 cx.2.1 dX3_spread_97 (lv_at hl 0 rfl) ?_
                  refine lv_iconst (v := (-1)) cx.1 cx.2.1 dX3_spread_99 (by decide) ?_
                  refine lv_icmp_eq (tgt := 165) cx.1 cx.2.1 dX3_spread_100 (by decide) (fun c5 => ?_) (fun c5 => ?_)
                  · refine lv_iinc (v := nI (j + 1)) (lv' := [(7, .int (nI (j + 1))), (8, .int (f_X6_neighbourOf (rg 64 (T31 5) (nI i)) (nI j))), (6, .int (rg 64 (T31 5) (nI i))), (5, .int (nI i)), (4, .int mq), (3, .int (xst * 64)), (0, .ref (ad 2)), (1, .ref (ad 1)), (2, .int xst)]) cx.1 cx.2.1 dX3_spread_165 hl (k := 1) rfl (nI_1 j) (by decide) rfl (fun ls hl => ?_)
                    refine lv_goto (tgt := 82) cx.1 cx.2.1 dX3_spread_168 (by decide) ?_
                    have ha82 : lp_X3_spread_82 S xst i nq T31 nq T31 (j + 1) = (mq, T82) := by
                      show bd_X3_spread_82 S xst i nq T31 j (lp_X3_spread_82 S xst i nq T31 nq T31 j).1 (lp_X3_spread_82 S xst i nq T31 nq T31 j).2 = _
                      rw [hacc82]
                      unfold bd_X3_spread_82
                      rw [if_pos c5]
                    exact ih82 (j + 1) mq T82 (by omega) ha82  (by omega) _ _ ls hP hS (lv_sub hl [0, 2, 3, 4, 5, 6, 7, 8] rfl)
                  · refine lv_aload_n cx.1 cx.2.1 dX3_spread_103 rfl (lv_at hl 7 rfl) ?_
                    refine lv_iload cx.1 cx.2.1 dX3_spread_104 (lv_at hl 0 rfl) ?_
                    refine zThenIx (v := f_X0_isRoad T82 (f_X6_neighbourOf (rg 64 (T31 5) (nI i)) (nI j))) (S' := T82) hS (zRunV (As := [.int (f_X6_neighbourOf (rg 64 (T31 5) (nI i)) (nI j))]) (rest := []) _ 1 cx (c_X0_isRoad l dC dI cyI ad hI T82 (f_X6_neighbourOf (rg 64 (T31 5) (nI i)) (nI j))) gX3_spread_X0_isRoad rfl ⟨rfl, rfl⟩ (by decide +kernel) ⟨Nat.le_of_ble_eq_true rfl, Nat.le_of_ble_eq_true rfl⟩ (xN_X ad 36) hXs hK hP hS 1 rfl rfl rfl rfl hl.1 rfl (Nat.le_of_ble_eq_true rfl) dX3_spread_106 ⟨Nat.zero_le _, Nat.zero_le _⟩) (fun H locs hP hS => ?_)
                    refine lv_if_eq (tgt := 165) cx.1 cx.2.1 dX3_spread_109 (by decide) (fun c6 => ?_) (fun c6 => ?_)
                    · refine lv_iinc (v := nI (j + 1)) (lv' := [(7, .int (nI (j + 1))), (8, .int (f_X6_neighbourOf (rg 64 (T31 5) (nI i)) (nI j))), (6, .int (rg 64 (T31 5) (nI i))), (5, .int (nI i)), (4, .int mq), (3, .int (xst * 64)), (0, .ref (ad 2)), (1, .ref (ad 1)), (2, .int xst)]) cx.1 cx.2.1 dX3_spread_165 hl (k := 1) rfl (nI_1 j) (by decide) rfl (fun ls hl => ?_)
                      refine lv_goto (tgt := 82) cx.1 cx.2.1 dX3_spread_168 (by decide) ?_
                      have ha82 : lp_X3_spread_82 S xst i nq T31 nq T31 (j + 1) = (mq, T82) := by
                        show bd_X3_spread_82 S xst i nq T31 j (lp_X3_spread_82 S xst i nq T31 nq T31 j).1 (lp_X3_spread_82 S xst i nq T31 nq T31 j).2 = _
                        rw [hacc82]
                        unfold bd_X3_spread_82
                        rw [if_neg c5, if_pos c6]
                      exact ih82 (j + 1) mq T82 (by omega) ha82  (by omega) _ _ ls hP hS (lv_sub hl [0, 2, 3, 4, 5, 6, 7, 8] rfl)
                    · refine lv_aload_n cx.1 cx.2.1 dX3_spread_112 rfl (lv_at hl 6 rfl) ?_
                      refine zGet (v := .ref (ad 14)) (own := RX3) cx hinX3 hK hP 2 rfl rfl 2 (by decide) (by decide +kernel) rfl rfl dX3_spread_113 ?_
                      refine lv_iload_n cx.1 cx.2.1 dX3_spread_116 rfl (lv_at hl 5 rfl) ?_
                      refine lv_iload cx.1 cx.2.1 dX3_spread_117 (lv_at hl 0 rfl) ?_
                      refine lv_iadd cx.1 cx.2.1 dX3_spread_119 ?_
                      refine zThenIx (v := rg 4096 (T82 4) ((xst * 64) + (f_X6_neighbourOf (rg 64 (T31 5) (nI i)) (nI j)))) (S' := T82) hS (zRunV (As := [.int ((xst * 64) + (f_X6_neighbourOf (rg 64 (T31 5) (nI i)) (nI j)))]) (rest := []) _ 1 cx (c_X4_get l dC dI cyI ad hI T82 4 (by decide) ((xst * 64) + (f_X6_neighbourOf (rg 64 (T31 5) (nI i)) (nI j)))) gX3_spread_X4_get rfl ⟨rfl, rfl⟩ (by decide +kernel) ⟨Nat.le_of_ble_eq_true rfl, Nat.le_of_ble_eq_true rfl⟩ (xN_X ad 36) hXs hK hP hS 14 rfl rfl rfl rfl hl.1 rfl (Nat.le_of_ble_eq_true rfl) dX3_spread_120 ⟨Nat.zero_le _, Nat.zero_le _⟩) (fun H locs hP hS => ?_)
                      refine lv_iconst (v := (-1)) cx.1 cx.2.1 dX3_spread_123 (by decide) ?_
                      refine lv_icmp_ne (tgt := 165) cx.1 cx.2.1 dX3_spread_124 (by decide) (fun c7 => ?_) (fun c7 => ?_)
                      · refine lv_iinc (v := nI (j + 1)) (lv' := [(7, .int (nI (j + 1))), (8, .int (f_X6_neighbourOf (rg 64 (T31 5) (nI i)) (nI j))), (6, .int (rg 64 (T31 5) (nI i))), (5, .int (nI i)), (4, .int mq), (3, .int (xst * 64)), (0, .ref (ad 2)), (1, .ref (ad 1)), (2, .int xst)]) cx.1 cx.2.1 dX3_spread_165 hl (k := 1) rfl (nI_1 j) (by decide) rfl (fun ls hl => ?_)
                        refine lv_goto (tgt := 82) cx.1 cx.2.1 dX3_spread_168 (by decide) ?_
                        have ha82 : lp_X3_spread_82 S xst i nq T31 nq T31 (j + 1) = (mq, T82) := by
                          show bd_X3_spread_82 S xst i nq T31 j (lp_X3_spread_82 S xst i nq T31 nq T31 j).1 (lp_X3_spread_82 S xst i nq T31 nq T31 j).2 = _
                          rw [hacc82]
                          unfold bd_X3_spread_82
                          rw [if_neg c5, if_neg c6, if_pos c7]
                        exact ih82 (j + 1) mq T82 (by omega) ha82  (by omega) _ _ ls hP hS (lv_sub hl [0, 2, 3, 4, 5, 6, 7, 8] rfl)
                      · refine lv_aload_n cx.1 cx.2.1 dX3_spread_127 rfl (lv_at hl 6 rfl) ?_
                        refine zGet (v := .ref (ad 14)) (own := RX3) cx hinX3 hK hP 2 rfl rfl 2 (by decide) (by decide +kernel) rfl rfl dX3_spread_128 ?_
                        refine lv_iload_n cx.1 cx.2.1 dX3_spread_131 rfl (lv_at hl 5 rfl) ?_
                        refine lv_iload cx.1 cx.2.1 dX3_spread_132 (lv_at hl 0 rfl) ?_
                        refine lv_iadd cx.1 cx.2.1 dX3_spread_134 ?_
                        refine lv_aload_n cx.1 cx.2.1 dX3_spread_135 rfl (lv_at hl 6 rfl) ?_
                        refine zGet (v := .ref (ad 14)) (own := RX3) cx hinX3 hK hP 2 rfl rfl 2 (by decide) (by decide +kernel) rfl rfl dX3_spread_136 ?_
                        refine lv_iload_n cx.1 cx.2.1 dX3_spread_139 rfl (lv_at hl 5 rfl) ?_
                        refine lv_iload cx.1 cx.2.1 dX3_spread_140 (lv_at hl 2 rfl) ?_
                        refine lv_iadd cx.1 cx.2.1 dX3_spread_142 ?_
                        refine zThenIx (v := rg 4096 (T82 4) ((xst * 64) + (rg 64 (T31 5) (nI i)))) (S' := T82) hS (zRunV (As := [.int ((xst * 64) + (rg 64 (T31 5) (nI i)))]) (rest := [.int ((xst * 64) + (f_X6_neighbourOf (rg 64 (T31 5) (nI i)) (nI j))), .ref (ad 14)]) _ 1 cx (c_X4_get l dC dI cyI ad hI T82 4 (by decide) ((xst * 64) + (rg 64 (T31 5) (nI i)))) gX3_spread_X4_get rfl ⟨rfl, rfl⟩ (by decide +kernel) ⟨Nat.le_of_ble_eq_true rfl, Nat.le_of_ble_eq_true rfl⟩ (xN_X ad 36) hXs hK hP hS 14 rfl rfl rfl rfl hl.1 rfl (Nat.le_of_ble_eq_true rfl) dX3_spread_143 ⟨Nat.zero_le _, Nat.zero_le _⟩) (fun H locs hP hS => ?_)
                        refine lv_iconst (v := 1) cx.1 cx.2.1 dX3_spread_146 (by decide) ?_
                        refine lv_iadd cx.1 cx.2.1 dX3_spread_147 ?_
                        refine zThenVx (S' := zUp T82 4 (rs 4096 (T82 4) ((xst * 64) + (f_X6_neighbourOf (rg 64 (T31 5) (nI i)) (nI j))) ((rg 4096 (T82 4) ((xst * 64) + (rg 64 (T31 5) (nI i)))) + 1))) hS (zRunV (As := [.int ((xst * 64) + (f_X6_neighbourOf (rg 64 (T31 5) (nI i)) (nI j))), .int ((rg 4096 (T82 4) ((xst * 64) + (rg 64 (T31 5) (nI i)))) + 1)]) (rest := []) _ 2 cx (c_X4_set l dC dI cyI ad hI T82 4 (by decide) ((xst * 64) + (f_X6_neighbourOf (rg 64 (T31 5) (nI i)) (nI j))) ((rg 4096 (T82 4) ((xst * 64) + (rg 64 (T31 5) (nI i)))) + 1)) gX3_spread_X4_set rfl ⟨rfl, rfl⟩ (by decide +kernel) ⟨Nat.le_of_ble_eq_true rfl, Nat.le_of_ble_eq_true rfl⟩ (xN_X ad 36) hXs hK hP hS 14 rfl rfl rfl rfl hl.1 rfl (Nat.le_of_ble_eq_true rfl) dX3_spread_148 ⟨Nat.zero_le _, Nat.zero_le _⟩) (fun H locs hP hS => ?_)
                        refine lv_aload_n cx.1 cx.2.1 dX3_spread_151 rfl (lv_at hl 6 rfl) ?_
                        refine zGet (v := .ref (ad 16)) (own := RX3) cx hinX3 hK hP 2 rfl rfl 3 (by decide) (by decide +kernel) rfl rfl dX3_spread_152 ?_
                        refine lv_iload cx.1 cx.2.1 dX3_spread_155 (lv_at hl 4 rfl) ?_
                        refine lv_iload cx.1 cx.2.1 dX3_spread_157 (lv_at hl 0 rfl) ?_
                        refine zThenVx (S' := zUp (zUp T82 4 (rs 4096 (T82 4) ((xst * 64) + (f_X6_neighbourOf (rg 64 (T31 5) (nI i)) (nI j))) ((rg 4096 (T82 4) ((xst * 64) + (rg 64 (T31 5) (nI i)))) + 1))) 5 (rs 64 (T82 5) mq (f_X6_neighbourOf (rg 64 (T31 5) (nI i)) (nI j)))) hS (zRunV (As := [.int mq, .int (f_X6_neighbourOf (rg 64 (T31 5) (nI i)) (nI j))]) (rest := []) _ 2 cx (c_X4_set l dC dI cyI ad hI (zUp T82 4 (rs 4096 (T82 4) ((xst * 64) + (f_X6_neighbourOf (rg 64 (T31 5) (nI i)) (nI j))) ((rg 4096 (T82 4) ((xst * 64) + (rg 64 (T31 5) (nI i)))) + 1))) 5 (by decide) mq (f_X6_neighbourOf (rg 64 (T31 5) (nI i)) (nI j))) gX3_spread_X4_set rfl ⟨rfl, rfl⟩ (by decide +kernel) ⟨Nat.le_of_ble_eq_true rfl, Nat.le_of_ble_eq_true rfl⟩ (xN_X ad 36) hXs hK hP hS 16 rfl rfl rfl rfl hl.1 rfl (Nat.le_of_ble_eq_true rfl) dX3_spread_159 ⟨Nat.zero_le _, Nat.zero_le _⟩) (fun H locs hP hS => ?_)
                        refine lv_iinc (v := mq + 1) (lv' := [(4, .int (mq + 1)), (8, .int (f_X6_neighbourOf (rg 64 (T31 5) (nI i)) (nI j))), (7, .int (nI j)), (6, .int (rg 64 (T31 5) (nI i))), (5, .int (nI i)), (3, .int (xst * 64)), (0, .ref (ad 2)), (1, .ref (ad 1)), (2, .int xst)]) cx.1 cx.2.1 dX3_spread_162 hl (k := 4) rfl rfl (by decide) rfl (fun ls hl => ?_)
                        refine lv_iinc (v := nI (j + 1)) (lv' := [(7, .int (nI (j + 1))), (4, .int (mq + 1)), (8, .int (f_X6_neighbourOf (rg 64 (T31 5) (nI i)) (nI j))), (6, .int (rg 64 (T31 5) (nI i))), (5, .int (nI i)), (3, .int (xst * 64)), (0, .ref (ad 2)), (1, .ref (ad 1)), (2, .int xst)]) cx.1 cx.2.1 dX3_spread_165 hl (k := 2) rfl (nI_1 j) (by decide) rfl (fun ls hl => ?_)
                        refine lv_goto (tgt := 82) cx.1 cx.2.1 dX3_spread_168 (by decide) ?_
                        have ha82 : lp_X3_spread_82 S xst i nq T31 nq T31 (j + 1) = (mq + 1, zUp (zUp T82 4 (rs 4096 (T82 4) ((xst * 64) + (f_X6_neighbourOf (rg 64 (T31 5) (nI i)) (nI j))) ((rg 4096 (T82 4) ((xst * 64) + (rg 64 (T31 5) (nI i)))) + 1))) 5 (rs 64 (T82 5) mq (f_X6_neighbourOf (rg 64 (T31 5) (nI i)) (nI j)))) := by
                          show bd_X3_spread_82 S xst i nq T31 j (lp_X3_spread_82 S xst i nq T31 nq T31 j).1 (lp_X3_spread_82 S xst i nq T31 nq T31 j).2 = _
                          rw [hacc82]
                          unfold bd_X3_spread_82
                          rw [if_neg c5, if_neg c6, if_neg (not_not_intro c7)]
                        exact ih82 (j + 1) (mq + 1) (zUp (zUp T82 4 (rs 4096 (T82 4) ((xst * 64) + (f_X6_neighbourOf (rg 64 (T31 5) (nI i)) (nI j))) ((rg 4096 (T82 4) ((xst * 64) + (rg 64 (T31 5) (nI i)))) + 1))) 5 (rs 64 (T82 5) mq (f_X6_neighbourOf (rg 64 (T31 5) (nI i)) (nI j)))) (by omega) ha82  (by omega) _ _ ls hP hS (lv_sub hl [0, 3, 4, 1, 5, 6, 7, 8] rfl)
            exact lp82 (4 - 0 + 1) 0 nq T31 (by omega) rfl  (Nat.lt_succ_self _) _ _ ls hP hS (lv_sub hl [0, 1, 2, 3, 4, 5, 6, 7] rfl)
          · refine lv_aload_n cx.1 cx.2.1 dX3_spread_69 rfl (lv_at hl 4 rfl) ?_
            refine zGet (v := .ref (ad 12)) (own := RX3) cx hinX3 hK hP 2 rfl rfl 1 (by decide) (by decide +kernel) rfl rfl dX3_spread_70 ?_
            refine lv_iload cx.1 cx.2.1 dX3_spread_73 (lv_at hl 0 rfl) ?_
            refine lv_iload_n cx.1 cx.2.1 dX3_spread_75 rfl (lv_at hl 6 rfl) ?_
            refine zThenVx (S' := zUp T31 3 (rs 64 (T31 3) (rg 64 (T31 5) (nI i)) xst)) hS (zRunV (As := [.int (rg 64 (T31 5) (nI i)), .int xst]) (rest := []) _ 2 cx (c_X4_set l dC dI cyI ad hI T31 3 (by decide) (rg 64 (T31 5) (nI i)) xst) gX3_spread_X4_set rfl ⟨rfl, rfl⟩ (by decide +kernel) ⟨Nat.le_of_ble_eq_true rfl, Nat.le_of_ble_eq_true rfl⟩ (xN_X ad 36) hXs hK hP hS 12 rfl rfl rfl rfl hl.1 rfl (Nat.le_of_ble_eq_true rfl) dX3_spread_76 ⟨Nat.zero_le _, Nat.zero_le _⟩) (fun H locs hP hS => ?_)
            refine lv_iconst (v := 0) cx.1 cx.2.1 dX3_spread_79 (by decide) ?_
            refine lv_istore (lv' := [(7, .int 0), (6, .int (rg 64 (T31 5) (nI i))), (5, .int (nI i)), (4, .int nq), (3, .int (xst * 64)), (0, .ref (ad 2)), (1, .ref (ad 1)), (2, .int xst)]) cx.1 cx.2.1 dX3_spread_80 hl (by decide) rfl (fun ls hl => ?_)
            have lp82 : ∀ (fu j : Nat) (mq : Int32) (T82 : zS) (hi82 : j ≤ 4) (hacc82 : lp_X3_spread_82 S xst i nq T31 nq (zUp T31 3 (rs 64 (T31 3) (rg 64 (T31 5) (nI i)) xst)) j = (mq, T82))  (_ : 4 - j < fu) (H : Heap) (locs : List Loc) (ls : Array Slot), va_P (dC, dI) vwCl (cw cyI ad T82) H → va_S (zA ad 36 s.heap.size) s.heap H locs → lv_has ls 9 [(7, .int (nI j)), (6, .int (rg 64 (T31 5) (nI i))), (5, .int (nI i)), (4, .int mq), (3, .int (xst * 64)), (0, .ref (ad 2)), (1, .ref (ad 1)), (2, .int xst)] → W p l e (headSpec wsX3_spread ({ frames := 2, cells := 0, slots := 0, locals := 42 } : Room)).room s m args below meth c H locs 0 0 Q (F0 m 82 ls []) := by
              intro fu
              induction fu with
              | zero => intro j mq T82 hi82 hacc82  hm; exact absurd hm (Nat.not_lt_zero _)
              | succ fu ih82 =>
                intro j mq T82 hi82 hacc82  hm H locs ls hP hS hl
                refine lv_iload cx.1 cx.2.1 dX3_spread_82 (lv_at hl 0 rfl) ?_
                refine lv_iconst (v := 4) cx.1 cx.2.1 dX3_spread_84 (by decide) ?_
                refine lv_icmp_ge (tgt := 171) cx.1 cx.2.1 dX3_spread_85 (by decide) (fun c8 => ?_) (fun c8 => ?_)
                · have nc8 : 4 ≤ j := (nI_leI (a := 4) (b := j) (by first | decide | omega) (by first | decide | omega)).mp c8
                  obtain rfl : j = 4 := by omega
                  have hz0 : (lp_X3_spread_82 S xst i nq T31 nq (zUp T31 3 (rs 64 (T31 3) (rg 64 (T31 5) (nI i)) xst)) 4).1 = mq := (congrArg Prod.fst hacc82)
                  have hz1 : (lp_X3_spread_82 S xst i nq T31 nq (zUp T31 3 (rs 64 (T31 3) (rg 64 (T31 5) (nI i)) xst)) 4).2 = T82 := (congrArg Prod.snd hacc82)
                  subst hz0
                  subst hz1
                  refine lv_iinc (v := nI (i + 1)) (lv' := [(5, .int (nI (i + 1))), (7, .int (nI 4)), (6, .int (rg 64 (T31 5) (nI i))), (4, .int ((lp_X3_spread_82 S xst i nq T31 nq (zUp T31 3 (rs 64 (T31 3) (rg 64 (T31 5) (nI i)) xst)) 4).1)), (3, .int (xst * 64)), (0, .ref (ad 2)), (1, .ref (ad 1)), (2, .int xst)]) cx.1 cx.2.1 dX3_spread_171 hl (k := 2) rfl (nI_1 i) (by decide) rfl (fun ls hl => ?_)
                  refine lv_goto (tgt := 31) cx.1 cx.2.1 dX3_spread_174 (by decide) ?_
                  have ha31 : lp_X3_spread_31 S xst (64 - (i + 1)) (i + 1) ((lp_X3_spread_82 S xst i nq T31 nq (zUp T31 3 (rs 64 (T31 3) (rg 64 (T31 5) (nI i)) xst)) 4).1) ((lp_X3_spread_82 S xst i nq T31 nq (zUp T31 3 (rs 64 (T31 3) (rg 64 (T31 5) (nI i)) xst)) 4).2) = lp_X3_spread_31 S xst 64 0 1 (zUp (zUp S 4 (rs 4096 (S 4) ((xst * 64) + xst) 0)) 5 (rs 64 (S 5) 0 xst)) := by
                    rw [← hacc31, show 64 - i = (64 - (i + 1)) + 1 by omega]
                    conv => rhs; rw [lp_X3_spread_31]
                    rw [if_neg c1, if_neg (not_not_intro c3)]
                  exact ih31 (i + 1) ((lp_X3_spread_82 S xst i nq T31 nq (zUp T31 3 (rs 64 (T31 3) (rg 64 (T31 5) (nI i)) xst)) 4).1) ((lp_X3_spread_82 S xst i nq T31 nq (zUp T31 3 (rs 64 (T31 3) (rg 64 (T31 5) (nI i)) xst)) 4).2) (by omega) ha31  (by omega) _ _ ls hP hS (lv_sub hl [0, 3, 4, 5, 6, 7] rfl)
                · have nc8 : ¬ 4 ≤ j := fun z => c8 ((nI_leI (a := 4) (b := j) (by first | decide | omega) (by first | decide | omega)).mpr z)
                  refine lv_iload cx.1 cx.2.1 dX3_spread_88 (lv_at hl 1 rfl) ?_
                  refine lv_iload cx.1 cx.2.1 dX3_spread_90 (lv_at hl 0 rfl) ?_
                  refine zThenIx (v := f_X6_neighbourOf (rg 64 (T31 5) (nI i)) (nI j)) (S' := T82) hS (zRunSN (As := [.int (rg 64 (T31 5) (nI i)), .int (nI j)]) (rest := []) _ 2 cx (c_X6_neighbourOf l dC dI cyI ad hI T82 (rg 64 (T31 5) (nI i)) (nI j)) gX3_spread_X6_neighbourOf_n54 hXs.2 (cx.2.2.2.2 _ (by decide +kernel)) (cx.2.2.2.2 _ (by decide +kernel)) rfl ⟨rfl, rfl⟩ (by decide +kernel) ⟨Nat.le_of_ble_eq_true rfl, Nat.le_of_ble_eq_true rfl⟩ (xN_X ad 36) hXs hK hP hS rfl hl.1 rfl (Nat.le_of_ble_eq_true rfl) dX3_spread_92 ⟨Nat.zero_le _, Nat.zero_le _⟩) (fun H locs hP hS => ?_)
                  refine lv_istore (lv' := [(8, .int (f_X6_neighbourOf (rg 64 (T31 5) (nI i)) (nI j))), (7, .int (nI j)), (6, .int (rg 64 (T31 5) (nI i))), (5, .int (nI i)), (4, .int mq), (3, .int (xst * 64)), (0, .ref (ad 2)), (1, .ref (ad 1)), (2, .int xst)]) cx.1 cx.2.1 dX3_spread_95 hl (by decide) rfl (fun ls hl => ?_)
                  refine lv_iload cx.1 cx.2.1 dX3_spread_97 (lv_at hl 0 rfl) ?_
                  refine lv_iconst (v := (-1)) cx.1 cx.2.1 dX3_spread_99 (by decide) ?_
                  refine lv_icmp_eq (tgt := 165) cx.1 cx.2.1 dX3_spread_100 (by decide) (fun c9 => ?_) (fun c9 => ?_)
                  · refine lv_iinc (v := nI (j + 1)) (lv' := [(7, .int (nI (j + 1))), (8, .int (f_X6_neighbourOf (rg 64 (T31 5) (nI i)) (nI j))), (6, .int (rg 64 (T31 5) (nI i))), (5, .int (nI i)), (4, .int mq), (3, .int (xst * 64)), (0, .ref (ad 2)), (1, .ref (ad 1)), (2, .int xst)]) cx.1 cx.2.1 dX3_spread_165 hl (k := 1) rfl (nI_1 j) (by decide) rfl (fun ls hl => ?_)
                    refine lv_goto (tgt := 82) cx.1 cx.2.1 dX3_spread_168 (by decide) ?_
                    have ha82 : lp_X3_spread_82 S xst i nq T31 nq (zUp T31 3 (rs 64 (T31 3) (rg 64 (T31 5) (nI i)) xst)) (j + 1) = (mq, T82) := by
                      show bd_X3_spread_82 S xst i nq T31 j (lp_X3_spread_82 S xst i nq T31 nq (zUp T31 3 (rs 64 (T31 3) (rg 64 (T31 5) (nI i)) xst)) j).1 (lp_X3_spread_82 S xst i nq T31 nq (zUp T31 3 (rs 64 (T31 3) (rg 64 (T31 5) (nI i)) xst)) j).2 = _
                      rw [hacc82]
                      unfold bd_X3_spread_82
                      rw [if_pos c9]
                    exact ih82 (j + 1) mq T82 (by omega) ha82  (by omega) _ _ ls hP hS (lv_sub hl [0, 2, 3, 4, 5, 6, 7, 8] rfl)
                  · refine lv_aload_n cx.1 cx.2.1 dX3_spread_103 rfl (lv_at hl 7 rfl) ?_
                    refine lv_iload cx.1 cx.2.1 dX3_spread_104 (lv_at hl 0 rfl) ?_
                    refine zThenIx (v := f_X0_isRoad T82 (f_X6_neighbourOf (rg 64 (T31 5) (nI i)) (nI j))) (S' := T82) hS (zRunV (As := [.int (f_X6_neighbourOf (rg 64 (T31 5) (nI i)) (nI j))]) (rest := []) _ 1 cx (c_X0_isRoad l dC dI cyI ad hI T82 (f_X6_neighbourOf (rg 64 (T31 5) (nI i)) (nI j))) gX3_spread_X0_isRoad rfl ⟨rfl, rfl⟩ (by decide +kernel) ⟨Nat.le_of_ble_eq_true rfl, Nat.le_of_ble_eq_true rfl⟩ (xN_X ad 36) hXs hK hP hS 1 rfl rfl rfl rfl hl.1 rfl (Nat.le_of_ble_eq_true rfl) dX3_spread_106 ⟨Nat.zero_le _, Nat.zero_le _⟩) (fun H locs hP hS => ?_)
                    refine lv_if_eq (tgt := 165) cx.1 cx.2.1 dX3_spread_109 (by decide) (fun c10 => ?_) (fun c10 => ?_)
                    · refine lv_iinc (v := nI (j + 1)) (lv' := [(7, .int (nI (j + 1))), (8, .int (f_X6_neighbourOf (rg 64 (T31 5) (nI i)) (nI j))), (6, .int (rg 64 (T31 5) (nI i))), (5, .int (nI i)), (4, .int mq), (3, .int (xst * 64)), (0, .ref (ad 2)), (1, .ref (ad 1)), (2, .int xst)]) cx.1 cx.2.1 dX3_spread_165 hl (k := 1) rfl (nI_1 j) (by decide) rfl (fun ls hl => ?_)
                      refine lv_goto (tgt := 82) cx.1 cx.2.1 dX3_spread_168 (by decide) ?_
                      have ha82 : lp_X3_spread_82 S xst i nq T31 nq (zUp T31 3 (rs 64 (T31 3) (rg 64 (T31 5) (nI i)) xst)) (j + 1) = (mq, T82) := by
                        show bd_X3_spread_82 S xst i nq T31 j (lp_X3_spread_82 S xst i nq T31 nq (zUp T31 3 (rs 64 (T31 3) (rg 64 (T31 5) (nI i)) xst)) j).1 (lp_X3_spread_82 S xst i nq T31 nq (zUp T31 3 (rs 64 (T31 3) (rg 64 (T31 5) (nI i)) xst)) j).2 = _
                        rw [hacc82]
                        unfold bd_X3_spread_82
                        rw [if_neg c9, if_pos c10]
                      exact ih82 (j + 1) mq T82 (by omega) ha82  (by omega) _ _ ls hP hS (lv_sub hl [0, 2, 3, 4, 5, 6, 7, 8] rfl)
                    · refine lv_aload_n cx.1 cx.2.1 dX3_spread_112 rfl (lv_at hl 6 rfl) ?_
                      refine zGet (v := .ref (ad 14)) (own := RX3) cx hinX3 hK hP 2 rfl rfl 2 (by decide) (by decide +kernel) rfl rfl dX3_spread_113 ?_
                      refine lv_iload_n cx.1 cx.2.1 dX3_spread_116 rfl (lv_at hl 5 rfl) ?_
                      refine lv_iload cx.1 cx.2.1 dX3_spread_117 (lv_at hl 0 rfl) ?_
                      refine lv_iadd cx.1 cx.2.1 dX3_spread_119 ?_
                      refine zThenIx (v := rg 4096 (T82 4) ((xst * 64) + (f_X6_neighbourOf (rg 64 (T31 5) (nI i)) (nI j)))) (S' := T82) hS (zRunV (As := [.int ((xst * 64) + (f_X6_neighbourOf (rg 64 (T31 5) (nI i)) (nI j)))]) (rest := []) _ 1 cx (c_X4_get l dC dI cyI ad hI T82 4 (by decide) ((xst * 64) + (f_X6_neighbourOf (rg 64 (T31 5) (nI i)) (nI j)))) gX3_spread_X4_get rfl ⟨rfl, rfl⟩ (by decide +kernel) ⟨Nat.le_of_ble_eq_true rfl, Nat.le_of_ble_eq_true rfl⟩ (xN_X ad 36) hXs hK hP hS 14 rfl rfl rfl rfl hl.1 rfl (Nat.le_of_ble_eq_true rfl) dX3_spread_120 ⟨Nat.zero_le _, Nat.zero_le _⟩) (fun H locs hP hS => ?_)
                      refine lv_iconst (v := (-1)) cx.1 cx.2.1 dX3_spread_123 (by decide) ?_
                      refine lv_icmp_ne (tgt := 165) cx.1 cx.2.1 dX3_spread_124 (by decide) (fun c11 => ?_) (fun c11 => ?_)
                      · refine lv_iinc (v := nI (j + 1)) (lv' := [(7, .int (nI (j + 1))), (8, .int (f_X6_neighbourOf (rg 64 (T31 5) (nI i)) (nI j))), (6, .int (rg 64 (T31 5) (nI i))), (5, .int (nI i)), (4, .int mq), (3, .int (xst * 64)), (0, .ref (ad 2)), (1, .ref (ad 1)), (2, .int xst)]) cx.1 cx.2.1 dX3_spread_165 hl (k := 1) rfl (nI_1 j) (by decide) rfl (fun ls hl => ?_)
                        refine lv_goto (tgt := 82) cx.1 cx.2.1 dX3_spread_168 (by decide) ?_
                        have ha82 : lp_X3_spread_82 S xst i nq T31 nq (zUp T31 3 (rs 64 (T31 3) (rg 64 (T31 5) (nI i)) xst)) (j + 1) = (mq, T82) := by
                          show bd_X3_spread_82 S xst i nq T31 j (lp_X3_spread_82 S xst i nq T31 nq (zUp T31 3 (rs 64 (T31 3) (rg 64 (T31 5) (nI i)) xst)) j).1 (lp_X3_spread_82 S xst i nq T31 nq (zUp T31 3 (rs 64 (T31 3) (rg 64 (T31 5) (nI i)) xst)) j).2 = _
                          rw [hacc82]
                          unfold bd_X3_spread_82
                          rw [if_neg c9, if_neg c10, if_pos c11]
                        exact ih82 (j + 1) mq T82 (by omega) ha82  (by omega) _ _ ls hP hS (lv_sub hl [0, 2, 3, 4, 5, 6, 7, 8] rfl)
                      · refine lv_aload_n cx.1 cx.2.1 dX3_spread_127 rfl (lv_at hl 6 rfl) ?_
                        refine zGet (v := .ref (ad 14)) (own := RX3) cx hinX3 hK hP 2 rfl rfl 2 (by decide) (by decide +kernel) rfl rfl dX3_spread_128 ?_
                        refine lv_iload_n cx.1 cx.2.1 dX3_spread_131 rfl (lv_at hl 5 rfl) ?_
                        refine lv_iload cx.1 cx.2.1 dX3_spread_132 (lv_at hl 0 rfl) ?_
                        refine lv_iadd cx.1 cx.2.1 dX3_spread_134 ?_
                        refine lv_aload_n cx.1 cx.2.1 dX3_spread_135 rfl (lv_at hl 6 rfl) ?_
                        refine zGet (v := .ref (ad 14)) (own := RX3) cx hinX3 hK hP 2 rfl rfl 2 (by decide) (by decide +kernel) rfl rfl dX3_spread_136 ?_
                        refine lv_iload_n cx.1 cx.2.1 dX3_spread_139 rfl (lv_at hl 5 rfl) ?_
                        refine lv_iload cx.1 cx.2.1 dX3_spread_140 (lv_at hl 2 rfl) ?_
                        refine lv_iadd cx.1 cx.2.1 dX3_spread_142 ?_
                        refine zThenIx (v := rg 4096 (T82 4) ((xst * 64) + (rg 64 (T31 5) (nI i)))) (S' := T82) hS (zRunV (As := [.int ((xst * 64) + (rg 64 (T31 5) (nI i)))]) (rest := [.int ((xst * 64) + (f_X6_neighbourOf (rg 64 (T31 5) (nI i)) (nI j))), .ref (ad 14)]) _ 1 cx (c_X4_get l dC dI cyI ad hI T82 4 (by decide) ((xst * 64) + (rg 64 (T31 5) (nI i)))) gX3_spread_X4_get rfl ⟨rfl, rfl⟩ (by decide +kernel) ⟨Nat.le_of_ble_eq_true rfl, Nat.le_of_ble_eq_true rfl⟩ (xN_X ad 36) hXs hK hP hS 14 rfl rfl rfl rfl hl.1 rfl (Nat.le_of_ble_eq_true rfl) dX3_spread_143 ⟨Nat.zero_le _, Nat.zero_le _⟩) (fun H locs hP hS => ?_)
                        refine lv_iconst (v := 1) cx.1 cx.2.1 dX3_spread_146 (by decide) ?_
                        refine lv_iadd cx.1 cx.2.1 dX3_spread_147 ?_
                        refine zThenVx (S' := zUp T82 4 (rs 4096 (T82 4) ((xst * 64) + (f_X6_neighbourOf (rg 64 (T31 5) (nI i)) (nI j))) ((rg 4096 (T82 4) ((xst * 64) + (rg 64 (T31 5) (nI i)))) + 1))) hS (zRunV (As := [.int ((xst * 64) + (f_X6_neighbourOf (rg 64 (T31 5) (nI i)) (nI j))), .int ((rg 4096 (T82 4) ((xst * 64) + (rg 64 (T31 5) (nI i)))) + 1)]) (rest := []) _ 2 cx (c_X4_set l dC dI cyI ad hI T82 4 (by decide) ((xst * 64) + (f_X6_neighbourOf (rg 64 (T31 5) (nI i)) (nI j))) ((rg 4096 (T82 4) ((xst * 64) + (rg 64 (T31 5) (nI i)))) + 1)) gX3_spread_X4_set rfl ⟨rfl, rfl⟩ (by decide +kernel) ⟨Nat.le_of_ble_eq_true rfl, Nat.le_of_ble_eq_true rfl⟩ (xN_X ad 36) hXs hK hP hS 14 rfl rfl rfl rfl hl.1 rfl (Nat.le_of_ble_eq_true rfl) dX3_spread_148 ⟨Nat.zero_le _, Nat.zero_le _⟩) (fun H locs hP hS => ?_)
                        refine lv_aload_n cx.1 cx.2.1 dX3_spread_151 rfl (lv_at hl 6 rfl) ?_
                        refine zGet (v := .ref (ad 16)) (own := RX3) cx hinX3 hK hP 2 rfl rfl 3 (by decide) (by decide +kernel) rfl rfl dX3_spread_152 ?_
                        refine lv_iload cx.1 cx.2.1 dX3_spread_155 (lv_at hl 4 rfl) ?_
                        refine lv_iload cx.1 cx.2.1 dX3_spread_157 (lv_at hl 0 rfl) ?_
                        refine zThenVx (S' := zUp (zUp T82 4 (rs 4096 (T82 4) ((xst * 64) + (f_X6_neighbourOf (rg 64 (T31 5) (nI i)) (nI j))) ((rg 4096 (T82 4) ((xst * 64) + (rg 64 (T31 5) (nI i)))) + 1))) 5 (rs 64 (T82 5) mq (f_X6_neighbourOf (rg 64 (T31 5) (nI i)) (nI j)))) hS (zRunV (As := [.int mq, .int (f_X6_neighbourOf (rg 64 (T31 5) (nI i)) (nI j))]) (rest := []) _ 2 cx (c_X4_set l dC dI cyI ad hI (zUp T82 4 (rs 4096 (T82 4) ((xst * 64) + (f_X6_neighbourOf (rg 64 (T31 5) (nI i)) (nI j))) ((rg 4096 (T82 4) ((xst * 64) + (rg 64 (T31 5) (nI i)))) + 1))) 5 (by decide) mq (f_X6_neighbourOf (rg 64 (T31 5) (nI i)) (nI j))) gX3_spread_X4_set rfl ⟨rfl, rfl⟩ (by decide +kernel) ⟨Nat.le_of_ble_eq_true rfl, Nat.le_of_ble_eq_true rfl⟩ (xN_X ad 36) hXs hK hP hS 16 rfl rfl rfl rfl hl.1 rfl (Nat.le_of_ble_eq_true rfl) dX3_spread_159 ⟨Nat.zero_le _, Nat.zero_le _⟩) (fun H locs hP hS => ?_)
                        refine lv_iinc (v := mq + 1) (lv' := [(4, .int (mq + 1)), (8, .int (f_X6_neighbourOf (rg 64 (T31 5) (nI i)) (nI j))), (7, .int (nI j)), (6, .int (rg 64 (T31 5) (nI i))), (5, .int (nI i)), (3, .int (xst * 64)), (0, .ref (ad 2)), (1, .ref (ad 1)), (2, .int xst)]) cx.1 cx.2.1 dX3_spread_162 hl (k := 4) rfl rfl (by decide) rfl (fun ls hl => ?_)
                        refine lv_iinc (v := nI (j + 1)) (lv' := [(7, .int (nI (j + 1))), (4, .int (mq + 1)), (8, .int (f_X6_neighbourOf (rg 64 (T31 5) (nI i)) (nI j))), (6, .int (rg 64 (T31 5) (nI i))), (5, .int (nI i)), (3, .int (xst * 64)), (0, .ref (ad 2)), (1, .ref (ad 1)), (2, .int xst)]) cx.1 cx.2.1 dX3_spread_165 hl (k := 2) rfl (nI_1 j) (by decide) rfl (fun ls hl => ?_)
                        refine lv_goto (tgt := 82) cx.1 cx.2.1 dX3_spread_168 (by decide) ?_
                        have ha82 : lp_X3_spread_82 S xst i nq T31 nq (zUp T31 3 (rs 64 (T31 3) (rg 64 (T31 5) (nI i)) xst)) (j + 1) = (mq + 1, zUp (zUp T82 4 (rs 4096 (T82 4) ((xst * 64) + (f_X6_neighbourOf (rg 64 (T31 5) (nI i)) (nI j))) ((rg 4096 (T82 4) ((xst * 64) + (rg 64 (T31 5) (nI i)))) + 1))) 5 (rs 64 (T82 5) mq (f_X6_neighbourOf (rg 64 (T31 5) (nI i)) (nI j)))) := by
                          show bd_X3_spread_82 S xst i nq T31 j (lp_X3_spread_82 S xst i nq T31 nq (zUp T31 3 (rs 64 (T31 3) (rg 64 (T31 5) (nI i)) xst)) j).1 (lp_X3_spread_82 S xst i nq T31 nq (zUp T31 3 (rs 64 (T31 3) (rg 64 (T31 5) (nI i)) xst)) j).2 = _
                          rw [hacc82]
                          unfold bd_X3_spread_82
                          rw [if_neg c9, if_neg c10, if_neg (not_not_intro c11)]
                        exact ih82 (j + 1) (mq + 1) (zUp (zUp T82 4 (rs 4096 (T82 4) ((xst * 64) + (f_X6_neighbourOf (rg 64 (T31 5) (nI i)) (nI j))) ((rg 4096 (T82 4) ((xst * 64) + (rg 64 (T31 5) (nI i)))) + 1))) 5 (rs 64 (T82 5) mq (f_X6_neighbourOf (rg 64 (T31 5) (nI i)) (nI j)))) (by omega) ha82  (by omega) _ _ ls hP hS (lv_sub hl [0, 3, 4, 1, 5, 6, 7, 8] rfl)
            exact lp82 (4 - 0 + 1) 0 nq (zUp T31 3 (rs 64 (T31 3) (rg 64 (T31 5) (nI i)) xst)) (by omega) rfl  (Nat.lt_succ_self _) _ _ ls hP hS (lv_sub hl [0, 1, 2, 3, 4, 5, 6, 7] rfl)
  exact lp31 (64 - 0 + 1) 0 1 (zUp (zUp S 4 (rs 4096 (S 4) ((xst * 64) + xst) 0)) 5 (rs 64 (S 5) 0 xst)) (by omega) (by rw [Nat.sub_zero])  (Nat.lt_succ_self _) _ _ ls hP hS (lv_sub hl [0, 1, 2, 3, 4, 5] rfl)

def bd_X3_find_23 (S : zS) (i : Nat) (T23 : zS) : zS := if (f_X0_isRoad (zUp T23 2 (rs 64 (T23 2) (nI i) (f_X3_findRoad T23 (nI i)))) (nI i)) = 0 then (zUp T23 2 (rs 64 (T23 2) (nI i) (f_X3_findRoad T23 (nI i)))) else (g_X3_spread (zUp (zUp T23 2 (rs 64 (T23 2) (nI i) (f_X3_findRoad T23 (nI i)))) 15 (upd (T23 15) 0 ((T23 15 0) + 1))) (nI i))
def lp_X3_find_23 (S : zS) (T230 : zS) : Nat → zS
  | 0 => (T230)
  | q + 1 => bd_X3_find_23 S q (lp_X3_find_23 S T230 q)
def g_X3_find (S : zS)  : zS := (lp_X3_find_23 S (zUp (zUp (zUp S 3 (rf 64 (S 3) (-1))) 4 (rf 4096 (S 4) (-1))) 15 (upd (S 15) 0 0)) 64)
theorem fr_bd_X3_find_23 (S : zS) (i : Nat) (T23 : zS) (r : Nat) (h15 : r ≠ 15) (h2 : r ≠ 2) (h3 : r ≠ 3) (h4 : r ≠ 4) (h5 : r ≠ 5) : (bd_X3_find_23 S i T23) r = T23 r := by
  unfold bd_X3_find_23
  (repeat' split) <;> simp [zUp, h15, h2, h3, h4, h5, fr_X3_spread]
theorem fr_lp_X3_find_23 (S : zS) (T230 : zS) (r : Nat) (h15 : r ≠ 15) (h2 : r ≠ 2) (h3 : r ≠ 3) (h4 : r ≠ 4) (h5 : r ≠ 5) : ∀ n, (lp_X3_find_23 S T230 n) r = T230 r
  | 0 => rfl
  | n + 1 => by
    show (bd_X3_find_23 S n (lp_X3_find_23 S T230 n)) r = _
    rw [fr_bd_X3_find_23 _ _ _ r h15 h2 h3 h4 h5]
    exact fr_lp_X3_find_23 S T230 r h15 h2 h3 h4 h5 n
theorem fr_X3_find (S : zS)  (r : Nat) (h15 : r ≠ 15) (h2 : r ≠ 2) (h3 : r ≠ 3) (h4 : r ≠ 4) (h5 : r ≠ 5) : g_X3_find S  r = S r := by
  unfold g_X3_find
  (repeat' split) <;> simp [zUp, h15, h2, h3, h4, h5, fr_X3_spread, fr_lp_X3_find_23]
set_option maxHeartbeats 4000000 in
set_option maxRecDepth 100000 in
theorem c_X3_find (l : Launch) (dC : Nat → ClassId) (dI : Nat → Nat → Nat) (cyI : ClassId) (ad : Nat → Nat) (hI : zI ad 36) (S : zS)  : zMv l (dC, dI) [(cyI, .int)] ad 36 xN (cw cyI ad) yX3_find wsX3_find ({ frames := 3, cells := 0, slots := 0, locals := 70 } : Room) [.ref (ad 2), .ref (ad 1)] S (fun T => T = g_X3_find S) := by
  refine zStartV (by decide) rfl (Nat.le_of_ble_eq_true rfl) ?_
  intro p e s m args below meth c ls cx hrt hlk hP hK hXs hl
  have hl : lv_has ls 3 [(0, .ref (ad 2)), (1, .ref (ad 1))] := hl
  have hS : va_S (zA ad 36 s.heap.size) s.heap s.heap [] := va_S.rf
  have hinX3 : ∀ w ∈ u_ws RX3 TX3 5, w ∈ wsX3_find := by decide +kernel
  obtain ⟨Q, hQ⟩ : ∃ Q, Q = MQ below (zQv (dC, dI) (cw cyI ad) (fun T => T = g_X3_find S) (zA ad 36 s.heap.size)) args s 0 0 (zA ad 36 s.heap.size) := ⟨_, rfl⟩
  rw [← hQ]
  refine lv_aload_n cx.1 cx.2.1 dX3_find_0 rfl (lv_at hl 0 rfl) ?_
  refine zGet (v := .ref (ad 12)) (own := RX3) cx hinX3 hK hP 2 rfl rfl 1 (by decide) (by decide +kernel) rfl rfl dX3_find_1 ?_
  refine lv_iconst (v := (-1)) cx.1 cx.2.1 dX3_find_4 (by decide) ?_
  refine zThenVx (S' := zUp S 3 (rf 64 (S 3) (-1))) hS (zRunV (As := [.int (-1)]) (rest := []) _ 1 cx (c_X4_fill l dC dI cyI ad hI S 3 (by decide) (-1)) gX3_find_X4_fill rfl ⟨rfl, rfl⟩ (by decide +kernel) ⟨Nat.le_of_ble_eq_true rfl, Nat.le_of_ble_eq_true rfl⟩ (xN_X ad 36) hXs hK hP hS 12 rfl rfl rfl rfl hl.1 rfl (Nat.le_of_ble_eq_true rfl) dX3_find_5 ⟨Nat.zero_le _, Nat.zero_le _⟩) (fun H locs hP hS => ?_)
  refine lv_aload_n cx.1 cx.2.1 dX3_find_8 rfl (lv_at hl 0 rfl) ?_
  refine zGet (v := .ref (ad 14)) (own := RX3) cx hinX3 hK hP 2 rfl rfl 2 (by decide) (by decide +kernel) rfl rfl dX3_find_9 ?_
  refine lv_iconst (v := (-1)) cx.1 cx.2.1 dX3_find_12 (by decide) ?_
  refine zThenVx (S' := zUp (zUp S 3 (rf 64 (S 3) (-1))) 4 (rf 4096 (S 4) (-1))) hS (zRunV (As := [.int (-1)]) (rest := []) _ 1 cx (c_X4_fill l dC dI cyI ad hI (zUp S 3 (rf 64 (S 3) (-1))) 4 (by decide) (-1)) gX3_find_X4_fill rfl ⟨rfl, rfl⟩ (by decide +kernel) ⟨Nat.le_of_ble_eq_true rfl, Nat.le_of_ble_eq_true rfl⟩ (xN_X ad 36) hXs hK hP hS 14 rfl rfl rfl rfl hl.1 rfl (Nat.le_of_ble_eq_true rfl) dX3_find_13 ⟨Nat.zero_le _, Nat.zero_le _⟩) (fun H locs hP hS => ?_)
  refine lv_aload_n cx.1 cx.2.1 dX3_find_16 rfl (lv_at hl 0 rfl) ?_
  refine lv_iconst (v := 0) cx.1 cx.2.1 dX3_find_17 (by decide) ?_
  refine zPut (v := .int 0) (own := RX3) (ty0 := tyX3) (ty := .int) cx hinX3 tyX3_ok nmX3 (cw_W cyI ad) hI hK hP hS 2 rfl rfl 4 (by decide) (by decide +kernel) rfl rfl (by decide +kernel) rfl rfl (Nat.le_of_ble_eq_true rfl) (zUp (zUp (zUp S 3 (rf 64 (S 3) (-1))) 4 (rf 4096 (S 4) (-1))) 15 (upd (S 15) 0 0)) rfl dX3_find_18 (fun H locs hP hS => ?_)
  obtain ⟨N1, hN1⟩ : ∃ T : zS, T = zUp (zUp (zUp S 3 (rf 64 (S 3) (-1))) 4 (rf 4096 (S 4) (-1))) 15 (upd (S 15) 0 0) := ⟨_, rfl⟩
  rw [← hN1] at hP
  refine lv_iconst (v := 0) cx.1 cx.2.1 dX3_find_21 (by decide) ?_
  refine lv_istore_n (lv' := [(2, .int 0), (0, .ref (ad 2)), (1, .ref (ad 1))]) cx.1 cx.2.1 dX3_find_22 rfl hl (by decide) rfl (fun ls hl => ?_)
  subst hN1
  have lp23 : ∀ (fu i : Nat) (T23 : zS) (hi23 : i ≤ 64) (hacc23 : lp_X3_find_23 S (zUp (zUp (zUp S 3 (rf 64 (S 3) (-1))) 4 (rf 4096 (S 4) (-1))) 15 (upd (S 15) 0 0)) i = T23)  (_ : 64 - i < fu) (H : Heap) (locs : List Loc) (ls : Array Slot), va_P (dC, dI) vwCl (cw cyI ad T23) H → va_S (zA ad 36 s.heap.size) s.heap H locs → lv_has ls 3 [(2, .int (nI i)), (0, .ref (ad 2)), (1, .ref (ad 1))] → W p l e (headSpec wsX3_find ({ frames := 3, cells := 0, slots := 0, locals := 70 } : Room)).room s m args below meth c H locs 0 0 Q (F0 m 23 ls []) := by
    intro fu
    induction fu with
    | zero => intro i T23 hi23 hacc23  hm; exact absurd hm (Nat.not_lt_zero _)
    | succ fu ih23 =>
      intro i T23 hi23 hacc23  hm H locs ls hP hS hl
      refine lv_iload_n cx.1 cx.2.1 dX3_find_23 rfl (lv_at hl 0 rfl) ?_
      refine lv_bipush (v := 64) cx.1 cx.2.1 dX3_find_24 (by decide) ?_
      refine lv_icmp_ge (tgt := 73) cx.1 cx.2.1 dX3_find_26 (by decide) (fun c2 => ?_) (fun c2 => ?_)
      · have nc2 : 64 ≤ i := (nI_leI (a := 64) (b := i) (by first | decide | omega) (by first | decide | omega)).mp c2
        obtain rfl : i = 64 := by omega
        subst hacc23
        rw [hQ]
        exact zRetV cx hrt hlk hS hP (by unfold g_X3_find; rfl) dX3_find_73
      · have nc2 : ¬ 64 ≤ i := fun z => c2 ((nI_leI (a := 64) (b := i) (by first | decide | omega) (by first | decide | omega)).mpr z)
        refine lv_aload_n cx.1 cx.2.1 dX3_find_29 rfl (lv_at hl 1 rfl) ?_
        refine zGet (v := .ref (ad 10)) (own := RX3) cx hinX3 hK hP 2 rfl rfl 0 (by decide) (by decide +kernel) rfl rfl dX3_find_30 ?_
        refine lv_iload_n cx.1 cx.2.1 dX3_find_33 rfl (lv_at hl 0 rfl) ?_
        refine lv_aload_n cx.1 cx.2.1 dX3_find_34 rfl (lv_at hl 1 rfl) ?_
        refine lv_aload_n cx.1 cx.2.1 dX3_find_35 rfl (lv_at hl 2 rfl) ?_
        refine lv_iload_n cx.1 cx.2.1 dX3_find_36 rfl (lv_at hl 0 rfl) ?_
        refine zThenIx (v := f_X3_findRoad T23 (nI i)) (S' := T23) hS (zRunV (As := [.ref (ad 1), .int (nI i)]) (rest := [.int (nI i), .ref (ad 10)]) _ 2 cx (c_X3_findRoad l dC dI cyI ad hI T23 (nI i)) gX3_find_X3_findRoad rfl ⟨rfl, rfl⟩ (by decide +kernel) ⟨Nat.le_of_ble_eq_true rfl, Nat.le_of_ble_eq_true rfl⟩ (xN_X ad 36) hXs hK hP hS 2 rfl rfl rfl rfl hl.1 rfl (Nat.le_of_ble_eq_true rfl) dX3_find_37 ⟨Nat.zero_le _, Nat.zero_le _⟩) (fun H locs hP hS => ?_)
        refine zThenVx (S' := zUp T23 2 (rs 64 (T23 2) (nI i) (f_X3_findRoad T23 (nI i)))) hS (zRunV (As := [.int (nI i), .int (f_X3_findRoad T23 (nI i))]) (rest := []) _ 2 cx (c_X4_set l dC dI cyI ad hI T23 2 (by decide) (nI i) (f_X3_findRoad T23 (nI i))) gX3_find_X4_set rfl ⟨rfl, rfl⟩ (by decide +kernel) ⟨Nat.le_of_ble_eq_true rfl, Nat.le_of_ble_eq_true rfl⟩ (xN_X ad 36) hXs hK hP hS 10 rfl rfl rfl rfl hl.1 rfl (Nat.le_of_ble_eq_true rfl) dX3_find_40 ⟨Nat.zero_le _, Nat.zero_le _⟩) (fun H locs hP hS => ?_)
        refine lv_aload_n cx.1 cx.2.1 dX3_find_43 rfl (lv_at hl 2 rfl) ?_
        refine lv_iload_n cx.1 cx.2.1 dX3_find_44 rfl (lv_at hl 0 rfl) ?_
        refine zThenIx (v := f_X0_isRoad (zUp T23 2 (rs 64 (T23 2) (nI i) (f_X3_findRoad T23 (nI i)))) (nI i)) (S' := zUp T23 2 (rs 64 (T23 2) (nI i) (f_X3_findRoad T23 (nI i)))) hS (zRunV (As := [.int (nI i)]) (rest := []) _ 1 cx (c_X0_isRoad l dC dI cyI ad hI (zUp T23 2 (rs 64 (T23 2) (nI i) (f_X3_findRoad T23 (nI i)))) (nI i)) gX3_find_X0_isRoad rfl ⟨rfl, rfl⟩ (by decide +kernel) ⟨Nat.le_of_ble_eq_true rfl, Nat.le_of_ble_eq_true rfl⟩ (xN_X ad 36) hXs hK hP hS 1 rfl rfl rfl rfl hl.1 rfl (Nat.le_of_ble_eq_true rfl) dX3_find_45 ⟨Nat.zero_le _, Nat.zero_le _⟩) (fun H locs hP hS => ?_)
        refine lv_if_eq (tgt := 67) cx.1 cx.2.1 dX3_find_48 (by decide) (fun c3 => ?_) (fun c3 => ?_)
        · refine lv_iinc (v := nI (i + 1)) (lv' := [(2, .int (nI (i + 1))), (0, .ref (ad 2)), (1, .ref (ad 1))]) cx.1 cx.2.1 dX3_find_67 hl (k := 0) rfl (nI_1 i) (by decide) rfl (fun ls hl => ?_)
          refine lv_goto (tgt := 23) cx.1 cx.2.1 dX3_find_70 (by decide) ?_
          have ha23 : lp_X3_find_23 S (zUp (zUp (zUp S 3 (rf 64 (S 3) (-1))) 4 (rf 4096 (S 4) (-1))) 15 (upd (S 15) 0 0)) (i + 1) = zUp T23 2 (rs 64 (T23 2) (nI i) (f_X3_findRoad T23 (nI i))) := by
            show bd_X3_find_23 S i (lp_X3_find_23 S (zUp (zUp (zUp S 3 (rf 64 (S 3) (-1))) 4 (rf 4096 (S 4) (-1))) 15 (upd (S 15) 0 0)) i) = _
            rw [hacc23]
            unfold bd_X3_find_23
            rw [if_pos c3]
          exact ih23 (i + 1) (zUp T23 2 (rs 64 (T23 2) (nI i) (f_X3_findRoad T23 (nI i)))) (by omega) ha23  (by omega) _ _ ls hP hS (lv_sub hl [0, 1, 2] rfl)
        · refine lv_aload_n cx.1 cx.2.1 dX3_find_51 rfl (lv_at hl 1 rfl) ?_
          refine lv_dup cx.1 cx.2.1 dX3_find_52 rfl ?_
          refine zGet (v := .int (T23 15 0)) (own := RX3) cx hinX3 hK hP 2 rfl rfl 4 (by decide) (by decide +kernel) rfl rfl dX3_find_53 ?_
          refine lv_iconst (v := 1) cx.1 cx.2.1 dX3_find_56 (by decide) ?_
          refine lv_iadd cx.1 cx.2.1 dX3_find_57 ?_
          refine zPut (v := .int ((T23 15 0) + 1)) (own := RX3) (ty0 := tyX3) (ty := .int) cx hinX3 tyX3_ok nmX3 (cw_W cyI ad) hI hK hP hS 2 rfl rfl 4 (by decide) (by decide +kernel) rfl rfl (by decide +kernel) rfl rfl (Nat.le_of_ble_eq_true rfl) (zUp (zUp T23 2 (rs 64 (T23 2) (nI i) (f_X3_findRoad T23 (nI i)))) 15 (upd (T23 15) 0 ((T23 15 0) + 1))) rfl dX3_find_58 (fun H locs hP hS => ?_)
          refine lv_aload_n cx.1 cx.2.1 dX3_find_61 rfl (lv_at hl 1 rfl) ?_
          refine lv_aload_n cx.1 cx.2.1 dX3_find_62 rfl (lv_at hl 2 rfl) ?_
          refine lv_iload_n cx.1 cx.2.1 dX3_find_63 rfl (lv_at hl 0 rfl) ?_
          refine zThenVx (S' := g_X3_spread (zUp (zUp T23 2 (rs 64 (T23 2) (nI i) (f_X3_findRoad T23 (nI i)))) 15 (upd (T23 15) 0 ((T23 15 0) + 1))) (nI i)) hS (zRunV (As := [.ref (ad 1), .int (nI i)]) (rest := []) _ 2 cx (c_X3_spread l dC dI cyI ad hI (zUp (zUp T23 2 (rs 64 (T23 2) (nI i) (f_X3_findRoad T23 (nI i)))) 15 (upd (T23 15) 0 ((T23 15 0) + 1))) (nI i)) gX3_find_X3_spread rfl ⟨rfl, rfl⟩ (by decide +kernel) ⟨Nat.le_of_ble_eq_true rfl, Nat.le_of_ble_eq_true rfl⟩ (xN_X ad 36) hXs hK hP hS 2 rfl rfl rfl rfl hl.1 rfl (Nat.le_of_ble_eq_true rfl) dX3_find_64 ⟨Nat.zero_le _, Nat.zero_le _⟩) (fun H locs hP hS => ?_)
          refine lv_iinc (v := nI (i + 1)) (lv' := [(2, .int (nI (i + 1))), (0, .ref (ad 2)), (1, .ref (ad 1))]) cx.1 cx.2.1 dX3_find_67 hl (k := 0) rfl (nI_1 i) (by decide) rfl (fun ls hl => ?_)
          refine lv_goto (tgt := 23) cx.1 cx.2.1 dX3_find_70 (by decide) ?_
          have ha23 : lp_X3_find_23 S (zUp (zUp (zUp S 3 (rf 64 (S 3) (-1))) 4 (rf 4096 (S 4) (-1))) 15 (upd (S 15) 0 0)) (i + 1) = g_X3_spread (zUp (zUp T23 2 (rs 64 (T23 2) (nI i) (f_X3_findRoad T23 (nI i)))) 15 (upd (T23 15) 0 ((T23 15 0) + 1))) (nI i) := by
            show bd_X3_find_23 S i (lp_X3_find_23 S (zUp (zUp (zUp S 3 (rf 64 (S 3) (-1))) 4 (rf 4096 (S 4) (-1))) 15 (upd (S 15) 0 0)) i) = _
            rw [hacc23]
            unfold bd_X3_find_23
            rw [if_neg c3]
          exact ih23 (i + 1) (g_X3_spread (zUp (zUp T23 2 (rs 64 (T23 2) (nI i) (f_X3_findRoad T23 (nI i)))) 15 (upd (T23 15) 0 ((T23 15 0) + 1))) (nI i)) (by omega) ha23  (by omega) _ _ ls hP hS (lv_sub hl [0, 1, 2] rfl)
  exact lp23 (64 - 0 + 1) 0 (zUp (zUp (zUp S 3 (rf 64 (S 3) (-1))) 4 (rf 4096 (S 4) (-1))) 15 (upd (S 15) 0 0)) (by omega) rfl  (Nat.lt_succ_self _) _ _ ls hP hS (lv_sub hl [0, 1, 2] rfl)

def f_X3_count (S : zS)  : Int32 := S 15 0
set_option maxHeartbeats 4000000 in
set_option maxRecDepth 100000 in
theorem c_X3_count (l : Launch) (dC : Nat → ClassId) (dI : Nat → Nat → Nat) (cyI : ClassId) (ad : Nat → Nat) (hI : zI ad 36) (S : zS)  : zMi l (dC, dI) [(cyI, .int)] ad 36 xN (cw cyI ad) yX3_count wsX3_count ({ frames := 0, cells := 0, slots := 0, locals := 0 } : Room) [.ref (ad 2)] S (fun v T => v = f_X3_count S ∧ T = S) := by
  refine zStartI (by decide) rfl (Nat.le_of_ble_eq_true rfl) ?_
  intro p e s m args below meth c ls cx hrt hlk hP hK hXs hl
  have hl : lv_has ls 1 [(0, .ref (ad 2))] := hl
  have hS : va_S (zA ad 36 s.heap.size) s.heap s.heap [] := va_S.rf
  have hinX3 : ∀ w ∈ u_ws RX3 TX3 5, w ∈ wsX3_count := by decide +kernel
  refine lv_aload_n cx.1 cx.2.1 dX3_count_0 rfl (lv_at hl 0 rfl) ?_
  refine zGet (v := .int (S 15 0)) (own := RX3) cx hinX3 hK hP 2 rfl rfl 4 (by decide) (by decide +kernel) rfl rfl dX3_count_1 ?_
  exact zRetI cx hrt hlk rfl hS hP ⟨(by unfold f_X3_count; rfl), rfl⟩ dX3_count_4

def f_X3_roadOf (S : zS) (xc : Int32) : Int32 := rg 64 (S 2) xc
set_option maxHeartbeats 4000000 in
set_option maxRecDepth 100000 in
theorem c_X3_roadOf (l : Launch) (dC : Nat → ClassId) (dI : Nat → Nat → Nat) (cyI : ClassId) (ad : Nat → Nat) (hI : zI ad 36) (S : zS) (xc : Int32) : zMi l (dC, dI) [(cyI, .int)] ad 36 xN (cw cyI ad) yX3_roadOf wsX3_roadOf ({ frames := 1, cells := 0, slots := 0, locals := 21 } : Room) [.ref (ad 2), .int xc] S (fun v T => v = f_X3_roadOf S xc ∧ T = S) := by
  refine zStartI (by decide) rfl (Nat.le_of_ble_eq_true rfl) ?_
  intro p e s m args below meth c ls cx hrt hlk hP hK hXs hl
  have hl : lv_has ls 2 [(0, .ref (ad 2)), (1, .int xc)] := hl
  have hS : va_S (zA ad 36 s.heap.size) s.heap s.heap [] := va_S.rf
  have hinX3 : ∀ w ∈ u_ws RX3 TX3 5, w ∈ wsX3_roadOf := by decide +kernel
  refine lv_aload_n cx.1 cx.2.1 dX3_roadOf_0 rfl (lv_at hl 0 rfl) ?_
  refine zGet (v := .ref (ad 10)) (own := RX3) cx hinX3 hK hP 2 rfl rfl 0 (by decide) (by decide +kernel) rfl rfl dX3_roadOf_1 ?_
  refine lv_iload_n cx.1 cx.2.1 dX3_roadOf_4 rfl (lv_at hl 1 rfl) ?_
  refine zThenIx (v := rg 64 (S 2) xc) (S' := S) hS (zRunV (As := [.int xc]) (rest := []) _ 1 cx (c_X4_get l dC dI cyI ad hI S 2 (by decide) xc) gX3_roadOf_X4_get rfl ⟨rfl, rfl⟩ (by decide +kernel) ⟨Nat.le_of_ble_eq_true rfl, Nat.le_of_ble_eq_true rfl⟩ (xN_X ad 36) hXs hK hP hS 10 rfl rfl rfl rfl hl.1 rfl (Nat.le_of_ble_eq_true rfl) dX3_roadOf_5 ⟨Nat.zero_le _, Nat.zero_le _⟩) (fun H locs hP hS => ?_)
  exact zRetI cx hrt hlk rfl hS hP ⟨(by unfold f_X3_roadOf; rfl), rfl⟩ dX3_roadOf_8

def f_X3_netOf (S : zS) (xc : Int32) : Int32 := if ¬ (rg 64 (S 2) xc) = (-1) then rg 64 (S 3) (rg 64 (S 2) xc) else ((-1))
set_option maxHeartbeats 4000000 in
set_option maxRecDepth 100000 in
theorem c_X3_netOf (l : Launch) (dC : Nat → ClassId) (dI : Nat → Nat → Nat) (cyI : ClassId) (ad : Nat → Nat) (hI : zI ad 36) (S : zS) (xc : Int32) : zMi l (dC, dI) [(cyI, .int)] ad 36 xN (cw cyI ad) yX3_netOf wsX3_netOf ({ frames := 1, cells := 0, slots := 0, locals := 21 } : Room) [.ref (ad 2), .int xc] S (fun v T => v = f_X3_netOf S xc ∧ T = S) := by
  refine zStartI (by decide) rfl (Nat.le_of_ble_eq_true rfl) ?_
  intro p e s m args below meth c ls cx hrt hlk hP hK hXs hl
  have hl : lv_has ls 3 [(0, .ref (ad 2)), (1, .int xc)] := hl
  have hS : va_S (zA ad 36 s.heap.size) s.heap s.heap [] := va_S.rf
  have hinX3 : ∀ w ∈ u_ws RX3 TX3 5, w ∈ wsX3_netOf := by decide +kernel
  refine lv_aload_n cx.1 cx.2.1 dX3_netOf_0 rfl (lv_at hl 0 rfl) ?_
  refine zGet (v := .ref (ad 10)) (own := RX3) cx hinX3 hK hP 2 rfl rfl 0 (by decide) (by decide +kernel) rfl rfl dX3_netOf_1 ?_
  refine lv_iload_n cx.1 cx.2.1 dX3_netOf_4 rfl (lv_at hl 1 rfl) ?_
  refine zThenIx (v := rg 64 (S 2) xc) (S' := S) hS (zRunV (As := [.int xc]) (rest := []) _ 1 cx (c_X4_get l dC dI cyI ad hI S 2 (by decide) xc) gX3_netOf_X4_get rfl ⟨rfl, rfl⟩ (by decide +kernel) ⟨Nat.le_of_ble_eq_true rfl, Nat.le_of_ble_eq_true rfl⟩ (xN_X ad 36) hXs hK hP hS 10 rfl rfl rfl rfl hl.1 rfl (Nat.le_of_ble_eq_true rfl) dX3_netOf_5 ⟨Nat.zero_le _, Nat.zero_le _⟩) (fun H locs hP hS => ?_)
  refine lv_istore_n (lv' := [(2, .int (rg 64 (S 2) xc)), (0, .ref (ad 2)), (1, .int xc)]) cx.1 cx.2.1 dX3_netOf_8 rfl hl (by decide) rfl (fun ls hl => ?_)
  refine lv_iload_n cx.1 cx.2.1 dX3_netOf_9 rfl (lv_at hl 0 rfl) ?_
  refine lv_iconst (v := (-1)) cx.1 cx.2.1 dX3_netOf_10 (by decide) ?_
  refine lv_icmp_ne (tgt := 18) cx.1 cx.2.1 dX3_netOf_11 (by decide) (fun c1 => ?_) (fun c1 => ?_)
  · refine lv_aload_n cx.1 cx.2.1 dX3_netOf_18 rfl (lv_at hl 1 rfl) ?_
    refine zGet (v := .ref (ad 12)) (own := RX3) cx hinX3 hK hP 2 rfl rfl 1 (by decide) (by decide +kernel) rfl rfl dX3_netOf_19 ?_
    refine lv_iload_n cx.1 cx.2.1 dX3_netOf_22 rfl (lv_at hl 0 rfl) ?_
    refine zThenIx (v := rg 64 (S 3) (rg 64 (S 2) xc)) (S' := S) hS (zRunV (As := [.int (rg 64 (S 2) xc)]) (rest := []) _ 1 cx (c_X4_get l dC dI cyI ad hI S 3 (by decide) (rg 64 (S 2) xc)) gX3_netOf_X4_get rfl ⟨rfl, rfl⟩ (by decide +kernel) ⟨Nat.le_of_ble_eq_true rfl, Nat.le_of_ble_eq_true rfl⟩ (xN_X ad 36) hXs hK hP hS 12 rfl rfl rfl rfl hl.1 rfl (Nat.le_of_ble_eq_true rfl) dX3_netOf_23 ⟨Nat.zero_le _, Nat.zero_le _⟩) (fun H locs hP hS => ?_)
    exact zRetI cx hrt hlk rfl hS hP ⟨(by unfold f_X3_netOf; rw [if_pos c1]), rfl⟩ dX3_netOf_26
  · refine lv_iconst (v := (-1)) cx.1 cx.2.1 dX3_netOf_14 (by decide) ?_
    refine lv_goto (tgt := 26) cx.1 cx.2.1 dX3_netOf_15 (by decide) ?_
    exact zRetI cx hrt hlk rfl hS hP ⟨(by unfold f_X3_netOf; rw [if_neg (not_not_intro c1)]), rfl⟩ dX3_netOf_26

def f_X3_between (S : zS) (xa : Int32) (xb : Int32) : Int32 := if (rg 64 (S 2) xa) = (-1) then (-1) else (if ¬ (rg 64 (S 2) xb) = (-1) then rg 4096 (S 4) (((rg 64 (S 2) xa) * 64) + (rg 64 (S 2) xb)) else ((-1)))
set_option maxHeartbeats 4000000 in
set_option maxRecDepth 100000 in
theorem c_X3_between (l : Launch) (dC : Nat → ClassId) (dI : Nat → Nat → Nat) (cyI : ClassId) (ad : Nat → Nat) (hI : zI ad 36) (S : zS) (xa : Int32) (xb : Int32) : zMi l (dC, dI) [(cyI, .int)] ad 36 xN (cw cyI ad) yX3_between wsX3_between ({ frames := 1, cells := 0, slots := 0, locals := 21 } : Room) [.ref (ad 2), .int xa, .int xb] S (fun v T => v = f_X3_between S xa xb ∧ T = S) := by
  refine zStartI (by decide) rfl (Nat.le_of_ble_eq_true rfl) ?_
  intro p e s m args below meth c ls cx hrt hlk hP hK hXs hl
  have hl : lv_has ls 5 [(0, .ref (ad 2)), (1, .int xa), (2, .int xb)] := hl
  have hS : va_S (zA ad 36 s.heap.size) s.heap s.heap [] := va_S.rf
  have hinX3 : ∀ w ∈ u_ws RX3 TX3 5, w ∈ wsX3_between := by decide +kernel
  refine lv_aload_n cx.1 cx.2.1 dX3_between_0 rfl (lv_at hl 0 rfl) ?_
  refine zGet (v := .ref (ad 10)) (own := RX3) cx hinX3 hK hP 2 rfl rfl 0 (by decide) (by decide +kernel) rfl rfl dX3_between_1 ?_
  refine lv_iload_n cx.1 cx.2.1 dX3_between_4 rfl (lv_at hl 1 rfl) ?_
  refine zThenIx (v := rg 64 (S 2) xa) (S' := S) hS (zRunV (As := [.int xa]) (rest := []) _ 1 cx (c_X4_get l dC dI cyI ad hI S 2 (by decide) xa) gX3_between_X4_get rfl ⟨rfl, rfl⟩ (by decide +kernel) ⟨Nat.le_of_ble_eq_true rfl, Nat.le_of_ble_eq_true rfl⟩ (xN_X ad 36) hXs hK hP hS 10 rfl rfl rfl rfl hl.1 rfl (Nat.le_of_ble_eq_true rfl) dX3_between_5 ⟨Nat.zero_le _, Nat.zero_le _⟩) (fun H locs hP hS => ?_)
  refine lv_istore_n (lv' := [(3, .int (rg 64 (S 2) xa)), (0, .ref (ad 2)), (1, .int xa), (2, .int xb)]) cx.1 cx.2.1 dX3_between_8 rfl hl (by decide) rfl (fun ls hl => ?_)
  refine lv_aload_n cx.1 cx.2.1 dX3_between_9 rfl (lv_at hl 1 rfl) ?_
  refine zGet (v := .ref (ad 10)) (own := RX3) cx hinX3 hK hP 2 rfl rfl 0 (by decide) (by decide +kernel) rfl rfl dX3_between_10 ?_
  refine lv_iload_n cx.1 cx.2.1 dX3_between_13 rfl (lv_at hl 3 rfl) ?_
  refine zThenIx (v := rg 64 (S 2) xb) (S' := S) hS (zRunV (As := [.int xb]) (rest := []) _ 1 cx (c_X4_get l dC dI cyI ad hI S 2 (by decide) xb) gX3_between_X4_get rfl ⟨rfl, rfl⟩ (by decide +kernel) ⟨Nat.le_of_ble_eq_true rfl, Nat.le_of_ble_eq_true rfl⟩ (xN_X ad 36) hXs hK hP hS 10 rfl rfl rfl rfl hl.1 rfl (Nat.le_of_ble_eq_true rfl) dX3_between_14 ⟨Nat.zero_le _, Nat.zero_le _⟩) (fun H locs hP hS => ?_)
  refine lv_istore (lv' := [(4, .int (rg 64 (S 2) xb)), (3, .int (rg 64 (S 2) xa)), (0, .ref (ad 2)), (1, .int xa), (2, .int xb)]) cx.1 cx.2.1 dX3_between_17 hl (by decide) rfl (fun ls hl => ?_)
  refine lv_iload_n cx.1 cx.2.1 dX3_between_19 rfl (lv_at hl 1 rfl) ?_
  refine lv_iconst (v := (-1)) cx.1 cx.2.1 dX3_between_20 (by decide) ?_
  refine lv_icmp_eq (tgt := 30) cx.1 cx.2.1 dX3_between_21 (by decide) (fun c1 => ?_) (fun c1 => ?_)
  · refine lv_iconst (v := (-1)) cx.1 cx.2.1 dX3_between_30 (by decide) ?_
    refine lv_goto (tgt := 48) cx.1 cx.2.1 dX3_between_31 (by decide) ?_
    exact zRetI cx hrt hlk rfl hS hP ⟨(by unfold f_X3_between; rw [if_pos c1]), rfl⟩ dX3_between_48
  · refine lv_iload cx.1 cx.2.1 dX3_between_24 (lv_at hl 0 rfl) ?_
    refine lv_iconst (v := (-1)) cx.1 cx.2.1 dX3_between_26 (by decide) ?_
    refine lv_icmp_ne (tgt := 34) cx.1 cx.2.1 dX3_between_27 (by decide) (fun c2 => ?_) (fun c2 => ?_)
    · refine lv_aload_n cx.1 cx.2.1 dX3_between_34 rfl (lv_at hl 2 rfl) ?_
      refine zGet (v := .ref (ad 14)) (own := RX3) cx hinX3 hK hP 2 rfl rfl 2 (by decide) (by decide +kernel) rfl rfl dX3_between_35 ?_
      refine lv_iload_n cx.1 cx.2.1 dX3_between_38 rfl (lv_at hl 1 rfl) ?_
      refine lv_bipush (v := 64) cx.1 cx.2.1 dX3_between_39 (by decide) ?_
      refine lv_imul cx.1 cx.2.1 dX3_between_41 ?_
      refine lv_iload cx.1 cx.2.1 dX3_between_42 (lv_at hl 0 rfl) ?_
      refine lv_iadd cx.1 cx.2.1 dX3_between_44 ?_
      refine zThenIx (v := rg 4096 (S 4) (((rg 64 (S 2) xa) * 64) + (rg 64 (S 2) xb))) (S' := S) hS (zRunV (As := [.int (((rg 64 (S 2) xa) * 64) + (rg 64 (S 2) xb))]) (rest := []) _ 1 cx (c_X4_get l dC dI cyI ad hI S 4 (by decide) (((rg 64 (S 2) xa) * 64) + (rg 64 (S 2) xb))) gX3_between_X4_get rfl ⟨rfl, rfl⟩ (by decide +kernel) ⟨Nat.le_of_ble_eq_true rfl, Nat.le_of_ble_eq_true rfl⟩ (xN_X ad 36) hXs hK hP hS 14 rfl rfl rfl rfl hl.1 rfl (Nat.le_of_ble_eq_true rfl) dX3_between_45 ⟨Nat.zero_le _, Nat.zero_le _⟩) (fun H locs hP hS => ?_)
      exact zRetI cx hrt hlk rfl hS hP ⟨(by unfold f_X3_between; rw [if_neg c1, if_pos c2]), rfl⟩ dX3_between_48
    · refine lv_iconst (v := (-1)) cx.1 cx.2.1 dX3_between_30 (by decide) ?_
      refine lv_goto (tgt := 48) cx.1 cx.2.1 dX3_between_31 (by decide) ?_
      exact zRetI cx hrt hlk rfl hS hP ⟨(by unfold f_X3_between; rw [if_neg c1, if_neg (not_not_intro c2)]), rfl⟩ dX3_between_48

def lp_X3_nextRoad_19 (S : zS) (xh : Int32) (xg : Int32) : Nat → Nat → Int32
  | 0, i => xh
  | q + 1, i => if (f_X6_neighbourOf xh (nI i)) = (-1) then (lp_X3_nextRoad_19 S xh xg q (i + 1) ) else (if ((rg 4096 (S 4) ((xg * 64) + xh)) - 1) < 0 then (lp_X3_nextRoad_19 S xh xg q (i + 1) ) else (if ¬ (rg 4096 (S 4) ((xg * 64) + (f_X6_neighbourOf xh (nI i)))) = ((rg 4096 (S 4) ((xg * 64) + xh)) - 1) then (lp_X3_nextRoad_19 S xh xg q (i + 1) ) else (f_X6_neighbourOf xh (nI i))))
def f_X3_nextRoad (S : zS) (xh : Int32) (xg : Int32) : Int32 := lp_X3_nextRoad_19 S xh xg 4 0
set_option maxHeartbeats 4000000 in
set_option maxRecDepth 100000 in
theorem c_X3_nextRoad (l : Launch) (dC : Nat → ClassId) (dI : Nat → Nat → Nat) (cyI : ClassId) (ad : Nat → Nat) (hI : zI ad 36) (S : zS) (xh : Int32) (xg : Int32) : zMi l (dC, dI) [(cyI, .int)] ad 36 xN (cw cyI ad) yX3_nextRoad wsX3_nextRoad ({ frames := 1, cells := 0, slots := 0, locals := 21 } : Room) [.ref (ad 2), .int xh, .int xg] S (fun v T => v = f_X3_nextRoad S xh xg ∧ T = S) := by
  refine zStartI (by decide) rfl (Nat.le_of_ble_eq_true rfl) ?_
  intro p e s m args below meth c ls cx hrt hlk hP hK hXs hl
  have hl : lv_has ls 6 [(0, .ref (ad 2)), (1, .int xh), (2, .int xg)] := hl
  have hS : va_S (zA ad 36 s.heap.size) s.heap s.heap [] := va_S.rf
  have hinX3 : ∀ w ∈ u_ws RX3 TX3 5, w ∈ wsX3_nextRoad := by decide +kernel
  obtain ⟨Q, hQ⟩ : ∃ Q, Q = MQ below (zQi (dC, dI) (cw cyI ad) (fun v T => v = f_X3_nextRoad S xh xg ∧ T = S) (zA ad 36 s.heap.size)) args s 0 0 (zA ad 36 s.heap.size) := ⟨_, rfl⟩
  rw [← hQ]
  refine lv_aload_n cx.1 cx.2.1 dX3_nextRoad_0 rfl (lv_at hl 0 rfl) ?_
  refine zGet (v := .ref (ad 14)) (own := RX3) cx hinX3 hK hP 2 rfl rfl 2 (by decide) (by decide +kernel) rfl rfl dX3_nextRoad_1 ?_
  refine lv_iload_n cx.1 cx.2.1 dX3_nextRoad_4 rfl (lv_at hl 2 rfl) ?_
  refine lv_bipush (v := 64) cx.1 cx.2.1 dX3_nextRoad_5 (by decide) ?_
  refine lv_imul cx.1 cx.2.1 dX3_nextRoad_7 ?_
  refine lv_iload_n cx.1 cx.2.1 dX3_nextRoad_8 rfl (lv_at hl 1 rfl) ?_
  refine lv_iadd cx.1 cx.2.1 dX3_nextRoad_9 ?_
  refine zThenIx (v := rg 4096 (S 4) ((xg * 64) + xh)) (S' := S) hS (zRunV (As := [.int ((xg * 64) + xh)]) (rest := []) _ 1 cx (c_X4_get l dC dI cyI ad hI S 4 (by decide) ((xg * 64) + xh)) gX3_nextRoad_X4_get rfl ⟨rfl, rfl⟩ (by decide +kernel) ⟨Nat.le_of_ble_eq_true rfl, Nat.le_of_ble_eq_true rfl⟩ (xN_X ad 36) hXs hK hP hS 14 rfl rfl rfl rfl hl.1 rfl (Nat.le_of_ble_eq_true rfl) dX3_nextRoad_10 ⟨Nat.zero_le _, Nat.zero_le _⟩) (fun H locs hP hS => ?_)
  refine lv_iconst (v := 1) cx.1 cx.2.1 dX3_nextRoad_13 (by decide) ?_
  refine lv_isub cx.1 cx.2.1 dX3_nextRoad_14 ?_
  refine lv_istore_n (lv' := [(3, .int ((rg 4096 (S 4) ((xg * 64) + xh)) - 1)), (0, .ref (ad 2)), (1, .int xh), (2, .int xg)]) cx.1 cx.2.1 dX3_nextRoad_15 rfl hl (by decide) rfl (fun ls hl => ?_)
  refine lv_iconst (v := 0) cx.1 cx.2.1 dX3_nextRoad_16 (by decide) ?_
  refine lv_istore (lv' := [(4, .int 0), (3, .int ((rg 4096 (S 4) ((xg * 64) + xh)) - 1)), (0, .ref (ad 2)), (1, .int xh), (2, .int xg)]) cx.1 cx.2.1 dX3_nextRoad_17 hl (by decide) rfl (fun ls hl => ?_)
  have lp19 : ∀ (fu i : Nat)  (hi19 : i ≤ 4) (hacc19 : lp_X3_nextRoad_19 S xh xg (4 - i) i  = lp_X3_nextRoad_19 S xh xg 4 0)  (_ : 4 - i < fu) (H : Heap) (locs : List Loc) (ls : Array Slot), va_P (dC, dI) vwCl (cw cyI ad S) H → va_S (zA ad 36 s.heap.size) s.heap H locs → lv_has ls 6 [(4, .int (nI i)), (3, .int ((rg 4096 (S 4) ((xg * 64) + xh)) - 1)), (0, .ref (ad 2)), (1, .int xh), (2, .int xg)] → W p l e (headSpec wsX3_nextRoad ({ frames := 1, cells := 0, slots := 0, locals := 21 } : Room)).room s m args below meth c H locs 0 0 Q (F0 m 19 ls []) := by
    intro fu
    induction fu with
    | zero => intro i  hi19 hacc19  hm; exact absurd hm (Nat.not_lt_zero _)
    | succ fu ih19 =>
      intro i  hi19 hacc19  hm H locs ls hP hS hl
      refine lv_iload cx.1 cx.2.1 dX3_nextRoad_19 (lv_at hl 0 rfl) ?_
      refine lv_iconst (v := 4) cx.1 cx.2.1 dX3_nextRoad_21 (by decide) ?_
      refine lv_icmp_ge (tgt := 70) cx.1 cx.2.1 dX3_nextRoad_22 (by decide) (fun c1 => ?_) (fun c1 => ?_)
      · have nc1 : 4 ≤ i := (nI_leI (a := 4) (b := i) (by first | decide | omega) (by first | decide | omega)).mp c1
        refine lv_iload_n cx.1 cx.2.1 dX3_nextRoad_70 rfl (lv_at hl 3 rfl) ?_
        rw [hQ]
        exact zRetI cx hrt hlk rfl hS hP ⟨(by unfold f_X3_nextRoad; rw [← hacc19]; rw [show 4 - i = 0 by omega]; rfl), rfl⟩ dX3_nextRoad_71
      · have nc1 : ¬ 4 ≤ i := fun z => c1 ((nI_leI (a := 4) (b := i) (by first | decide | omega) (by first | decide | omega)).mpr z)
        refine lv_iload_n cx.1 cx.2.1 dX3_nextRoad_25 rfl (lv_at hl 3 rfl) ?_
        refine lv_iload cx.1 cx.2.1 dX3_nextRoad_26 (lv_at hl 0 rfl) ?_
        refine zThenIx (v := f_X6_neighbourOf xh (nI i)) (S' := S) hS (zRunSN (As := [.int xh, .int (nI i)]) (rest := []) _ 2 cx (c_X6_neighbourOf l dC dI cyI ad hI S xh (nI i)) gX3_nextRoad_X6_neighbourOf_n54 hXs.2 (cx.2.2.2.2 _ (by decide +kernel)) (cx.2.2.2.2 _ (by decide +kernel)) rfl ⟨rfl, rfl⟩ (by decide +kernel) ⟨Nat.le_of_ble_eq_true rfl, Nat.le_of_ble_eq_true rfl⟩ (xN_X ad 36) hXs hK hP hS rfl hl.1 rfl (Nat.le_of_ble_eq_true rfl) dX3_nextRoad_28 ⟨Nat.zero_le _, Nat.zero_le _⟩) (fun H locs hP hS => ?_)
        refine lv_istore (lv' := [(5, .int (f_X6_neighbourOf xh (nI i))), (4, .int (nI i)), (3, .int ((rg 4096 (S 4) ((xg * 64) + xh)) - 1)), (0, .ref (ad 2)), (1, .int xh), (2, .int xg)]) cx.1 cx.2.1 dX3_nextRoad_31 hl (by decide) rfl (fun ls hl => ?_)
        refine lv_iload cx.1 cx.2.1 dX3_nextRoad_33 (lv_at hl 0 rfl) ?_
        refine lv_iconst (v := (-1)) cx.1 cx.2.1 dX3_nextRoad_35 (by decide) ?_
        refine lv_icmp_eq (tgt := 64) cx.1 cx.2.1 dX3_nextRoad_36 (by decide) (fun c2 => ?_) (fun c2 => ?_)
        · refine lv_iinc (v := nI (i + 1)) (lv' := [(4, .int (nI (i + 1))), (5, .int (f_X6_neighbourOf xh (nI i))), (3, .int ((rg 4096 (S 4) ((xg * 64) + xh)) - 1)), (0, .ref (ad 2)), (1, .int xh), (2, .int xg)]) cx.1 cx.2.1 dX3_nextRoad_64 hl (k := 1) rfl (nI_1 i) (by decide) rfl (fun ls hl => ?_)
          refine lv_goto (tgt := 19) cx.1 cx.2.1 dX3_nextRoad_67 (by decide) ?_
          have ha19 : lp_X3_nextRoad_19 S xh xg (4 - (i + 1)) (i + 1)  = lp_X3_nextRoad_19 S xh xg 4 0 := by
            rw [← hacc19, show 4 - i = (4 - (i + 1)) + 1 by omega]
            conv => rhs; rw [lp_X3_nextRoad_19]
            rw [if_pos c2]
          exact ih19 (i + 1)  (by omega) ha19  (by omega) _ _ ls hP hS (lv_sub hl [0, 2, 3, 4, 5] rfl)
        · refine lv_iload_n cx.1 cx.2.1 dX3_nextRoad_39 rfl (lv_at hl 2 rfl) ?_
          refine lv_if_lt (tgt := 64) cx.1 cx.2.1 dX3_nextRoad_40 (by decide) (fun c3 => ?_) (fun c3 => ?_)
          · refine lv_iinc (v := nI (i + 1)) (lv' := [(4, .int (nI (i + 1))), (5, .int (f_X6_neighbourOf xh (nI i))), (3, .int ((rg 4096 (S 4) ((xg * 64) + xh)) - 1)), (0, .ref (ad 2)), (1, .int xh), (2, .int xg)]) cx.1 cx.2.1 dX3_nextRoad_64 hl (k := 1) rfl (nI_1 i) (by decide) rfl (fun ls hl => ?_)
            refine lv_goto (tgt := 19) cx.1 cx.2.1 dX3_nextRoad_67 (by decide) ?_
            have ha19 : lp_X3_nextRoad_19 S xh xg (4 - (i + 1)) (i + 1)  = lp_X3_nextRoad_19 S xh xg 4 0 := by
              rw [← hacc19, show 4 - i = (4 - (i + 1)) + 1 by omega]
              conv => rhs; rw [lp_X3_nextRoad_19]
              rw [if_neg c2, if_pos c3]
            exact ih19 (i + 1)  (by omega) ha19  (by omega) _ _ ls hP hS (lv_sub hl [0, 2, 3, 4, 5] rfl)
          · refine lv_aload_n cx.1 cx.2.1 dX3_nextRoad_43 rfl (lv_at hl 3 rfl) ?_
            refine zGet (v := .ref (ad 14)) (own := RX3) cx hinX3 hK hP 2 rfl rfl 2 (by decide) (by decide +kernel) rfl rfl dX3_nextRoad_44 ?_
            refine lv_iload_n cx.1 cx.2.1 dX3_nextRoad_47 rfl (lv_at hl 5 rfl) ?_
            refine lv_bipush (v := 64) cx.1 cx.2.1 dX3_nextRoad_48 (by decide) ?_
            refine lv_imul cx.1 cx.2.1 dX3_nextRoad_50 ?_
            refine lv_iload cx.1 cx.2.1 dX3_nextRoad_51 (lv_at hl 0 rfl) ?_
            refine lv_iadd cx.1 cx.2.1 dX3_nextRoad_53 ?_
            refine zThenIx (v := rg 4096 (S 4) ((xg * 64) + (f_X6_neighbourOf xh (nI i)))) (S' := S) hS (zRunV (As := [.int ((xg * 64) + (f_X6_neighbourOf xh (nI i)))]) (rest := []) _ 1 cx (c_X4_get l dC dI cyI ad hI S 4 (by decide) ((xg * 64) + (f_X6_neighbourOf xh (nI i)))) gX3_nextRoad_X4_get rfl ⟨rfl, rfl⟩ (by decide +kernel) ⟨Nat.le_of_ble_eq_true rfl, Nat.le_of_ble_eq_true rfl⟩ (xN_X ad 36) hXs hK hP hS 14 rfl rfl rfl rfl hl.1 rfl (Nat.le_of_ble_eq_true rfl) dX3_nextRoad_54 ⟨Nat.zero_le _, Nat.zero_le _⟩) (fun H locs hP hS => ?_)
            refine lv_iload_n cx.1 cx.2.1 dX3_nextRoad_57 rfl (lv_at hl 2 rfl) ?_
            refine lv_icmp_ne (tgt := 64) cx.1 cx.2.1 dX3_nextRoad_58 (by decide) (fun c4 => ?_) (fun c4 => ?_)
            · refine lv_iinc (v := nI (i + 1)) (lv' := [(4, .int (nI (i + 1))), (5, .int (f_X6_neighbourOf xh (nI i))), (3, .int ((rg 4096 (S 4) ((xg * 64) + xh)) - 1)), (0, .ref (ad 2)), (1, .int xh), (2, .int xg)]) cx.1 cx.2.1 dX3_nextRoad_64 hl (k := 1) rfl (nI_1 i) (by decide) rfl (fun ls hl => ?_)
              refine lv_goto (tgt := 19) cx.1 cx.2.1 dX3_nextRoad_67 (by decide) ?_
              have ha19 : lp_X3_nextRoad_19 S xh xg (4 - (i + 1)) (i + 1)  = lp_X3_nextRoad_19 S xh xg 4 0 := by
                rw [← hacc19, show 4 - i = (4 - (i + 1)) + 1 by omega]
                conv => rhs; rw [lp_X3_nextRoad_19]
                rw [if_neg c2, if_neg c3, if_pos c4]
              exact ih19 (i + 1)  (by omega) ha19  (by omega) _ _ ls hP hS (lv_sub hl [0, 2, 3, 4, 5] rfl)
            · refine lv_iload cx.1 cx.2.1 dX3_nextRoad_61 (lv_at hl 0 rfl) ?_
              rw [hQ]
              exact zRetI cx hrt hlk rfl hS hP ⟨(by unfold f_X3_nextRoad; rw [← hacc19]; rw [show 4 - i = (4 - i - 1) + 1 by omega, lp_X3_nextRoad_19]; rw [if_neg c2, if_neg c3, if_neg (not_not_intro c4)]), rfl⟩ dX3_nextRoad_63
  exact lp19 (4 - 0 + 1) 0  (by omega) (by rw [Nat.sub_zero])  (Nat.lt_succ_self _) _ _ ls hP hS (lv_sub hl [0, 1, 2, 3, 4] rfl)
