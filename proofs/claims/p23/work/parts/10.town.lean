def f_X2_cashNow (S : zS)  : Int32 := S 17 0
set_option maxHeartbeats 4000000 in
set_option maxRecDepth 100000 in
theorem c_X2_cashNow (l : Launch) (dC : Nat → ClassId) (dI : Nat → Nat → Nat) (cyI : ClassId) (ad : Nat → Nat) (hI : zI ad 36) (S : zS)  : zMi l (dC, dI) [(cyI, .int)] ad 36 xN (cw cyI ad) yX2_cashNow wsX2_cashNow ({ frames := 0, cells := 0, slots := 0, locals := 0 } : Room) [.ref (ad 5)] S (fun v T => v = f_X2_cashNow S ∧ T = S) := by
  refine zStartI (by decide) rfl (Nat.le_of_ble_eq_true rfl) ?_
  intro p e s m args below meth c ls cx hrt hlk hP hK hXs hl
  have hl : lv_has ls 1 [(0, .ref (ad 5))] := hl
  have hS : va_S (zA ad 36 s.heap.size) s.heap s.heap [] := va_S.rf
  have hinX2 : ∀ w ∈ u_ws RX2 TX2 5, w ∈ wsX2_cashNow := by decide +kernel
  refine lv_aload_n cx.1 cx.2.1 dX2_cashNow_0 rfl (lv_at hl 0 rfl) ?_
  refine zGet (v := .int (S 17 0)) (own := RX2) cx hinX2 hK hP 5 rfl rfl 0 (by decide) (by decide +kernel) rfl rfl dX2_cashNow_1 ?_
  exact zRetI cx hrt hlk rfl hS hP ⟨(by unfold f_X2_cashNow; rfl), rfl⟩ dX2_cashNow_4

def f_X2_debtNow (S : zS)  : Int32 := S 17 1
set_option maxHeartbeats 4000000 in
set_option maxRecDepth 100000 in
theorem c_X2_debtNow (l : Launch) (dC : Nat → ClassId) (dI : Nat → Nat → Nat) (cyI : ClassId) (ad : Nat → Nat) (hI : zI ad 36) (S : zS)  : zMi l (dC, dI) [(cyI, .int)] ad 36 xN (cw cyI ad) yX2_debtNow wsX2_debtNow ({ frames := 0, cells := 0, slots := 0, locals := 0 } : Room) [.ref (ad 5)] S (fun v T => v = f_X2_debtNow S ∧ T = S) := by
  refine zStartI (by decide) rfl (Nat.le_of_ble_eq_true rfl) ?_
  intro p e s m args below meth c ls cx hrt hlk hP hK hXs hl
  have hl : lv_has ls 1 [(0, .ref (ad 5))] := hl
  have hS : va_S (zA ad 36 s.heap.size) s.heap s.heap [] := va_S.rf
  have hinX2 : ∀ w ∈ u_ws RX2 TX2 5, w ∈ wsX2_debtNow := by decide +kernel
  refine lv_aload_n cx.1 cx.2.1 dX2_debtNow_0 rfl (lv_at hl 0 rfl) ?_
  refine zGet (v := .int (S 17 1)) (own := RX2) cx hinX2 hK hP 5 rfl rfl 1 (by decide) (by decide +kernel) rfl rfl dX2_debtNow_1 ?_
  exact zRetI cx hrt hlk rfl hS hP ⟨(by unfold f_X2_debtNow; rfl), rfl⟩ dX2_debtNow_4

def f_X2_earnedNow (S : zS)  : Int32 := S 17 4
set_option maxHeartbeats 4000000 in
set_option maxRecDepth 100000 in
theorem c_X2_earnedNow (l : Launch) (dC : Nat → ClassId) (dI : Nat → Nat → Nat) (cyI : ClassId) (ad : Nat → Nat) (hI : zI ad 36) (S : zS)  : zMi l (dC, dI) [(cyI, .int)] ad 36 xN (cw cyI ad) yX2_earnedNow wsX2_earnedNow ({ frames := 0, cells := 0, slots := 0, locals := 0 } : Room) [.ref (ad 5)] S (fun v T => v = f_X2_earnedNow S ∧ T = S) := by
  refine zStartI (by decide) rfl (Nat.le_of_ble_eq_true rfl) ?_
  intro p e s m args below meth c ls cx hrt hlk hP hK hXs hl
  have hl : lv_has ls 1 [(0, .ref (ad 5))] := hl
  have hS : va_S (zA ad 36 s.heap.size) s.heap s.heap [] := va_S.rf
  have hinX2 : ∀ w ∈ u_ws RX2 TX2 5, w ∈ wsX2_earnedNow := by decide +kernel
  refine lv_aload_n cx.1 cx.2.1 dX2_earnedNow_0 rfl (lv_at hl 0 rfl) ?_
  refine zGet (v := .int (S 17 4)) (own := RX2) cx hinX2 hK hP 5 rfl rfl 4 (by decide) (by decide +kernel) rfl rfl dX2_earnedNow_1 ?_
  exact zRetI cx hrt hlk rfl hS hP ⟨(by unfold f_X2_earnedNow; rfl), rfl⟩ dX2_earnedNow_4

def g_X2_spend (S : zS) (xa : Int32) : zS := zUp S 17 (upd (S 17) 0 ((S 17 0) - xa))
theorem fr_X2_spend (S : zS) (xa : Int32) (r : Nat) (h17 : r ≠ 17) : g_X2_spend S xa r = S r := by
  unfold g_X2_spend
  (repeat' split) <;> simp [zUp, h17]
set_option maxHeartbeats 4000000 in
set_option maxRecDepth 100000 in
theorem c_X2_spend (l : Launch) (dC : Nat → ClassId) (dI : Nat → Nat → Nat) (cyI : ClassId) (ad : Nat → Nat) (hI : zI ad 36) (S : zS) (xa : Int32) : zMv l (dC, dI) [(cyI, .int)] ad 36 xN (cw cyI ad) yX2_spend wsX2_spend ({ frames := 0, cells := 0, slots := 0, locals := 0 } : Room) [.ref (ad 5), .int xa] S (fun T => T = g_X2_spend S xa) := by
  refine zStartV (by decide) rfl (Nat.le_of_ble_eq_true rfl) ?_
  intro p e s m args below meth c ls cx hrt hlk hP hK hXs hl
  have hl : lv_has ls 2 [(0, .ref (ad 5)), (1, .int xa)] := hl
  have hS : va_S (zA ad 36 s.heap.size) s.heap s.heap [] := va_S.rf
  have hinX2 : ∀ w ∈ u_ws RX2 TX2 5, w ∈ wsX2_spend := by decide +kernel
  refine lv_aload_n cx.1 cx.2.1 dX2_spend_0 rfl (lv_at hl 0 rfl) ?_
  refine lv_dup cx.1 cx.2.1 dX2_spend_1 rfl ?_
  refine zGet (v := .int (S 17 0)) (own := RX2) cx hinX2 hK hP 5 rfl rfl 0 (by decide) (by decide +kernel) rfl rfl dX2_spend_2 ?_
  refine lv_iload_n cx.1 cx.2.1 dX2_spend_5 rfl (lv_at hl 1 rfl) ?_
  refine lv_isub cx.1 cx.2.1 dX2_spend_6 ?_
  refine zPut (v := .int ((S 17 0) - xa)) (own := RX2) (ty0 := tyX2) (ty := .int) cx hinX2 tyX2_ok nmX2 (cw_W cyI ad) hI hK hP hS 5 rfl rfl 0 (by decide) (by decide +kernel) rfl rfl (by decide +kernel) rfl rfl (Nat.le_of_ble_eq_true rfl) (zUp S 17 (upd (S 17) 0 ((S 17 0) - xa))) rfl dX2_spend_7 (fun H locs hP hS => ?_)
  exact zRetV cx hrt hlk hS hP (by unfold g_X2_spend; rfl) dX2_spend_10

def g_X2_lend (S : zS) (xa : Int32) : zS := zUp (zUp S 17 (upd (S 17) 0 ((S 17 0) + xa))) 17 (upd (upd (S 17) 0 ((S 17 0) + xa)) 1 (((upd (S 17) 0 ((S 17 0) + xa)) 1) + xa))
theorem fr_X2_lend (S : zS) (xa : Int32) (r : Nat) (h17 : r ≠ 17) : g_X2_lend S xa r = S r := by
  unfold g_X2_lend
  (repeat' split) <;> simp [zUp, h17]
set_option maxHeartbeats 4000000 in
set_option maxRecDepth 100000 in
theorem c_X2_lend (l : Launch) (dC : Nat → ClassId) (dI : Nat → Nat → Nat) (cyI : ClassId) (ad : Nat → Nat) (hI : zI ad 36) (S : zS) (xa : Int32) : zMv l (dC, dI) [(cyI, .int)] ad 36 xN (cw cyI ad) yX2_lend wsX2_lend ({ frames := 0, cells := 0, slots := 0, locals := 0 } : Room) [.ref (ad 5), .int xa] S (fun T => T = g_X2_lend S xa) := by
  refine zStartV (by decide) rfl (Nat.le_of_ble_eq_true rfl) ?_
  intro p e s m args below meth c ls cx hrt hlk hP hK hXs hl
  have hl : lv_has ls 2 [(0, .ref (ad 5)), (1, .int xa)] := hl
  have hS : va_S (zA ad 36 s.heap.size) s.heap s.heap [] := va_S.rf
  have hinX2 : ∀ w ∈ u_ws RX2 TX2 5, w ∈ wsX2_lend := by decide +kernel
  refine lv_aload_n cx.1 cx.2.1 dX2_lend_0 rfl (lv_at hl 0 rfl) ?_
  refine lv_dup cx.1 cx.2.1 dX2_lend_1 rfl ?_
  refine zGet (v := .int (S 17 0)) (own := RX2) cx hinX2 hK hP 5 rfl rfl 0 (by decide) (by decide +kernel) rfl rfl dX2_lend_2 ?_
  refine lv_iload_n cx.1 cx.2.1 dX2_lend_5 rfl (lv_at hl 1 rfl) ?_
  refine lv_iadd cx.1 cx.2.1 dX2_lend_6 ?_
  refine zPut (v := .int ((S 17 0) + xa)) (own := RX2) (ty0 := tyX2) (ty := .int) cx hinX2 tyX2_ok nmX2 (cw_W cyI ad) hI hK hP hS 5 rfl rfl 0 (by decide) (by decide +kernel) rfl rfl (by decide +kernel) rfl rfl (Nat.le_of_ble_eq_true rfl) (zUp S 17 (upd (S 17) 0 ((S 17 0) + xa))) rfl dX2_lend_7 (fun H locs hP hS => ?_)
  refine lv_aload_n cx.1 cx.2.1 dX2_lend_10 rfl (lv_at hl 0 rfl) ?_
  refine lv_dup cx.1 cx.2.1 dX2_lend_11 rfl ?_
  refine zGet (v := .int ((upd (S 17) 0 ((S 17 0) + xa)) 1)) (own := RX2) cx hinX2 hK hP 5 rfl rfl 1 (by decide) (by decide +kernel) rfl rfl dX2_lend_12 ?_
  refine lv_iload_n cx.1 cx.2.1 dX2_lend_15 rfl (lv_at hl 1 rfl) ?_
  refine lv_iadd cx.1 cx.2.1 dX2_lend_16 ?_
  refine zPut (v := .int (((upd (S 17) 0 ((S 17 0) + xa)) 1) + xa)) (own := RX2) (ty0 := tyX2) (ty := .int) cx hinX2 tyX2_ok nmX2 (cw_W cyI ad) hI hK hP hS 5 rfl rfl 1 (by decide) (by decide +kernel) rfl rfl (by decide +kernel) rfl rfl (Nat.le_of_ble_eq_true rfl) (zUp (zUp S 17 (upd (S 17) 0 ((S 17 0) + xa))) 17 (upd (upd (S 17) 0 ((S 17 0) + xa)) 1 (((upd (S 17) 0 ((S 17 0) + xa)) 1) + xa))) rfl dX2_lend_17 (fun H locs hP hS => ?_)
  exact zRetV cx hrt hlk hS hP (by unfold g_X2_lend; rfl) dX2_lend_20

def f_X2_changeTax (S : zS) (xt : Int32) (xv : Int32) : Int32 := if xt = 0 then (if xt = 0 then S 17 2 else (S 17 2)) else (if xt = 0 then S 17 3 else (S 17 3))
def g_X2_changeTax (S : zS) (xt : Int32) (xv : Int32) : zS := if xt = 0 then (if xt = 0 then zUp S 17 (upd (S 17) 2 xv) else (zUp S 17 (upd (S 17) 3 xv))) else (if xt = 0 then zUp S 17 (upd (S 17) 2 xv) else (zUp S 17 (upd (S 17) 3 xv)))
theorem fr_X2_changeTax (S : zS) (xt : Int32) (xv : Int32) (r : Nat) (h17 : r ≠ 17) : g_X2_changeTax S xt xv r = S r := by
  unfold g_X2_changeTax
  (repeat' split) <;> simp [zUp, h17]
set_option maxHeartbeats 4000000 in
set_option maxRecDepth 100000 in
theorem c_X2_changeTax (l : Launch) (dC : Nat → ClassId) (dI : Nat → Nat → Nat) (cyI : ClassId) (ad : Nat → Nat) (hI : zI ad 36) (S : zS) (xt : Int32) (xv : Int32) : zMi l (dC, dI) [(cyI, .int)] ad 36 xN (cw cyI ad) yX2_changeTax wsX2_changeTax ({ frames := 0, cells := 0, slots := 0, locals := 0 } : Room) [.ref (ad 5), .int xt, .int xv] S (fun v T => v = f_X2_changeTax S xt xv ∧ T = g_X2_changeTax S xt xv) := by
  refine zStartI (by decide) rfl (Nat.le_of_ble_eq_true rfl) ?_
  intro p e s m args below meth c ls cx hrt hlk hP hK hXs hl
  have hl : lv_has ls 4 [(0, .ref (ad 5)), (1, .int xt), (2, .int xv)] := hl
  have hS : va_S (zA ad 36 s.heap.size) s.heap s.heap [] := va_S.rf
  have hinX2 : ∀ w ∈ u_ws RX2 TX2 5, w ∈ wsX2_changeTax := by decide +kernel
  refine lv_iload_n cx.1 cx.2.1 dX2_changeTax_0 rfl (lv_at hl 1 rfl) ?_
  refine lv_if_eq (tgt := 11) cx.1 cx.2.1 dX2_changeTax_1 (by decide) (fun c1 => ?_) (fun c1 => ?_)
  · refine lv_aload_n cx.1 cx.2.1 dX2_changeTax_11 rfl (lv_at hl 0 rfl) ?_
    refine zGet (v := .int (S 17 2)) (own := RX2) cx hinX2 hK hP 5 rfl rfl 2 (by decide) (by decide +kernel) rfl rfl dX2_changeTax_12 ?_
    refine lv_istore_n (lv' := [(3, .int (S 17 2)), (0, .ref (ad 5)), (1, .int xt), (2, .int xv)]) cx.1 cx.2.1 dX2_changeTax_15 rfl hl (by decide) rfl (fun ls hl => ?_)
    refine lv_iload_n cx.1 cx.2.1 dX2_changeTax_16 rfl (lv_at hl 2 rfl) ?_
    refine lv_if_eq (tgt := 28) cx.1 cx.2.1 dX2_changeTax_17 (by decide) (fun c2 => ?_) (fun c2 => ?_)
    · refine lv_aload_n cx.1 cx.2.1 dX2_changeTax_28 rfl (lv_at hl 1 rfl) ?_
      refine lv_iload_n cx.1 cx.2.1 dX2_changeTax_29 rfl (lv_at hl 3 rfl) ?_
      refine zPut (v := .int xv) (own := RX2) (ty0 := tyX2) (ty := .int) cx hinX2 tyX2_ok nmX2 (cw_W cyI ad) hI hK hP hS 5 rfl rfl 2 (by decide) (by decide +kernel) rfl rfl (by decide +kernel) rfl rfl (Nat.le_of_ble_eq_true rfl) (zUp S 17 (upd (S 17) 2 xv)) rfl dX2_changeTax_30 (fun H locs hP hS => ?_)
      refine lv_iload_n cx.1 cx.2.1 dX2_changeTax_33 rfl (lv_at hl 0 rfl) ?_
      exact zRetI cx hrt hlk rfl hS hP ⟨(by unfold f_X2_changeTax; rw [if_pos c1, if_pos c2]), (by unfold g_X2_changeTax; rw [if_pos c1, if_pos c2])⟩ dX2_changeTax_34
    · refine lv_aload_n cx.1 cx.2.1 dX2_changeTax_20 rfl (lv_at hl 1 rfl) ?_
      refine lv_iload_n cx.1 cx.2.1 dX2_changeTax_21 rfl (lv_at hl 3 rfl) ?_
      refine zPut (v := .int xv) (own := RX2) (ty0 := tyX2) (ty := .int) cx hinX2 tyX2_ok nmX2 (cw_W cyI ad) hI hK hP hS 5 rfl rfl 3 (by decide) (by decide +kernel) rfl rfl (by decide +kernel) rfl rfl (Nat.le_of_ble_eq_true rfl) (zUp S 17 (upd (S 17) 3 xv)) rfl dX2_changeTax_22 (fun H locs hP hS => ?_)
      refine lv_goto (tgt := 33) cx.1 cx.2.1 dX2_changeTax_25 (by decide) ?_
      refine lv_iload_n cx.1 cx.2.1 dX2_changeTax_33 rfl (lv_at hl 0 rfl) ?_
      exact zRetI cx hrt hlk rfl hS hP ⟨(by unfold f_X2_changeTax; rw [if_pos c1, if_neg c2]), (by unfold g_X2_changeTax; rw [if_pos c1, if_neg c2])⟩ dX2_changeTax_34
  · refine lv_aload_n cx.1 cx.2.1 dX2_changeTax_4 rfl (lv_at hl 0 rfl) ?_
    refine zGet (v := .int (S 17 3)) (own := RX2) cx hinX2 hK hP 5 rfl rfl 3 (by decide) (by decide +kernel) rfl rfl dX2_changeTax_5 ?_
    refine lv_goto (tgt := 15) cx.1 cx.2.1 dX2_changeTax_8 (by decide) ?_
    refine lv_istore_n (lv' := [(3, .int (S 17 3)), (0, .ref (ad 5)), (1, .int xt), (2, .int xv)]) cx.1 cx.2.1 dX2_changeTax_15 rfl hl (by decide) rfl (fun ls hl => ?_)
    refine lv_iload_n cx.1 cx.2.1 dX2_changeTax_16 rfl (lv_at hl 2 rfl) ?_
    refine lv_if_eq (tgt := 28) cx.1 cx.2.1 dX2_changeTax_17 (by decide) (fun c3 => ?_) (fun c3 => ?_)
    · refine lv_aload_n cx.1 cx.2.1 dX2_changeTax_28 rfl (lv_at hl 1 rfl) ?_
      refine lv_iload_n cx.1 cx.2.1 dX2_changeTax_29 rfl (lv_at hl 3 rfl) ?_
      refine zPut (v := .int xv) (own := RX2) (ty0 := tyX2) (ty := .int) cx hinX2 tyX2_ok nmX2 (cw_W cyI ad) hI hK hP hS 5 rfl rfl 2 (by decide) (by decide +kernel) rfl rfl (by decide +kernel) rfl rfl (Nat.le_of_ble_eq_true rfl) (zUp S 17 (upd (S 17) 2 xv)) rfl dX2_changeTax_30 (fun H locs hP hS => ?_)
      refine lv_iload_n cx.1 cx.2.1 dX2_changeTax_33 rfl (lv_at hl 0 rfl) ?_
      exact zRetI cx hrt hlk rfl hS hP ⟨(by unfold f_X2_changeTax; rw [if_neg c1, if_pos c3]), (by unfold g_X2_changeTax; rw [if_neg c1, if_pos c3])⟩ dX2_changeTax_34
    · refine lv_aload_n cx.1 cx.2.1 dX2_changeTax_20 rfl (lv_at hl 1 rfl) ?_
      refine lv_iload_n cx.1 cx.2.1 dX2_changeTax_21 rfl (lv_at hl 3 rfl) ?_
      refine zPut (v := .int xv) (own := RX2) (ty0 := tyX2) (ty := .int) cx hinX2 tyX2_ok nmX2 (cw_W cyI ad) hI hK hP hS 5 rfl rfl 3 (by decide) (by decide +kernel) rfl rfl (by decide +kernel) rfl rfl (Nat.le_of_ble_eq_true rfl) (zUp S 17 (upd (S 17) 3 xv)) rfl dX2_changeTax_22 (fun H locs hP hS => ?_)
      refine lv_goto (tgt := 33) cx.1 cx.2.1 dX2_changeTax_25 (by decide) ?_
      refine lv_iload_n cx.1 cx.2.1 dX2_changeTax_33 rfl (lv_at hl 0 rfl) ?_
      exact zRetI cx hrt hlk rfl hS hP ⟨(by unfold f_X2_changeTax; rw [if_neg c1, if_neg c3]), (by unfold g_X2_changeTax; rw [if_neg c1, if_neg c3])⟩ dX2_changeTax_34

def g_X2_closeMonth (S : zS) (xp : Int32) (xu : Int32) : zS := zUp (zUp S 17 (upd (S 17) 0 ((S 17 0) + ((((xp * (S 17 2)) + (xp * (S 17 3))) - xu) - (((S 17 1) + 99) / 100))))) 17 (upd (upd (S 17) 0 ((S 17 0) + ((((xp * (S 17 2)) + (xp * (S 17 3))) - xu) - (((S 17 1) + 99) / 100)))) 4 (((upd (S 17) 0 ((S 17 0) + ((((xp * (S 17 2)) + (xp * (S 17 3))) - xu) - (((S 17 1) + 99) / 100)))) 4) + ((((xp * (S 17 2)) + (xp * (S 17 3))) - xu) - (((S 17 1) + 99) / 100))))
theorem fr_X2_closeMonth (S : zS) (xp : Int32) (xu : Int32) (r : Nat) (h17 : r ≠ 17) : g_X2_closeMonth S xp xu r = S r := by
  unfold g_X2_closeMonth
  (repeat' split) <;> simp [zUp, h17]
set_option maxHeartbeats 4000000 in
set_option maxRecDepth 100000 in
theorem c_X2_closeMonth (l : Launch) (dC : Nat → ClassId) (dI : Nat → Nat → Nat) (cyI : ClassId) (ad : Nat → Nat) (hI : zI ad 36) (S : zS) (xp : Int32) (xu : Int32) : zMv l (dC, dI) [(cyI, .int)] ad 36 xN (cw cyI ad) yX2_closeMonth wsX2_closeMonth ({ frames := 0, cells := 0, slots := 0, locals := 0 } : Room) [.ref (ad 5), .int xp, .int xu] S (fun T => T = g_X2_closeMonth S xp xu) := by
  refine zStartV (by decide) rfl (Nat.le_of_ble_eq_true rfl) ?_
  intro p e s m args below meth c ls cx hrt hlk hP hK hXs hl
  have hl : lv_has ls 6 [(0, .ref (ad 5)), (1, .int xp), (2, .int xu)] := hl
  have hS : va_S (zA ad 36 s.heap.size) s.heap s.heap [] := va_S.rf
  have hinX2 : ∀ w ∈ u_ws RX2 TX2 5, w ∈ wsX2_closeMonth := by decide +kernel
  refine lv_iload_n cx.1 cx.2.1 dX2_closeMonth_0 rfl (lv_at hl 1 rfl) ?_
  refine lv_aload_n cx.1 cx.2.1 dX2_closeMonth_1 rfl (lv_at hl 0 rfl) ?_
  refine zGet (v := .int (S 17 2)) (own := RX2) cx hinX2 hK hP 5 rfl rfl 2 (by decide) (by decide +kernel) rfl rfl dX2_closeMonth_2 ?_
  refine lv_imul cx.1 cx.2.1 dX2_closeMonth_5 ?_
  refine lv_iload_n cx.1 cx.2.1 dX2_closeMonth_6 rfl (lv_at hl 1 rfl) ?_
  refine lv_aload_n cx.1 cx.2.1 dX2_closeMonth_7 rfl (lv_at hl 0 rfl) ?_
  refine zGet (v := .int (S 17 3)) (own := RX2) cx hinX2 hK hP 5 rfl rfl 3 (by decide) (by decide +kernel) rfl rfl dX2_closeMonth_8 ?_
  refine lv_imul cx.1 cx.2.1 dX2_closeMonth_11 ?_
  refine lv_iadd cx.1 cx.2.1 dX2_closeMonth_12 ?_
  refine lv_istore_n (lv' := [(3, .int ((xp * (S 17 2)) + (xp * (S 17 3)))), (0, .ref (ad 5)), (1, .int xp), (2, .int xu)]) cx.1 cx.2.1 dX2_closeMonth_13 rfl hl (by decide) rfl (fun ls hl => ?_)
  refine lv_aload_n cx.1 cx.2.1 dX2_closeMonth_14 rfl (lv_at hl 1 rfl) ?_
  refine zGet (v := .int (S 17 1)) (own := RX2) cx hinX2 hK hP 5 rfl rfl 1 (by decide) (by decide +kernel) rfl rfl dX2_closeMonth_15 ?_
  refine lv_bipush (v := 99) cx.1 cx.2.1 dX2_closeMonth_18 (by decide) ?_
  refine lv_iadd cx.1 cx.2.1 dX2_closeMonth_20 ?_
  refine lv_bipush (v := 100) cx.1 cx.2.1 dX2_closeMonth_21 (by decide) ?_
  refine lv_idiv cx.1 cx.2.1 dX2_closeMonth_23 (by decide) ?_
  refine lv_istore (lv' := [(4, .int (((S 17 1) + 99) / 100)), (3, .int ((xp * (S 17 2)) + (xp * (S 17 3)))), (0, .ref (ad 5)), (1, .int xp), (2, .int xu)]) cx.1 cx.2.1 dX2_closeMonth_24 hl (by decide) rfl (fun ls hl => ?_)
  refine lv_iload_n cx.1 cx.2.1 dX2_closeMonth_26 rfl (lv_at hl 1 rfl) ?_
  refine lv_iload_n cx.1 cx.2.1 dX2_closeMonth_27 rfl (lv_at hl 4 rfl) ?_
  refine lv_isub cx.1 cx.2.1 dX2_closeMonth_28 ?_
  refine lv_iload cx.1 cx.2.1 dX2_closeMonth_29 (lv_at hl 0 rfl) ?_
  refine lv_isub cx.1 cx.2.1 dX2_closeMonth_31 ?_
  refine lv_istore (lv' := [(5, .int ((((xp * (S 17 2)) + (xp * (S 17 3))) - xu) - (((S 17 1) + 99) / 100))), (4, .int (((S 17 1) + 99) / 100)), (3, .int ((xp * (S 17 2)) + (xp * (S 17 3)))), (0, .ref (ad 5)), (1, .int xp), (2, .int xu)]) cx.1 cx.2.1 dX2_closeMonth_32 hl (by decide) rfl (fun ls hl => ?_)
  refine lv_aload_n cx.1 cx.2.1 dX2_closeMonth_34 rfl (lv_at hl 3 rfl) ?_
  refine lv_dup cx.1 cx.2.1 dX2_closeMonth_35 rfl ?_
  refine zGet (v := .int (S 17 0)) (own := RX2) cx hinX2 hK hP 5 rfl rfl 0 (by decide) (by decide +kernel) rfl rfl dX2_closeMonth_36 ?_
  refine lv_iload cx.1 cx.2.1 dX2_closeMonth_39 (lv_at hl 0 rfl) ?_
  refine lv_iadd cx.1 cx.2.1 dX2_closeMonth_41 ?_
  refine zPut (v := .int ((S 17 0) + ((((xp * (S 17 2)) + (xp * (S 17 3))) - xu) - (((S 17 1) + 99) / 100)))) (own := RX2) (ty0 := tyX2) (ty := .int) cx hinX2 tyX2_ok nmX2 (cw_W cyI ad) hI hK hP hS 5 rfl rfl 0 (by decide) (by decide +kernel) rfl rfl (by decide +kernel) rfl rfl (Nat.le_of_ble_eq_true rfl) (zUp S 17 (upd (S 17) 0 ((S 17 0) + ((((xp * (S 17 2)) + (xp * (S 17 3))) - xu) - (((S 17 1) + 99) / 100))))) rfl dX2_closeMonth_42 (fun H locs hP hS => ?_)
  refine lv_aload_n cx.1 cx.2.1 dX2_closeMonth_45 rfl (lv_at hl 3 rfl) ?_
  refine lv_dup cx.1 cx.2.1 dX2_closeMonth_46 rfl ?_
  refine zGet (v := .int ((upd (S 17) 0 ((S 17 0) + ((((xp * (S 17 2)) + (xp * (S 17 3))) - xu) - (((S 17 1) + 99) / 100)))) 4)) (own := RX2) cx hinX2 hK hP 5 rfl rfl 4 (by decide) (by decide +kernel) rfl rfl dX2_closeMonth_47 ?_
  refine lv_iload cx.1 cx.2.1 dX2_closeMonth_50 (lv_at hl 0 rfl) ?_
  refine lv_iadd cx.1 cx.2.1 dX2_closeMonth_52 ?_
  refine zPut (v := .int (((upd (S 17) 0 ((S 17 0) + ((((xp * (S 17 2)) + (xp * (S 17 3))) - xu) - (((S 17 1) + 99) / 100)))) 4) + ((((xp * (S 17 2)) + (xp * (S 17 3))) - xu) - (((S 17 1) + 99) / 100)))) (own := RX2) (ty0 := tyX2) (ty := .int) cx hinX2 tyX2_ok nmX2 (cw_W cyI ad) hI hK hP hS 5 rfl rfl 4 (by decide) (by decide +kernel) rfl rfl (by decide +kernel) rfl rfl (Nat.le_of_ble_eq_true rfl) (zUp (zUp S 17 (upd (S 17) 0 ((S 17 0) + ((((xp * (S 17 2)) + (xp * (S 17 3))) - xu) - (((S 17 1) + 99) / 100))))) 17 (upd (upd (S 17) 0 ((S 17 0) + ((((xp * (S 17 2)) + (xp * (S 17 3))) - xu) - (((S 17 1) + 99) / 100)))) 4 (((upd (S 17) 0 ((S 17 0) + ((((xp * (S 17 2)) + (xp * (S 17 3))) - xu) - (((S 17 1) + 99) / 100)))) 4) + ((((xp * (S 17 2)) + (xp * (S 17 3))) - xu) - (((S 17 1) + 99) / 100))))) rfl dX2_closeMonth_53 (fun H locs hP hS => ?_)
  exact zRetV cx hrt hlk hS hP (by unfold g_X2_closeMonth; rfl) dX2_closeMonth_56

def g_X6_survey (S : zS)  : zS := g_X1_find (g_X5_find (g_X3_find S))
theorem fr_X6_survey (S : zS)  (r : Nat) (h10 : r ≠ 10) (h11 : r ≠ 11) (h12 : r ≠ 12) (h13 : r ≠ 13) (h14 : r ≠ 14) (h15 : r ≠ 15) (h16 : r ≠ 16) (h2 : r ≠ 2) (h3 : r ≠ 3) (h4 : r ≠ 4) (h5 : r ≠ 5) (h6 : r ≠ 6) (h7 : r ≠ 7) (h8 : r ≠ 8) (h9 : r ≠ 9) : g_X6_survey S  r = S r := by
  unfold g_X6_survey
  (repeat' split) <;> simp [zUp, h10, h11, h12, h13, h14, h15, h16, h2, h3, h4, h5, h6, h7, h8, h9, fr_X1_find, fr_X3_find, fr_X5_find]
set_option maxHeartbeats 4000000 in
set_option maxRecDepth 100000 in
theorem c_X6_survey (l : Launch) (dC : Nat → ClassId) (dI : Nat → Nat → Nat) (cyI : ClassId) (ad : Nat → Nat) (hI : zI ad 36) (S : zS)  : zMv l (dC, dI) [(cyI, .int)] ad 36 xN (cw cyI ad) yX6_survey wsX6_survey ({ frames := 5, cells := 0, slots := 0, locals := 119 } : Room) [.ref (ad 0)] S (fun T => T = g_X6_survey S) := by
  refine zStartV (by decide) rfl (Nat.le_of_ble_eq_true rfl) ?_
  intro p e s m args below meth c ls cx hrt hlk hP hK hXs hl
  have hl : lv_has ls 1 [(0, .ref (ad 0))] := hl
  have hS : va_S (zA ad 36 s.heap.size) s.heap s.heap [] := va_S.rf
  have hinX6 : ∀ w ∈ u_ws RX6 TX6 5, w ∈ wsX6_survey := by decide +kernel
  refine lv_aload_n cx.1 cx.2.1 dX6_survey_0 rfl (lv_at hl 0 rfl) ?_
  refine zGet (v := .ref (ad 2)) (own := RX6) cx hinX6 hK hP 0 rfl rfl 1 (by decide) (by decide +kernel) rfl rfl dX6_survey_1 ?_
  refine lv_aload_n cx.1 cx.2.1 dX6_survey_4 rfl (lv_at hl 0 rfl) ?_
  refine zGet (v := .ref (ad 1)) (own := RX6) cx hinX6 hK hP 0 rfl rfl 0 (by decide) (by decide +kernel) rfl rfl dX6_survey_5 ?_
  refine zThenVx (S' := g_X3_find S) hS (zRunV (As := [.ref (ad 1)]) (rest := []) _ 1 cx (c_X3_find l dC dI cyI ad hI S ) gX6_survey_X3_find rfl ⟨rfl, rfl⟩ (by decide +kernel) ⟨Nat.le_of_ble_eq_true rfl, Nat.le_of_ble_eq_true rfl⟩ (xN_X ad 36) hXs hK hP hS 2 rfl rfl rfl rfl hl.1 rfl (Nat.le_of_ble_eq_true rfl) dX6_survey_8 ⟨Nat.zero_le _, Nat.zero_le _⟩) (fun H locs hP hS => ?_)
  refine lv_aload_n cx.1 cx.2.1 dX6_survey_11 rfl (lv_at hl 0 rfl) ?_
  refine zGet (v := .ref (ad 3)) (own := RX6) cx hinX6 hK hP 0 rfl rfl 2 (by decide) (by decide +kernel) rfl rfl dX6_survey_12 ?_
  refine lv_aload_n cx.1 cx.2.1 dX6_survey_15 rfl (lv_at hl 0 rfl) ?_
  refine zGet (v := .ref (ad 1)) (own := RX6) cx hinX6 hK hP 0 rfl rfl 0 (by decide) (by decide +kernel) rfl rfl dX6_survey_16 ?_
  refine lv_aload_n cx.1 cx.2.1 dX6_survey_19 rfl (lv_at hl 0 rfl) ?_
  refine zGet (v := .ref (ad 2)) (own := RX6) cx hinX6 hK hP 0 rfl rfl 1 (by decide) (by decide +kernel) rfl rfl dX6_survey_20 ?_
  refine zThenVx (S' := g_X5_find (g_X3_find S)) hS (zRunV (As := [.ref (ad 1), .ref (ad 2)]) (rest := []) _ 2 cx (c_X5_find l dC dI cyI ad hI (g_X3_find S) ) gX6_survey_X5_find rfl ⟨rfl, rfl⟩ (by decide +kernel) ⟨Nat.le_of_ble_eq_true rfl, Nat.le_of_ble_eq_true rfl⟩ (xN_X ad 36) hXs hK hP hS 3 rfl rfl rfl rfl hl.1 rfl (Nat.le_of_ble_eq_true rfl) dX6_survey_23 ⟨Nat.zero_le _, Nat.zero_le _⟩) (fun H locs hP hS => ?_)
  refine lv_aload_n cx.1 cx.2.1 dX6_survey_26 rfl (lv_at hl 0 rfl) ?_
  refine zGet (v := .ref (ad 4)) (own := RX6) cx hinX6 hK hP 0 rfl rfl 3 (by decide) (by decide +kernel) rfl rfl dX6_survey_27 ?_
  refine lv_aload_n cx.1 cx.2.1 dX6_survey_30 rfl (lv_at hl 0 rfl) ?_
  refine zGet (v := .ref (ad 1)) (own := RX6) cx hinX6 hK hP 0 rfl rfl 0 (by decide) (by decide +kernel) rfl rfl dX6_survey_31 ?_
  refine lv_aload_n cx.1 cx.2.1 dX6_survey_34 rfl (lv_at hl 0 rfl) ?_
  refine zGet (v := .ref (ad 2)) (own := RX6) cx hinX6 hK hP 0 rfl rfl 1 (by decide) (by decide +kernel) rfl rfl dX6_survey_35 ?_
  refine zThenVx (S' := g_X1_find (g_X5_find (g_X3_find S))) hS (zRunV (As := [.ref (ad 1), .ref (ad 2)]) (rest := []) _ 2 cx (c_X1_find l dC dI cyI ad hI (g_X5_find (g_X3_find S)) ) gX6_survey_X1_find rfl ⟨rfl, rfl⟩ (by decide +kernel) ⟨Nat.le_of_ble_eq_true rfl, Nat.le_of_ble_eq_true rfl⟩ (xN_X ad 36) hXs hK hP hS 4 rfl rfl rfl rfl hl.1 rfl (Nat.le_of_ble_eq_true rfl) dX6_survey_38 ⟨Nat.zero_le _, Nat.zero_le _⟩) (fun H locs hP hS => ?_)
  exact zRetV cx hrt hlk hS hP (by unfold g_X6_survey; rfl) dX6_survey_41

def bd_X6_upkeep_4 (S : zS) (i : Nat) (sm : Int32) : Int32 := sm + (f_X6_upkeepOf (f_X0_kindOf S (nI i)))
def lp_X6_upkeep_4 (S : zS) (sm0 : Int32) : Nat → Int32
  | 0 => (sm0)
  | q + 1 => bd_X6_upkeep_4 S q (lp_X6_upkeep_4 S sm0 q)
def f_X6_upkeep (S : zS)  : Int32 := (lp_X6_upkeep_4 S 0 64)
set_option maxHeartbeats 4000000 in
set_option maxRecDepth 100000 in
theorem c_X6_upkeep (l : Launch) (dC : Nat → ClassId) (dI : Nat → Nat → Nat) (cyI : ClassId) (ad : Nat → Nat) (hI : zI ad 36) (S : zS)  : zMi l (dC, dI) [(cyI, .int)] ad 36 xN (cw cyI ad) yX6_upkeep wsX6_upkeep ({ frames := 2, cells := 0, slots := 0, locals := 42 } : Room) [.ref (ad 0)] S (fun v T => v = f_X6_upkeep S ∧ T = S) := by
  refine zStartI (by decide) rfl (Nat.le_of_ble_eq_true rfl) ?_
  intro p e s m args below meth c ls cx hrt hlk hP hK hXs hl
  have hl : lv_has ls 3 [(0, .ref (ad 0))] := hl
  have hS : va_S (zA ad 36 s.heap.size) s.heap s.heap [] := va_S.rf
  have hinX6 : ∀ w ∈ u_ws RX6 TX6 5, w ∈ wsX6_upkeep := by decide +kernel
  obtain ⟨Q, hQ⟩ : ∃ Q, Q = MQ below (zQi (dC, dI) (cw cyI ad) (fun v T => v = f_X6_upkeep S ∧ T = S) (zA ad 36 s.heap.size)) args s 0 0 (zA ad 36 s.heap.size) := ⟨_, rfl⟩
  rw [← hQ]
  refine lv_iconst (v := 0) cx.1 cx.2.1 dX6_upkeep_0 (by decide) ?_
  refine lv_istore_n (lv' := [(1, .int 0), (0, .ref (ad 0))]) cx.1 cx.2.1 dX6_upkeep_1 rfl hl (by decide) rfl (fun ls hl => ?_)
  refine lv_iconst (v := 0) cx.1 cx.2.1 dX6_upkeep_2 (by decide) ?_
  refine lv_istore_n (lv' := [(2, .int 0), (1, .int 0), (0, .ref (ad 0))]) cx.1 cx.2.1 dX6_upkeep_3 rfl hl (by decide) rfl (fun ls hl => ?_)
  have lp4 : ∀ (fu i : Nat) (sm : Int32) (hi4 : i ≤ 64) (hacc4 : lp_X6_upkeep_4 S 0 i = sm)  (_ : 64 - i < fu) (H : Heap) (locs : List Loc) (ls : Array Slot), va_P (dC, dI) vwCl (cw cyI ad S) H → va_S (zA ad 36 s.heap.size) s.heap H locs → lv_has ls 3 [(2, .int (nI i)), (1, .int sm), (0, .ref (ad 0))] → W p l e (headSpec wsX6_upkeep ({ frames := 2, cells := 0, slots := 0, locals := 42 } : Room)).room s m args below meth c H locs 0 0 Q (F0 m 4 ls []) := by
    intro fu
    induction fu with
    | zero => intro i sm hi4 hacc4  hm; exact absurd hm (Nat.not_lt_zero _)
    | succ fu ih4 =>
      intro i sm hi4 hacc4  hm H locs ls hP hS hl
      refine lv_iload_n cx.1 cx.2.1 dX6_upkeep_4 rfl (lv_at hl 0 rfl) ?_
      refine lv_bipush (v := 64) cx.1 cx.2.1 dX6_upkeep_5 (by decide) ?_
      refine lv_icmp_ge (tgt := 30) cx.1 cx.2.1 dX6_upkeep_7 (by decide) (fun c1 => ?_) (fun c1 => ?_)
      · have nc1 : 64 ≤ i := (nI_leI (a := 64) (b := i) (by first | decide | omega) (by first | decide | omega)).mp c1
        obtain rfl : i = 64 := by omega
        subst hacc4
        refine lv_iload_n cx.1 cx.2.1 dX6_upkeep_30 rfl (lv_at hl 1 rfl) ?_
        rw [hQ]
        exact zRetI cx hrt hlk rfl hS hP ⟨(by unfold f_X6_upkeep; rfl), rfl⟩ dX6_upkeep_31
      · have nc1 : ¬ 64 ≤ i := fun z => c1 ((nI_leI (a := 64) (b := i) (by first | decide | omega) (by first | decide | omega)).mpr z)
        refine lv_iload_n cx.1 cx.2.1 dX6_upkeep_10 rfl (lv_at hl 1 rfl) ?_
        refine lv_aload_n cx.1 cx.2.1 dX6_upkeep_11 rfl (lv_at hl 2 rfl) ?_
        refine zGet (v := .ref (ad 1)) (own := RX6) cx hinX6 hK hP 0 rfl rfl 0 (by decide) (by decide +kernel) rfl rfl dX6_upkeep_12 ?_
        refine lv_iload_n cx.1 cx.2.1 dX6_upkeep_15 rfl (lv_at hl 0 rfl) ?_
        refine zThenIx (v := f_X0_kindOf S (nI i)) (S' := S) hS (zRunV (As := [.int (nI i)]) (rest := [.int sm]) _ 1 cx (c_X0_kindOf l dC dI cyI ad hI S (nI i)) gX6_upkeep_X0_kindOf rfl ⟨rfl, rfl⟩ (by decide +kernel) ⟨Nat.le_of_ble_eq_true rfl, Nat.le_of_ble_eq_true rfl⟩ (xN_X ad 36) hXs hK hP hS 1 rfl rfl rfl rfl hl.1 rfl (Nat.le_of_ble_eq_true rfl) dX6_upkeep_16 ⟨Nat.zero_le _, Nat.zero_le _⟩) (fun H locs hP hS => ?_)
        refine zThenIx (v := f_X6_upkeepOf (f_X0_kindOf S (nI i))) (S' := S) hS (zRunS (As := [.int (f_X0_kindOf S (nI i))]) (rest := [.int sm]) _ 1 cx (c_X6_upkeepOf l dC dI cyI ad hI S (f_X0_kindOf S (nI i))) gX6_upkeep_X6_upkeepOf rfl ⟨rfl, rfl⟩ (by decide +kernel) ⟨Nat.le_of_ble_eq_true rfl, Nat.le_of_ble_eq_true rfl⟩ (xN_X ad 36) hXs hK hP hS rfl hl.1 rfl (Nat.le_of_ble_eq_true rfl) dX6_upkeep_19 ⟨Nat.zero_le _, Nat.zero_le _⟩) (fun H locs hP hS => ?_)
        refine lv_iadd cx.1 cx.2.1 dX6_upkeep_22 ?_
        refine lv_istore_n (lv' := [(1, .int (sm + (f_X6_upkeepOf (f_X0_kindOf S (nI i))))), (2, .int (nI i)), (0, .ref (ad 0))]) cx.1 cx.2.1 dX6_upkeep_23 rfl hl (by decide) rfl (fun ls hl => ?_)
        refine lv_iinc (v := nI (i + 1)) (lv' := [(2, .int (nI (i + 1))), (1, .int (sm + (f_X6_upkeepOf (f_X0_kindOf S (nI i))))), (0, .ref (ad 0))]) cx.1 cx.2.1 dX6_upkeep_24 hl (k := 1) rfl (nI_1 i) (by decide) rfl (fun ls hl => ?_)
        refine lv_goto (tgt := 4) cx.1 cx.2.1 dX6_upkeep_27 (by decide) ?_
        have ha4 : lp_X6_upkeep_4 S 0 (i + 1) = sm + (f_X6_upkeepOf (f_X0_kindOf S (nI i))) := by
          show bd_X6_upkeep_4 S i (lp_X6_upkeep_4 S 0 i) = _
          rw [hacc4]
          unfold bd_X6_upkeep_4
          rfl
        exact ih4 (i + 1) (sm + (f_X6_upkeepOf (f_X0_kindOf S (nI i)))) (by omega) ha4  (by omega) _ _ ls hP hS (lv_sub hl [0, 1, 2] rfl)
  exact lp4 (64 - 0 + 1) 0 0 (by omega) rfl  (Nat.lt_succ_self _) _ _ ls hP hS (lv_sub hl [0, 1, 2] rfl)

def f_X6_valueOf (S : zS) (xc : Int32) : Int32 := if (f_X3_roadOf S xc) = (-1) then if ((10 + (5 * (f_X0_countNear S xc 4))) - (10 * (f_X0_countNear S xc 5))) < 0 then 0 else (10 + (5 * (f_X0_countNear S xc 4))) - (10 * (f_X0_countNear S xc 5)) else (if (f_X3_roadOf S xc) = xc then if ((10 + (5 * (f_X0_countNear S xc 4))) - (10 * (f_X0_countNear S xc 5))) < 0 then 0 else (10 + (5 * (f_X0_countNear S xc 4))) - (10 * (f_X0_countNear S xc 5)) else (if (((10 + (5 * (f_X0_countNear S xc 4))) - (10 * (f_X0_countNear S xc 5))) - (f_X1_trafficOn S (f_X3_roadOf S xc))) < 0 then 0 else ((10 + (5 * (f_X0_countNear S xc 4))) - (10 * (f_X0_countNear S xc 5))) - (f_X1_trafficOn S (f_X3_roadOf S xc))))
set_option maxHeartbeats 4000000 in
set_option maxRecDepth 100000 in
theorem c_X6_valueOf (l : Launch) (dC : Nat → ClassId) (dI : Nat → Nat → Nat) (cyI : ClassId) (ad : Nat → Nat) (hI : zI ad 36) (S : zS) (xc : Int32) : zMi l (dC, dI) [(cyI, .int)] ad 36 xN (cw cyI ad) yX6_valueOf wsX6_valueOf ({ frames := 3, cells := 0, slots := 0, locals := 66 } : Room) [.ref (ad 0), .int xc] S (fun v T => v = f_X6_valueOf S xc ∧ T = S) := by
  refine zStartI (by decide) rfl (Nat.le_of_ble_eq_true rfl) ?_
  intro p e s m args below meth c ls cx hrt hlk hP hK hXs hl
  have hl : lv_has ls 4 [(0, .ref (ad 0)), (1, .int xc)] := hl
  have hS : va_S (zA ad 36 s.heap.size) s.heap s.heap [] := va_S.rf
  have hinX6 : ∀ w ∈ u_ws RX6 TX6 5, w ∈ wsX6_valueOf := by decide +kernel
  refine lv_bipush (v := 10) cx.1 cx.2.1 dX6_valueOf_0 (by decide) ?_
  refine lv_istore_n (lv' := [(2, .int 10), (0, .ref (ad 0)), (1, .int xc)]) cx.1 cx.2.1 dX6_valueOf_2 rfl hl (by decide) rfl (fun ls hl => ?_)
  refine lv_iload_n cx.1 cx.2.1 dX6_valueOf_3 rfl (lv_at hl 0 rfl) ?_
  refine lv_iconst (v := 5) cx.1 cx.2.1 dX6_valueOf_4 (by decide) ?_
  refine lv_aload_n cx.1 cx.2.1 dX6_valueOf_5 rfl (lv_at hl 1 rfl) ?_
  refine zGet (v := .ref (ad 1)) (own := RX6) cx hinX6 hK hP 0 rfl rfl 0 (by decide) (by decide +kernel) rfl rfl dX6_valueOf_6 ?_
  refine lv_iload_n cx.1 cx.2.1 dX6_valueOf_9 rfl (lv_at hl 2 rfl) ?_
  refine lv_iconst (v := 4) cx.1 cx.2.1 dX6_valueOf_10 (by decide) ?_
  refine zThenIx (v := f_X0_countNear S xc 4) (S' := S) hS (zRunV (As := [.int xc, .int 4]) (rest := [.int 5, .int 10]) _ 2 cx (c_X0_countNear l dC dI cyI ad hI S xc 4) gX6_valueOf_X0_countNear rfl ⟨rfl, rfl⟩ (by decide +kernel) ⟨Nat.le_of_ble_eq_true rfl, Nat.le_of_ble_eq_true rfl⟩ (xN_X ad 36) hXs hK hP hS 1 rfl rfl rfl rfl hl.1 rfl (Nat.le_of_ble_eq_true rfl) dX6_valueOf_11 ⟨Nat.zero_le _, Nat.zero_le _⟩) (fun H locs hP hS => ?_)
  refine lv_imul cx.1 cx.2.1 dX6_valueOf_14 ?_
  refine lv_iadd cx.1 cx.2.1 dX6_valueOf_15 ?_
  refine lv_istore_n (lv' := [(2, .int (10 + (5 * (f_X0_countNear S xc 4)))), (0, .ref (ad 0)), (1, .int xc)]) cx.1 cx.2.1 dX6_valueOf_16 rfl hl (by decide) rfl (fun ls hl => ?_)
  refine lv_iload_n cx.1 cx.2.1 dX6_valueOf_17 rfl (lv_at hl 0 rfl) ?_
  refine lv_bipush (v := 10) cx.1 cx.2.1 dX6_valueOf_18 (by decide) ?_
  refine lv_aload_n cx.1 cx.2.1 dX6_valueOf_20 rfl (lv_at hl 1 rfl) ?_
  refine zGet (v := .ref (ad 1)) (own := RX6) cx hinX6 hK hP 0 rfl rfl 0 (by decide) (by decide +kernel) rfl rfl dX6_valueOf_21 ?_
  refine lv_iload_n cx.1 cx.2.1 dX6_valueOf_24 rfl (lv_at hl 2 rfl) ?_
  refine lv_iconst (v := 5) cx.1 cx.2.1 dX6_valueOf_25 (by decide) ?_
  refine zThenIx (v := f_X0_countNear S xc 5) (S' := S) hS (zRunV (As := [.int xc, .int 5]) (rest := [.int 10, .int (10 + (5 * (f_X0_countNear S xc 4)))]) _ 2 cx (c_X0_countNear l dC dI cyI ad hI S xc 5) gX6_valueOf_X0_countNear rfl ⟨rfl, rfl⟩ (by decide +kernel) ⟨Nat.le_of_ble_eq_true rfl, Nat.le_of_ble_eq_true rfl⟩ (xN_X ad 36) hXs hK hP hS 1 rfl rfl rfl rfl hl.1 rfl (Nat.le_of_ble_eq_true rfl) dX6_valueOf_26 ⟨Nat.zero_le _, Nat.zero_le _⟩) (fun H locs hP hS => ?_)
  refine lv_imul cx.1 cx.2.1 dX6_valueOf_29 ?_
  refine lv_isub cx.1 cx.2.1 dX6_valueOf_30 ?_
  refine lv_istore_n (lv' := [(2, .int ((10 + (5 * (f_X0_countNear S xc 4))) - (10 * (f_X0_countNear S xc 5)))), (0, .ref (ad 0)), (1, .int xc)]) cx.1 cx.2.1 dX6_valueOf_31 rfl hl (by decide) rfl (fun ls hl => ?_)
  refine lv_aload_n cx.1 cx.2.1 dX6_valueOf_32 rfl (lv_at hl 1 rfl) ?_
  refine zGet (v := .ref (ad 2)) (own := RX6) cx hinX6 hK hP 0 rfl rfl 1 (by decide) (by decide +kernel) rfl rfl dX6_valueOf_33 ?_
  refine lv_iload_n cx.1 cx.2.1 dX6_valueOf_36 rfl (lv_at hl 2 rfl) ?_
  refine zThenIx (v := f_X3_roadOf S xc) (S' := S) hS (zRunV (As := [.int xc]) (rest := []) _ 1 cx (c_X3_roadOf l dC dI cyI ad hI S xc) gX6_valueOf_X3_roadOf rfl ⟨rfl, rfl⟩ (by decide +kernel) ⟨Nat.le_of_ble_eq_true rfl, Nat.le_of_ble_eq_true rfl⟩ (xN_X ad 36) hXs hK hP hS 2 rfl rfl rfl rfl hl.1 rfl (Nat.le_of_ble_eq_true rfl) dX6_valueOf_37 ⟨Nat.zero_le _, Nat.zero_le _⟩) (fun H locs hP hS => ?_)
  refine lv_istore_n (lv' := [(3, .int (f_X3_roadOf S xc)), (2, .int ((10 + (5 * (f_X0_countNear S xc 4))) - (10 * (f_X0_countNear S xc 5)))), (0, .ref (ad 0)), (1, .int xc)]) cx.1 cx.2.1 dX6_valueOf_40 rfl hl (by decide) rfl (fun ls hl => ?_)
  refine lv_iload_n cx.1 cx.2.1 dX6_valueOf_41 rfl (lv_at hl 0 rfl) ?_
  refine lv_iconst (v := (-1)) cx.1 cx.2.1 dX6_valueOf_42 (by decide) ?_
  refine lv_icmp_eq (tgt := 62) cx.1 cx.2.1 dX6_valueOf_43 (by decide) (fun c1 => ?_) (fun c1 => ?_)
  · refine lv_iload_n cx.1 cx.2.1 dX6_valueOf_62 rfl (lv_at hl 1 rfl) ?_
    refine lv_iconst (v := 0) cx.1 cx.2.1 dX6_valueOf_63 (by decide) ?_
    refine va_mmax cx.1 cx.2.1 (cx.2.2.1.trans hl.1.symm) (own := RX6) cx.2.2.2.1 (cx.2.2.2.2 _ (by decide +kernel)) (cx.2.2.2.2 _ (by decide +kernel)) (cx.2.2.2.2 _ (by decide +kernel)) (cx.2.2.2.2 _ (by decide +kernel)) (Nat.le_of_ble_eq_true rfl) (Nat.le_of_ble_eq_true rfl) (Nat.zero_le _) (Nat.zero_le _) dX6_valueOf_64 ?_
    exact zRetI cx hrt hlk rfl hS hP ⟨(by unfold f_X6_valueOf; rw [if_pos c1]), rfl⟩ dX6_valueOf_67
  · refine lv_iload_n cx.1 cx.2.1 dX6_valueOf_46 rfl (lv_at hl 0 rfl) ?_
    refine lv_iload_n cx.1 cx.2.1 dX6_valueOf_47 rfl (lv_at hl 3 rfl) ?_
    refine lv_icmp_eq (tgt := 62) cx.1 cx.2.1 dX6_valueOf_48 (by decide) (fun c2 => ?_) (fun c2 => ?_)
    · refine lv_iload_n cx.1 cx.2.1 dX6_valueOf_62 rfl (lv_at hl 1 rfl) ?_
      refine lv_iconst (v := 0) cx.1 cx.2.1 dX6_valueOf_63 (by decide) ?_
      refine va_mmax cx.1 cx.2.1 (cx.2.2.1.trans hl.1.symm) (own := RX6) cx.2.2.2.1 (cx.2.2.2.2 _ (by decide +kernel)) (cx.2.2.2.2 _ (by decide +kernel)) (cx.2.2.2.2 _ (by decide +kernel)) (cx.2.2.2.2 _ (by decide +kernel)) (Nat.le_of_ble_eq_true rfl) (Nat.le_of_ble_eq_true rfl) (Nat.zero_le _) (Nat.zero_le _) dX6_valueOf_64 ?_
      exact zRetI cx hrt hlk rfl hS hP ⟨(by unfold f_X6_valueOf; rw [if_neg c1, if_pos c2]), rfl⟩ dX6_valueOf_67
    · refine lv_iload_n cx.1 cx.2.1 dX6_valueOf_51 rfl (lv_at hl 1 rfl) ?_
      refine lv_aload_n cx.1 cx.2.1 dX6_valueOf_52 rfl (lv_at hl 2 rfl) ?_
      refine zGet (v := .ref (ad 4)) (own := RX6) cx hinX6 hK hP 0 rfl rfl 3 (by decide) (by decide +kernel) rfl rfl dX6_valueOf_53 ?_
      refine lv_iload_n cx.1 cx.2.1 dX6_valueOf_56 rfl (lv_at hl 0 rfl) ?_
      refine zThenIx (v := f_X1_trafficOn S (f_X3_roadOf S xc)) (S' := S) hS (zRunV (As := [.int (f_X3_roadOf S xc)]) (rest := [.int ((10 + (5 * (f_X0_countNear S xc 4))) - (10 * (f_X0_countNear S xc 5)))]) _ 1 cx (c_X1_trafficOn l dC dI cyI ad hI S (f_X3_roadOf S xc)) gX6_valueOf_X1_trafficOn rfl ⟨rfl, rfl⟩ (by decide +kernel) ⟨Nat.le_of_ble_eq_true rfl, Nat.le_of_ble_eq_true rfl⟩ (xN_X ad 36) hXs hK hP hS 4 rfl rfl rfl rfl hl.1 rfl (Nat.le_of_ble_eq_true rfl) dX6_valueOf_57 ⟨Nat.zero_le _, Nat.zero_le _⟩) (fun H locs hP hS => ?_)
      refine lv_isub cx.1 cx.2.1 dX6_valueOf_60 ?_
      refine lv_istore_n (lv' := [(2, .int (((10 + (5 * (f_X0_countNear S xc 4))) - (10 * (f_X0_countNear S xc 5))) - (f_X1_trafficOn S (f_X3_roadOf S xc)))), (3, .int (f_X3_roadOf S xc)), (0, .ref (ad 0)), (1, .int xc)]) cx.1 cx.2.1 dX6_valueOf_61 rfl hl (by decide) rfl (fun ls hl => ?_)
      refine lv_iload_n cx.1 cx.2.1 dX6_valueOf_62 rfl (lv_at hl 0 rfl) ?_
      refine lv_iconst (v := 0) cx.1 cx.2.1 dX6_valueOf_63 (by decide) ?_
      refine va_mmax cx.1 cx.2.1 (cx.2.2.1.trans hl.1.symm) (own := RX6) cx.2.2.2.1 (cx.2.2.2.2 _ (by decide +kernel)) (cx.2.2.2.2 _ (by decide +kernel)) (cx.2.2.2.2 _ (by decide +kernel)) (cx.2.2.2.2 _ (by decide +kernel)) (Nat.le_of_ble_eq_true rfl) (Nat.le_of_ble_eq_true rfl) (Nat.zero_le _) (Nat.zero_le _) dX6_valueOf_64 ?_
      exact zRetI cx hrt hlk rfl hS hP ⟨(by unfold f_X6_valueOf; rw [if_neg c1, if_neg c2]), rfl⟩ dX6_valueOf_67

def f_X6_lacksPeople (S : zS) (xc : Int32) : Int32 := if ¬ (f_X0_kindOf S xc) = 2 then (if (f_X0_peopleOf S xc) ≤ 0 then 0 else (if ¬ (f_X1_placedAt S xc) = 0 then 0 else (1))) else (if (2 * ((f_X0_peopleOf S xc) - (f_X1_placedAt S xc))) ≤ (f_X0_peopleOf S xc) then 0 else (1))
set_option maxHeartbeats 4000000 in
set_option maxRecDepth 100000 in
theorem c_X6_lacksPeople (l : Launch) (dC : Nat → ClassId) (dI : Nat → Nat → Nat) (cyI : ClassId) (ad : Nat → Nat) (hI : zI ad 36) (S : zS) (xc : Int32) : zMi l (dC, dI) [(cyI, .int)] ad 36 xN (cw cyI ad) yX6_lacksPeople wsX6_lacksPeople ({ frames := 2, cells := 0, slots := 0, locals := 42 } : Room) [.ref (ad 0), .int xc] S (fun v T => v = f_X6_lacksPeople S xc ∧ T = S) := by
  refine zStartI (by decide) rfl (Nat.le_of_ble_eq_true rfl) ?_
  intro p e s m args below meth c ls cx hrt hlk hP hK hXs hl
  have hl : lv_has ls 4 [(0, .ref (ad 0)), (1, .int xc)] := hl
  have hS : va_S (zA ad 36 s.heap.size) s.heap s.heap [] := va_S.rf
  have hinX6 : ∀ w ∈ u_ws RX6 TX6 5, w ∈ wsX6_lacksPeople := by decide +kernel
  refine lv_aload_n cx.1 cx.2.1 dX6_lacksPeople_0 rfl (lv_at hl 0 rfl) ?_
  refine zGet (v := .ref (ad 1)) (own := RX6) cx hinX6 hK hP 0 rfl rfl 0 (by decide) (by decide +kernel) rfl rfl dX6_lacksPeople_1 ?_
  refine lv_iload_n cx.1 cx.2.1 dX6_lacksPeople_4 rfl (lv_at hl 1 rfl) ?_
  refine zThenIx (v := f_X0_peopleOf S xc) (S' := S) hS (zRunV (As := [.int xc]) (rest := []) _ 1 cx (c_X0_peopleOf l dC dI cyI ad hI S xc) gX6_lacksPeople_X0_peopleOf rfl ⟨rfl, rfl⟩ (by decide +kernel) ⟨Nat.le_of_ble_eq_true rfl, Nat.le_of_ble_eq_true rfl⟩ (xN_X ad 36) hXs hK hP hS 1 rfl rfl rfl rfl hl.1 rfl (Nat.le_of_ble_eq_true rfl) dX6_lacksPeople_5 ⟨Nat.zero_le _, Nat.zero_le _⟩) (fun H locs hP hS => ?_)
  refine lv_istore_n (lv' := [(2, .int (f_X0_peopleOf S xc)), (0, .ref (ad 0)), (1, .int xc)]) cx.1 cx.2.1 dX6_lacksPeople_8 rfl hl (by decide) rfl (fun ls hl => ?_)
  refine lv_aload_n cx.1 cx.2.1 dX6_lacksPeople_9 rfl (lv_at hl 1 rfl) ?_
  refine zGet (v := .ref (ad 4)) (own := RX6) cx hinX6 hK hP 0 rfl rfl 3 (by decide) (by decide +kernel) rfl rfl dX6_lacksPeople_10 ?_
  refine lv_iload_n cx.1 cx.2.1 dX6_lacksPeople_13 rfl (lv_at hl 2 rfl) ?_
  refine zThenIx (v := f_X1_placedAt S xc) (S' := S) hS (zRunV (As := [.int xc]) (rest := []) _ 1 cx (c_X1_placedAt l dC dI cyI ad hI S xc) gX6_lacksPeople_X1_placedAt rfl ⟨rfl, rfl⟩ (by decide +kernel) ⟨Nat.le_of_ble_eq_true rfl, Nat.le_of_ble_eq_true rfl⟩ (xN_X ad 36) hXs hK hP hS 4 rfl rfl rfl rfl hl.1 rfl (Nat.le_of_ble_eq_true rfl) dX6_lacksPeople_14 ⟨Nat.zero_le _, Nat.zero_le _⟩) (fun H locs hP hS => ?_)
  refine lv_istore_n (lv' := [(3, .int (f_X1_placedAt S xc)), (2, .int (f_X0_peopleOf S xc)), (0, .ref (ad 0)), (1, .int xc)]) cx.1 cx.2.1 dX6_lacksPeople_17 rfl hl (by decide) rfl (fun ls hl => ?_)
  refine lv_aload_n cx.1 cx.2.1 dX6_lacksPeople_18 rfl (lv_at hl 2 rfl) ?_
  refine zGet (v := .ref (ad 1)) (own := RX6) cx hinX6 hK hP 0 rfl rfl 0 (by decide) (by decide +kernel) rfl rfl dX6_lacksPeople_19 ?_
  refine lv_iload_n cx.1 cx.2.1 dX6_lacksPeople_22 rfl (lv_at hl 3 rfl) ?_
  refine zThenIx (v := f_X0_kindOf S xc) (S' := S) hS (zRunV (As := [.int xc]) (rest := []) _ 1 cx (c_X0_kindOf l dC dI cyI ad hI S xc) gX6_lacksPeople_X0_kindOf rfl ⟨rfl, rfl⟩ (by decide +kernel) ⟨Nat.le_of_ble_eq_true rfl, Nat.le_of_ble_eq_true rfl⟩ (xN_X ad 36) hXs hK hP hS 1 rfl rfl rfl rfl hl.1 rfl (Nat.le_of_ble_eq_true rfl) dX6_lacksPeople_23 ⟨Nat.zero_le _, Nat.zero_le _⟩) (fun H locs hP hS => ?_)
  refine lv_iconst (v := 2) cx.1 cx.2.1 dX6_lacksPeople_26 (by decide) ?_
  refine lv_icmp_ne (tgt := 45) cx.1 cx.2.1 dX6_lacksPeople_27 (by decide) (fun c1 => ?_) (fun c1 => ?_)
  · refine lv_iload_n cx.1 cx.2.1 dX6_lacksPeople_45 rfl (lv_at hl 1 rfl) ?_
    refine lv_if_le (tgt := 57) cx.1 cx.2.1 dX6_lacksPeople_46 (by decide) (fun c2 => ?_) (fun c2 => ?_)
    · refine lv_iconst (v := 0) cx.1 cx.2.1 dX6_lacksPeople_57 (by decide) ?_
      exact zRetI cx hrt hlk (by first | rfl | decide) hS hP ⟨(by unfold f_X6_lacksPeople; rw [if_pos c1, if_pos c2]), rfl⟩ dX6_lacksPeople_58
    · refine lv_iload_n cx.1 cx.2.1 dX6_lacksPeople_49 rfl (lv_at hl 0 rfl) ?_
      refine lv_if_ne (tgt := 57) cx.1 cx.2.1 dX6_lacksPeople_50 (by decide) (fun c3 => ?_) (fun c3 => ?_)
      · refine lv_iconst (v := 0) cx.1 cx.2.1 dX6_lacksPeople_57 (by decide) ?_
        exact zRetI cx hrt hlk (by first | rfl | decide) hS hP ⟨(by unfold f_X6_lacksPeople; rw [if_pos c1, if_neg c2, if_pos c3]), rfl⟩ dX6_lacksPeople_58
      · refine lv_iconst (v := 1) cx.1 cx.2.1 dX6_lacksPeople_53 (by decide) ?_
        refine lv_goto (tgt := 58) cx.1 cx.2.1 dX6_lacksPeople_54 (by decide) ?_
        exact zRetI cx hrt hlk (by first | rfl | decide) hS hP ⟨(by unfold f_X6_lacksPeople; rw [if_pos c1, if_neg c2, if_neg (not_not_intro c3)]), rfl⟩ dX6_lacksPeople_58
  · refine lv_iconst (v := 2) cx.1 cx.2.1 dX6_lacksPeople_30 (by decide) ?_
    refine lv_iload_n cx.1 cx.2.1 dX6_lacksPeople_31 rfl (lv_at hl 1 rfl) ?_
    refine lv_iload_n cx.1 cx.2.1 dX6_lacksPeople_32 rfl (lv_at hl 0 rfl) ?_
    refine lv_isub cx.1 cx.2.1 dX6_lacksPeople_33 ?_
    refine lv_imul cx.1 cx.2.1 dX6_lacksPeople_34 ?_
    refine lv_iload_n cx.1 cx.2.1 dX6_lacksPeople_35 rfl (lv_at hl 1 rfl) ?_
    refine lv_icmp_le (tgt := 43) cx.1 cx.2.1 dX6_lacksPeople_36 (by decide) (fun c4 => ?_) (fun c4 => ?_)
    · refine lv_iconst (v := 0) cx.1 cx.2.1 dX6_lacksPeople_43 (by decide) ?_
      exact zRetI cx hrt hlk (by first | rfl | decide) hS hP ⟨(by unfold f_X6_lacksPeople; rw [if_neg (not_not_intro c1), if_pos c4]), rfl⟩ dX6_lacksPeople_44
    · refine lv_iconst (v := 1) cx.1 cx.2.1 dX6_lacksPeople_39 (by decide) ?_
      refine lv_goto (tgt := 44) cx.1 cx.2.1 dX6_lacksPeople_40 (by decide) ?_
      exact zRetI cx hrt hlk (by first | rfl | decide) hS hP ⟨(by unfold f_X6_lacksPeople; rw [if_neg (not_not_intro c1), if_neg c4]), rfl⟩ dX6_lacksPeople_44

def f_X6_nextLevel (S : zS) (xc : Int32) (xg : Int32) : Int32 := if (f_X5_serves S xc) = 0 then (if (f_X0_levelOf S xc) ≤ 0 then 0 else ((f_X0_levelOf S xc) - 1)) else (if (f_X6_lacksPeople S xc) = 0 then (if ¬ (f_X1_placedAt S xc) = (f_X0_peopleOf S xc) then (if (f_X6_valueOf S xc) < (5 * ((f_X0_levelOf S xc) + 1)) then (if xg = 0 then f_X0_levelOf S xc else (if 3 ≤ (f_X0_levelOf S xc) then f_X0_levelOf S xc else (f_X0_levelOf S xc))) else (if xg = 0 then f_X0_levelOf S xc else (if 3 ≤ (f_X0_levelOf S xc) then f_X0_levelOf S xc else (f_X0_levelOf S xc)))) else (if (f_X6_valueOf S xc) < (5 * ((f_X0_levelOf S xc) + 1)) then (if xg = 0 then f_X0_levelOf S xc else (if 3 ≤ (f_X0_levelOf S xc) then f_X0_levelOf S xc else (f_X0_levelOf S xc))) else (if xg = 0 then f_X0_levelOf S xc else (if 3 ≤ (f_X0_levelOf S xc) then f_X0_levelOf S xc else ((f_X0_levelOf S xc) + 1))))) else (if (f_X0_levelOf S xc) ≤ 0 then 0 else ((f_X0_levelOf S xc) - 1)))
set_option maxHeartbeats 4000000 in
set_option maxRecDepth 100000 in
theorem c_X6_nextLevel (l : Launch) (dC : Nat → ClassId) (dI : Nat → Nat → Nat) (cyI : ClassId) (ad : Nat → Nat) (hI : zI ad 36) (S : zS) (xc : Int32) (xg : Int32) : zMi l (dC, dI) [(cyI, .int)] ad 36 xN (cw cyI ad) yX6_nextLevel wsX6_nextLevel ({ frames := 4, cells := 0, slots := 0, locals := 89 } : Room) [.ref (ad 0), .int xc, .int xg] S (fun v T => v = f_X6_nextLevel S xc xg ∧ T = S) := by
  refine zStartI (by decide) rfl (Nat.le_of_ble_eq_true rfl) ?_
  intro p e s m args below meth c ls cx hrt hlk hP hK hXs hl
  have hl : lv_has ls 6 [(0, .ref (ad 0)), (1, .int xc), (2, .int xg)] := hl
  have hS : va_S (zA ad 36 s.heap.size) s.heap s.heap [] := va_S.rf
  have hinX6 : ∀ w ∈ u_ws RX6 TX6 5, w ∈ wsX6_nextLevel := by decide +kernel
  refine lv_aload_n cx.1 cx.2.1 dX6_nextLevel_0 rfl (lv_at hl 0 rfl) ?_
  refine zGet (v := .ref (ad 1)) (own := RX6) cx hinX6 hK hP 0 rfl rfl 0 (by decide) (by decide +kernel) rfl rfl dX6_nextLevel_1 ?_
  refine lv_iload_n cx.1 cx.2.1 dX6_nextLevel_4 rfl (lv_at hl 1 rfl) ?_
  refine zThenIx (v := f_X0_levelOf S xc) (S' := S) hS (zRunV (As := [.int xc]) (rest := []) _ 1 cx (c_X0_levelOf l dC dI cyI ad hI S xc) gX6_nextLevel_X0_levelOf rfl ⟨rfl, rfl⟩ (by decide +kernel) ⟨Nat.le_of_ble_eq_true rfl, Nat.le_of_ble_eq_true rfl⟩ (xN_X ad 36) hXs hK hP hS 1 rfl rfl rfl rfl hl.1 rfl (Nat.le_of_ble_eq_true rfl) dX6_nextLevel_5 ⟨Nat.zero_le _, Nat.zero_le _⟩) (fun H locs hP hS => ?_)
  refine lv_istore_n (lv' := [(3, .int (f_X0_levelOf S xc)), (0, .ref (ad 0)), (1, .int xc), (2, .int xg)]) cx.1 cx.2.1 dX6_nextLevel_8 rfl hl (by decide) rfl (fun ls hl => ?_)
  refine lv_aload_n cx.1 cx.2.1 dX6_nextLevel_9 rfl (lv_at hl 1 rfl) ?_
  refine zGet (v := .ref (ad 3)) (own := RX6) cx hinX6 hK hP 0 rfl rfl 2 (by decide) (by decide +kernel) rfl rfl dX6_nextLevel_10 ?_
  refine lv_iload_n cx.1 cx.2.1 dX6_nextLevel_13 rfl (lv_at hl 2 rfl) ?_
  refine zThenIx (v := f_X5_serves S xc) (S' := S) hS (zRunV (As := [.int xc]) (rest := []) _ 1 cx (c_X5_serves l dC dI cyI ad hI S xc) gX6_nextLevel_X5_serves rfl ⟨rfl, rfl⟩ (by decide +kernel) ⟨Nat.le_of_ble_eq_true rfl, Nat.le_of_ble_eq_true rfl⟩ (xN_X ad 36) hXs hK hP hS 3 rfl rfl rfl rfl hl.1 rfl (Nat.le_of_ble_eq_true rfl) dX6_nextLevel_14 ⟨Nat.zero_le _, Nat.zero_le _⟩) (fun H locs hP hS => ?_)
  refine lv_if_eq (tgt := 28) cx.1 cx.2.1 dX6_nextLevel_17 (by decide) (fun c1 => ?_) (fun c1 => ?_)
  · refine lv_iload_n cx.1 cx.2.1 dX6_nextLevel_28 rfl (lv_at hl 0 rfl) ?_
    refine lv_if_le (tgt := 38) cx.1 cx.2.1 dX6_nextLevel_29 (by decide) (fun c2 => ?_) (fun c2 => ?_)
    · refine lv_iconst (v := 0) cx.1 cx.2.1 dX6_nextLevel_38 (by decide) ?_
      exact zRetI cx hrt hlk rfl hS hP ⟨(by unfold f_X6_nextLevel; rw [if_pos c1, if_pos c2]), rfl⟩ dX6_nextLevel_39
    · refine lv_iload_n cx.1 cx.2.1 dX6_nextLevel_32 rfl (lv_at hl 0 rfl) ?_
      refine lv_iconst (v := 1) cx.1 cx.2.1 dX6_nextLevel_33 (by decide) ?_
      refine lv_isub cx.1 cx.2.1 dX6_nextLevel_34 ?_
      refine lv_goto (tgt := 39) cx.1 cx.2.1 dX6_nextLevel_35 (by decide) ?_
      exact zRetI cx hrt hlk rfl hS hP ⟨(by unfold f_X6_nextLevel; rw [if_pos c1, if_neg c2]), rfl⟩ dX6_nextLevel_39
  · refine lv_aload_n cx.1 cx.2.1 dX6_nextLevel_20 rfl (lv_at hl 1 rfl) ?_
    refine lv_iload_n cx.1 cx.2.1 dX6_nextLevel_21 rfl (lv_at hl 2 rfl) ?_
    refine zThenIx (v := f_X6_lacksPeople S xc) (S' := S) hS (zRunV (As := [.int xc]) (rest := []) _ 1 cx (c_X6_lacksPeople l dC dI cyI ad hI S xc) gX6_nextLevel_X6_lacksPeople rfl ⟨rfl, rfl⟩ (by decide +kernel) ⟨Nat.le_of_ble_eq_true rfl, Nat.le_of_ble_eq_true rfl⟩ (xN_X ad 36) hXs hK hP hS 0 rfl rfl rfl rfl hl.1 rfl (Nat.le_of_ble_eq_true rfl) dX6_nextLevel_22 ⟨Nat.zero_le _, Nat.zero_le _⟩) (fun H locs hP hS => ?_)
    refine lv_if_eq (tgt := 40) cx.1 cx.2.1 dX6_nextLevel_25 (by decide) (fun c3 => ?_) (fun c3 => ?_)
    · refine lv_aload_n cx.1 cx.2.1 dX6_nextLevel_40 rfl (lv_at hl 1 rfl) ?_
      refine zGet (v := .ref (ad 4)) (own := RX6) cx hinX6 hK hP 0 rfl rfl 3 (by decide) (by decide +kernel) rfl rfl dX6_nextLevel_41 ?_
      refine lv_iload_n cx.1 cx.2.1 dX6_nextLevel_44 rfl (lv_at hl 2 rfl) ?_
      refine zThenIx (v := f_X1_placedAt S xc) (S' := S) hS (zRunV (As := [.int xc]) (rest := []) _ 1 cx (c_X1_placedAt l dC dI cyI ad hI S xc) gX6_nextLevel_X1_placedAt rfl ⟨rfl, rfl⟩ (by decide +kernel) ⟨Nat.le_of_ble_eq_true rfl, Nat.le_of_ble_eq_true rfl⟩ (xN_X ad 36) hXs hK hP hS 4 rfl rfl rfl rfl hl.1 rfl (Nat.le_of_ble_eq_true rfl) dX6_nextLevel_45 ⟨Nat.zero_le _, Nat.zero_le _⟩) (fun H locs hP hS => ?_)
      refine lv_aload_n cx.1 cx.2.1 dX6_nextLevel_48 rfl (lv_at hl 1 rfl) ?_
      refine zGet (v := .ref (ad 1)) (own := RX6) cx hinX6 hK hP 0 rfl rfl 0 (by decide) (by decide +kernel) rfl rfl dX6_nextLevel_49 ?_
      refine lv_iload_n cx.1 cx.2.1 dX6_nextLevel_52 rfl (lv_at hl 2 rfl) ?_
      refine zThenIx (v := f_X0_peopleOf S xc) (S' := S) hS (zRunV (As := [.int xc]) (rest := [.int (f_X1_placedAt S xc)]) _ 1 cx (c_X0_peopleOf l dC dI cyI ad hI S xc) gX6_nextLevel_X0_peopleOf rfl ⟨rfl, rfl⟩ (by decide +kernel) ⟨Nat.le_of_ble_eq_true rfl, Nat.le_of_ble_eq_true rfl⟩ (xN_X ad 36) hXs hK hP hS 1 rfl rfl rfl rfl hl.1 rfl (Nat.le_of_ble_eq_true rfl) dX6_nextLevel_53 ⟨Nat.zero_le _, Nat.zero_le _⟩) (fun H locs hP hS => ?_)
      refine lv_icmp_ne (tgt := 63) cx.1 cx.2.1 dX6_nextLevel_56 (by decide) (fun c4 => ?_) (fun c4 => ?_)
      · refine lv_iconst (v := 0) cx.1 cx.2.1 dX6_nextLevel_63 (by decide) ?_
        refine lv_istore (lv' := [(4, .int 0), (3, .int (f_X0_levelOf S xc)), (0, .ref (ad 0)), (1, .int xc), (2, .int xg)]) cx.1 cx.2.1 dX6_nextLevel_64 hl (by decide) rfl (fun ls hl => ?_)
        refine lv_aload_n cx.1 cx.2.1 dX6_nextLevel_66 rfl (lv_at hl 2 rfl) ?_
        refine lv_iload_n cx.1 cx.2.1 dX6_nextLevel_67 rfl (lv_at hl 3 rfl) ?_
        refine zThenIx (v := f_X6_valueOf S xc) (S' := S) hS (zRunV (As := [.int xc]) (rest := []) _ 1 cx (c_X6_valueOf l dC dI cyI ad hI S xc) gX6_nextLevel_X6_valueOf rfl ⟨rfl, rfl⟩ (by decide +kernel) ⟨Nat.le_of_ble_eq_true rfl, Nat.le_of_ble_eq_true rfl⟩ (xN_X ad 36) hXs hK hP hS 0 rfl rfl rfl rfl hl.1 rfl (Nat.le_of_ble_eq_true rfl) dX6_nextLevel_68 ⟨Nat.zero_le _, Nat.zero_le _⟩) (fun H locs hP hS => ?_)
        refine lv_iconst (v := 5) cx.1 cx.2.1 dX6_nextLevel_71 (by decide) ?_
        refine lv_iload_n cx.1 cx.2.1 dX6_nextLevel_72 rfl (lv_at hl 1 rfl) ?_
        refine lv_iconst (v := 1) cx.1 cx.2.1 dX6_nextLevel_73 (by decide) ?_
        refine lv_iadd cx.1 cx.2.1 dX6_nextLevel_74 ?_
        refine lv_imul cx.1 cx.2.1 dX6_nextLevel_75 ?_
        refine lv_icmp_lt (tgt := 83) cx.1 cx.2.1 dX6_nextLevel_76 (by decide) (fun c5 => ?_) (fun c5 => ?_)
        · refine lv_iconst (v := 0) cx.1 cx.2.1 dX6_nextLevel_83 (by decide) ?_
          refine lv_istore (lv' := [(5, .int 0), (4, .int 0), (3, .int (f_X0_levelOf S xc)), (0, .ref (ad 0)), (1, .int xc), (2, .int xg)]) cx.1 cx.2.1 dX6_nextLevel_84 hl (by decide) rfl (fun ls hl => ?_)
          refine lv_iload_n cx.1 cx.2.1 dX6_nextLevel_86 rfl (lv_at hl 5 rfl) ?_
          refine lv_if_eq (tgt := 111) cx.1 cx.2.1 dX6_nextLevel_87 (by decide) (fun c6 => ?_) (fun c6 => ?_)
          · refine lv_iload_n cx.1 cx.2.1 dX6_nextLevel_111 rfl (lv_at hl 2 rfl) ?_
            exact zRetI cx hrt hlk rfl hS hP ⟨(by unfold f_X6_nextLevel; rw [if_neg c1, if_pos c3, if_pos c4, if_pos c5, if_pos c6]), rfl⟩ dX6_nextLevel_112
          · refine lv_iload_n cx.1 cx.2.1 dX6_nextLevel_90 rfl (lv_at hl 2 rfl) ?_
            refine lv_iconst (v := 3) cx.1 cx.2.1 dX6_nextLevel_91 (by decide) ?_
            refine lv_icmp_ge (tgt := 111) cx.1 cx.2.1 dX6_nextLevel_92 (by decide) (fun c7 => ?_) (fun c7 => ?_)
            · refine lv_iload_n cx.1 cx.2.1 dX6_nextLevel_111 rfl (lv_at hl 2 rfl) ?_
              exact zRetI cx hrt hlk rfl hS hP ⟨(by unfold f_X6_nextLevel; rw [if_neg c1, if_pos c3, if_pos c4, if_pos c5, if_neg c6, if_pos c7]), rfl⟩ dX6_nextLevel_112
            · refine lv_iload cx.1 cx.2.1 dX6_nextLevel_95 (lv_at hl 1 rfl) ?_
              refine lv_if_eq (tgt := 111) cx.1 cx.2.1 dX6_nextLevel_97 (by decide) (fun c8 => ?_) (fun c8 => ?_)
              rotate_left
              · exact absurd c8 (by decide)
              refine lv_iload_n cx.1 cx.2.1 dX6_nextLevel_111 rfl (lv_at hl 2 rfl) ?_
              exact zRetI cx hrt hlk rfl hS hP ⟨(by unfold f_X6_nextLevel; rw [if_neg c1, if_pos c3, if_pos c4, if_pos c5, if_neg c6, if_neg c7]), rfl⟩ dX6_nextLevel_112
        · refine lv_iconst (v := 1) cx.1 cx.2.1 dX6_nextLevel_79 (by decide) ?_
          refine lv_goto (tgt := 84) cx.1 cx.2.1 dX6_nextLevel_80 (by decide) ?_
          refine lv_istore (lv' := [(5, .int 1), (4, .int 0), (3, .int (f_X0_levelOf S xc)), (0, .ref (ad 0)), (1, .int xc), (2, .int xg)]) cx.1 cx.2.1 dX6_nextLevel_84 hl (by decide) rfl (fun ls hl => ?_)
          refine lv_iload_n cx.1 cx.2.1 dX6_nextLevel_86 rfl (lv_at hl 5 rfl) ?_
          refine lv_if_eq (tgt := 111) cx.1 cx.2.1 dX6_nextLevel_87 (by decide) (fun c9 => ?_) (fun c9 => ?_)
          · refine lv_iload_n cx.1 cx.2.1 dX6_nextLevel_111 rfl (lv_at hl 2 rfl) ?_
            exact zRetI cx hrt hlk rfl hS hP ⟨(by unfold f_X6_nextLevel; rw [if_neg c1, if_pos c3, if_pos c4, if_neg c5, if_pos c9]), rfl⟩ dX6_nextLevel_112
          · refine lv_iload_n cx.1 cx.2.1 dX6_nextLevel_90 rfl (lv_at hl 2 rfl) ?_
            refine lv_iconst (v := 3) cx.1 cx.2.1 dX6_nextLevel_91 (by decide) ?_
            refine lv_icmp_ge (tgt := 111) cx.1 cx.2.1 dX6_nextLevel_92 (by decide) (fun c10 => ?_) (fun c10 => ?_)
            · refine lv_iload_n cx.1 cx.2.1 dX6_nextLevel_111 rfl (lv_at hl 2 rfl) ?_
              exact zRetI cx hrt hlk rfl hS hP ⟨(by unfold f_X6_nextLevel; rw [if_neg c1, if_pos c3, if_pos c4, if_neg c5, if_neg c9, if_pos c10]), rfl⟩ dX6_nextLevel_112
            · refine lv_iload cx.1 cx.2.1 dX6_nextLevel_95 (lv_at hl 1 rfl) ?_
              refine lv_if_eq (tgt := 111) cx.1 cx.2.1 dX6_nextLevel_97 (by decide) (fun c11 => ?_) (fun c11 => ?_)
              rotate_left
              · exact absurd c11 (by decide)
              refine lv_iload_n cx.1 cx.2.1 dX6_nextLevel_111 rfl (lv_at hl 2 rfl) ?_
              exact zRetI cx hrt hlk rfl hS hP ⟨(by unfold f_X6_nextLevel; rw [if_neg c1, if_pos c3, if_pos c4, if_neg c5, if_neg c9, if_neg c10]), rfl⟩ dX6_nextLevel_112
      · refine lv_iconst (v := 1) cx.1 cx.2.1 dX6_nextLevel_59 (by decide) ?_
        refine lv_goto (tgt := 64) cx.1 cx.2.1 dX6_nextLevel_60 (by decide) ?_
        refine lv_istore (lv' := [(4, .int 1), (3, .int (f_X0_levelOf S xc)), (0, .ref (ad 0)), (1, .int xc), (2, .int xg)]) cx.1 cx.2.1 dX6_nextLevel_64 hl (by decide) rfl (fun ls hl => ?_)
        refine lv_aload_n cx.1 cx.2.1 dX6_nextLevel_66 rfl (lv_at hl 2 rfl) ?_
        refine lv_iload_n cx.1 cx.2.1 dX6_nextLevel_67 rfl (lv_at hl 3 rfl) ?_
        refine zThenIx (v := f_X6_valueOf S xc) (S' := S) hS (zRunV (As := [.int xc]) (rest := []) _ 1 cx (c_X6_valueOf l dC dI cyI ad hI S xc) gX6_nextLevel_X6_valueOf rfl ⟨rfl, rfl⟩ (by decide +kernel) ⟨Nat.le_of_ble_eq_true rfl, Nat.le_of_ble_eq_true rfl⟩ (xN_X ad 36) hXs hK hP hS 0 rfl rfl rfl rfl hl.1 rfl (Nat.le_of_ble_eq_true rfl) dX6_nextLevel_68 ⟨Nat.zero_le _, Nat.zero_le _⟩) (fun H locs hP hS => ?_)
        refine lv_iconst (v := 5) cx.1 cx.2.1 dX6_nextLevel_71 (by decide) ?_
        refine lv_iload_n cx.1 cx.2.1 dX6_nextLevel_72 rfl (lv_at hl 1 rfl) ?_
        refine lv_iconst (v := 1) cx.1 cx.2.1 dX6_nextLevel_73 (by decide) ?_
        refine lv_iadd cx.1 cx.2.1 dX6_nextLevel_74 ?_
        refine lv_imul cx.1 cx.2.1 dX6_nextLevel_75 ?_
        refine lv_icmp_lt (tgt := 83) cx.1 cx.2.1 dX6_nextLevel_76 (by decide) (fun c12 => ?_) (fun c12 => ?_)
        · refine lv_iconst (v := 0) cx.1 cx.2.1 dX6_nextLevel_83 (by decide) ?_
          refine lv_istore (lv' := [(5, .int 0), (4, .int 1), (3, .int (f_X0_levelOf S xc)), (0, .ref (ad 0)), (1, .int xc), (2, .int xg)]) cx.1 cx.2.1 dX6_nextLevel_84 hl (by decide) rfl (fun ls hl => ?_)
          refine lv_iload_n cx.1 cx.2.1 dX6_nextLevel_86 rfl (lv_at hl 5 rfl) ?_
          refine lv_if_eq (tgt := 111) cx.1 cx.2.1 dX6_nextLevel_87 (by decide) (fun c13 => ?_) (fun c13 => ?_)
          · refine lv_iload_n cx.1 cx.2.1 dX6_nextLevel_111 rfl (lv_at hl 2 rfl) ?_
            exact zRetI cx hrt hlk rfl hS hP ⟨(by unfold f_X6_nextLevel; rw [if_neg c1, if_pos c3, if_neg (not_not_intro c4), if_pos c12, if_pos c13]), rfl⟩ dX6_nextLevel_112
          · refine lv_iload_n cx.1 cx.2.1 dX6_nextLevel_90 rfl (lv_at hl 2 rfl) ?_
            refine lv_iconst (v := 3) cx.1 cx.2.1 dX6_nextLevel_91 (by decide) ?_
            refine lv_icmp_ge (tgt := 111) cx.1 cx.2.1 dX6_nextLevel_92 (by decide) (fun c14 => ?_) (fun c14 => ?_)
            · refine lv_iload_n cx.1 cx.2.1 dX6_nextLevel_111 rfl (lv_at hl 2 rfl) ?_
              exact zRetI cx hrt hlk rfl hS hP ⟨(by unfold f_X6_nextLevel; rw [if_neg c1, if_pos c3, if_neg (not_not_intro c4), if_pos c12, if_neg c13, if_pos c14]), rfl⟩ dX6_nextLevel_112
            · refine lv_iload cx.1 cx.2.1 dX6_nextLevel_95 (lv_at hl 1 rfl) ?_
              refine lv_if_eq (tgt := 111) cx.1 cx.2.1 dX6_nextLevel_97 (by decide) (fun c15 => ?_) (fun c15 => ?_)
              · exact absurd c15 (by decide)
              refine lv_iload cx.1 cx.2.1 dX6_nextLevel_100 (lv_at hl 0 rfl) ?_
              refine lv_if_eq (tgt := 111) cx.1 cx.2.1 dX6_nextLevel_102 (by decide) (fun c16 => ?_) (fun c16 => ?_)
              rotate_left
              · exact absurd c16 (by decide)
              refine lv_iload_n cx.1 cx.2.1 dX6_nextLevel_111 rfl (lv_at hl 2 rfl) ?_
              exact zRetI cx hrt hlk rfl hS hP ⟨(by unfold f_X6_nextLevel; rw [if_neg c1, if_pos c3, if_neg (not_not_intro c4), if_pos c12, if_neg c13, if_neg c14]), rfl⟩ dX6_nextLevel_112
        · refine lv_iconst (v := 1) cx.1 cx.2.1 dX6_nextLevel_79 (by decide) ?_
          refine lv_goto (tgt := 84) cx.1 cx.2.1 dX6_nextLevel_80 (by decide) ?_
          refine lv_istore (lv' := [(5, .int 1), (4, .int 1), (3, .int (f_X0_levelOf S xc)), (0, .ref (ad 0)), (1, .int xc), (2, .int xg)]) cx.1 cx.2.1 dX6_nextLevel_84 hl (by decide) rfl (fun ls hl => ?_)
          refine lv_iload_n cx.1 cx.2.1 dX6_nextLevel_86 rfl (lv_at hl 5 rfl) ?_
          refine lv_if_eq (tgt := 111) cx.1 cx.2.1 dX6_nextLevel_87 (by decide) (fun c17 => ?_) (fun c17 => ?_)
          · refine lv_iload_n cx.1 cx.2.1 dX6_nextLevel_111 rfl (lv_at hl 2 rfl) ?_
            exact zRetI cx hrt hlk rfl hS hP ⟨(by unfold f_X6_nextLevel; rw [if_neg c1, if_pos c3, if_neg (not_not_intro c4), if_neg c12, if_pos c17]), rfl⟩ dX6_nextLevel_112
          · refine lv_iload_n cx.1 cx.2.1 dX6_nextLevel_90 rfl (lv_at hl 2 rfl) ?_
            refine lv_iconst (v := 3) cx.1 cx.2.1 dX6_nextLevel_91 (by decide) ?_
            refine lv_icmp_ge (tgt := 111) cx.1 cx.2.1 dX6_nextLevel_92 (by decide) (fun c18 => ?_) (fun c18 => ?_)
            · refine lv_iload_n cx.1 cx.2.1 dX6_nextLevel_111 rfl (lv_at hl 2 rfl) ?_
              exact zRetI cx hrt hlk rfl hS hP ⟨(by unfold f_X6_nextLevel; rw [if_neg c1, if_pos c3, if_neg (not_not_intro c4), if_neg c12, if_neg c17, if_pos c18]), rfl⟩ dX6_nextLevel_112
            · refine lv_iload cx.1 cx.2.1 dX6_nextLevel_95 (lv_at hl 1 rfl) ?_
              refine lv_if_eq (tgt := 111) cx.1 cx.2.1 dX6_nextLevel_97 (by decide) (fun c19 => ?_) (fun c19 => ?_)
              · exact absurd c19 (by decide)
              refine lv_iload cx.1 cx.2.1 dX6_nextLevel_100 (lv_at hl 0 rfl) ?_
              refine lv_if_eq (tgt := 111) cx.1 cx.2.1 dX6_nextLevel_102 (by decide) (fun c20 => ?_) (fun c20 => ?_)
              · exact absurd c20 (by decide)
              refine lv_iload_n cx.1 cx.2.1 dX6_nextLevel_105 rfl (lv_at hl 2 rfl) ?_
              refine lv_iconst (v := 1) cx.1 cx.2.1 dX6_nextLevel_106 (by decide) ?_
              refine lv_iadd cx.1 cx.2.1 dX6_nextLevel_107 ?_
              refine lv_goto (tgt := 112) cx.1 cx.2.1 dX6_nextLevel_108 (by decide) ?_
              exact zRetI cx hrt hlk rfl hS hP ⟨(by unfold f_X6_nextLevel; rw [if_neg c1, if_pos c3, if_neg (not_not_intro c4), if_neg c12, if_neg c17, if_neg c18]), rfl⟩ dX6_nextLevel_112
    · refine lv_iload_n cx.1 cx.2.1 dX6_nextLevel_28 rfl (lv_at hl 0 rfl) ?_
      refine lv_if_le (tgt := 38) cx.1 cx.2.1 dX6_nextLevel_29 (by decide) (fun c21 => ?_) (fun c21 => ?_)
      · refine lv_iconst (v := 0) cx.1 cx.2.1 dX6_nextLevel_38 (by decide) ?_
        exact zRetI cx hrt hlk rfl hS hP ⟨(by unfold f_X6_nextLevel; rw [if_neg c1, if_neg c3, if_pos c21]), rfl⟩ dX6_nextLevel_39
      · refine lv_iload_n cx.1 cx.2.1 dX6_nextLevel_32 rfl (lv_at hl 0 rfl) ?_
        refine lv_iconst (v := 1) cx.1 cx.2.1 dX6_nextLevel_33 (by decide) ?_
        refine lv_isub cx.1 cx.2.1 dX6_nextLevel_34 ?_
        refine lv_goto (tgt := 39) cx.1 cx.2.1 dX6_nextLevel_35 (by decide) ?_
        exact zRetI cx hrt hlk rfl hS hP ⟨(by unfold f_X6_nextLevel; rw [if_neg c1, if_neg c3, if_neg c21]), rfl⟩ dX6_nextLevel_39

def bd_X6_changeLevels_2 (S : zS) (xg : Int32) (i : Nat) (T2 : zS) : zS := if (f_X0_isZone T2 (nI i)) = 0 then (T2) else (g_X0_changeLevel T2 (nI i) (f_X6_nextLevel T2 (nI i) xg))
def lp_X6_changeLevels_2 (S : zS) (xg : Int32) (T20 : zS) : Nat → zS
  | 0 => (T20)
  | q + 1 => bd_X6_changeLevels_2 S xg q (lp_X6_changeLevels_2 S xg T20 q)
def g_X6_changeLevels (S : zS) (xg : Int32) : zS := (lp_X6_changeLevels_2 S xg S 64)
theorem fr_bd_X6_changeLevels_2 (S : zS) (xg : Int32) (i : Nat) (T2 : zS) (r : Nat) (h1 : r ≠ 1) : (bd_X6_changeLevels_2 S xg i T2) r = T2 r := by
  unfold bd_X6_changeLevels_2
  (repeat' split) <;> simp [zUp, h1, fr_X0_changeLevel]
theorem fr_lp_X6_changeLevels_2 (S : zS) (xg : Int32) (T20 : zS) (r : Nat) (h1 : r ≠ 1) : ∀ n, (lp_X6_changeLevels_2 S xg T20 n) r = T20 r
  | 0 => rfl
  | n + 1 => by
    show (bd_X6_changeLevels_2 S xg n (lp_X6_changeLevels_2 S xg T20 n)) r = _
    rw [fr_bd_X6_changeLevels_2 _ _ _ _ r h1]
    exact fr_lp_X6_changeLevels_2 S xg T20 r h1 n
theorem fr_X6_changeLevels (S : zS) (xg : Int32) (r : Nat) (h1 : r ≠ 1) : g_X6_changeLevels S xg r = S r := by
  unfold g_X6_changeLevels
  (repeat' split) <;> simp [zUp, h1, fr_X0_changeLevel, fr_lp_X6_changeLevels_2]
set_option maxHeartbeats 4000000 in
set_option maxRecDepth 100000 in
theorem c_X6_changeLevels (l : Launch) (dC : Nat → ClassId) (dI : Nat → Nat → Nat) (cyI : ClassId) (ad : Nat → Nat) (hI : zI ad 36) (S : zS) (xg : Int32) : zMv l (dC, dI) [(cyI, .int)] ad 36 xN (cw cyI ad) yX6_changeLevels wsX6_changeLevels ({ frames := 5, cells := 0, slots := 0, locals := 114 } : Room) [.ref (ad 0), .int xg] S (fun T => T = g_X6_changeLevels S xg) := by
  refine zStartV (by decide) rfl (Nat.le_of_ble_eq_true rfl) ?_
  intro p e s m args below meth c ls cx hrt hlk hP hK hXs hl
  have hl : lv_has ls 3 [(0, .ref (ad 0)), (1, .int xg)] := hl
  have hS : va_S (zA ad 36 s.heap.size) s.heap s.heap [] := va_S.rf
  have hinX6 : ∀ w ∈ u_ws RX6 TX6 5, w ∈ wsX6_changeLevels := by decide +kernel
  obtain ⟨Q, hQ⟩ : ∃ Q, Q = MQ below (zQv (dC, dI) (cw cyI ad) (fun T => T = g_X6_changeLevels S xg) (zA ad 36 s.heap.size)) args s 0 0 (zA ad 36 s.heap.size) := ⟨_, rfl⟩
  rw [← hQ]
  refine lv_iconst (v := 0) cx.1 cx.2.1 dX6_changeLevels_0 (by decide) ?_
  refine lv_istore_n (lv' := [(2, .int 0), (0, .ref (ad 0)), (1, .int xg)]) cx.1 cx.2.1 dX6_changeLevels_1 rfl hl (by decide) rfl (fun ls hl => ?_)
  have lp2 : ∀ (fu i : Nat) (T2 : zS) (hi2 : i ≤ 64) (hacc2 : lp_X6_changeLevels_2 S xg S i = T2)  (_ : 64 - i < fu) (H : Heap) (locs : List Loc) (ls : Array Slot), va_P (dC, dI) vwCl (cw cyI ad T2) H → va_S (zA ad 36 s.heap.size) s.heap H locs → lv_has ls 3 [(2, .int (nI i)), (0, .ref (ad 0)), (1, .int xg)] → W p l e (headSpec wsX6_changeLevels ({ frames := 5, cells := 0, slots := 0, locals := 114 } : Room)).room s m args below meth c H locs 0 0 Q (F0 m 2 ls []) := by
    intro fu
    induction fu with
    | zero => intro i T2 hi2 hacc2  hm; exact absurd hm (Nat.not_lt_zero _)
    | succ fu ih2 =>
      intro i T2 hi2 hacc2  hm H locs ls hP hS hl
      refine lv_iload_n cx.1 cx.2.1 dX6_changeLevels_2 rfl (lv_at hl 0 rfl) ?_
      refine lv_bipush (v := 64) cx.1 cx.2.1 dX6_changeLevels_3 (by decide) ?_
      refine lv_icmp_ge (tgt := 39) cx.1 cx.2.1 dX6_changeLevels_5 (by decide) (fun c1 => ?_) (fun c1 => ?_)
      · have nc1 : 64 ≤ i := (nI_leI (a := 64) (b := i) (by first | decide | omega) (by first | decide | omega)).mp c1
        obtain rfl : i = 64 := by omega
        subst hacc2
        rw [hQ]
        exact zRetV cx hrt hlk hS hP (by unfold g_X6_changeLevels; rfl) dX6_changeLevels_39
      · have nc1 : ¬ 64 ≤ i := fun z => c1 ((nI_leI (a := 64) (b := i) (by first | decide | omega) (by first | decide | omega)).mpr z)
        refine lv_aload_n cx.1 cx.2.1 dX6_changeLevels_8 rfl (lv_at hl 1 rfl) ?_
        refine zGet (v := .ref (ad 1)) (own := RX6) cx hinX6 hK hP 0 rfl rfl 0 (by decide) (by decide +kernel) rfl rfl dX6_changeLevels_9 ?_
        refine lv_iload_n cx.1 cx.2.1 dX6_changeLevels_12 rfl (lv_at hl 0 rfl) ?_
        refine zThenIx (v := f_X0_isZone T2 (nI i)) (S' := T2) hS (zRunV (As := [.int (nI i)]) (rest := []) _ 1 cx (c_X0_isZone l dC dI cyI ad hI T2 (nI i)) gX6_changeLevels_X0_isZone rfl ⟨rfl, rfl⟩ (by decide +kernel) ⟨Nat.le_of_ble_eq_true rfl, Nat.le_of_ble_eq_true rfl⟩ (xN_X ad 36) hXs hK hP hS 1 rfl rfl rfl rfl hl.1 rfl (Nat.le_of_ble_eq_true rfl) dX6_changeLevels_13 ⟨Nat.zero_le _, Nat.zero_le _⟩) (fun H locs hP hS => ?_)
        refine lv_if_eq (tgt := 33) cx.1 cx.2.1 dX6_changeLevels_16 (by decide) (fun c2 => ?_) (fun c2 => ?_)
        · refine lv_iinc (v := nI (i + 1)) (lv' := [(2, .int (nI (i + 1))), (0, .ref (ad 0)), (1, .int xg)]) cx.1 cx.2.1 dX6_changeLevels_33 hl (k := 0) rfl (nI_1 i) (by decide) rfl (fun ls hl => ?_)
          refine lv_goto (tgt := 2) cx.1 cx.2.1 dX6_changeLevels_36 (by decide) ?_
          have ha2 : lp_X6_changeLevels_2 S xg S (i + 1) = T2 := by
            show bd_X6_changeLevels_2 S xg i (lp_X6_changeLevels_2 S xg S i) = _
            rw [hacc2]
            unfold bd_X6_changeLevels_2
            rw [if_pos c2]
          exact ih2 (i + 1) T2 (by omega) ha2  (by omega) _ _ ls hP hS (lv_sub hl [0, 1, 2] rfl)
        · refine lv_aload_n cx.1 cx.2.1 dX6_changeLevels_19 rfl (lv_at hl 1 rfl) ?_
          refine zGet (v := .ref (ad 1)) (own := RX6) cx hinX6 hK hP 0 rfl rfl 0 (by decide) (by decide +kernel) rfl rfl dX6_changeLevels_20 ?_
          refine lv_iload_n cx.1 cx.2.1 dX6_changeLevels_23 rfl (lv_at hl 0 rfl) ?_
          refine lv_aload_n cx.1 cx.2.1 dX6_changeLevels_24 rfl (lv_at hl 1 rfl) ?_
          refine lv_iload_n cx.1 cx.2.1 dX6_changeLevels_25 rfl (lv_at hl 0 rfl) ?_
          refine lv_iload_n cx.1 cx.2.1 dX6_changeLevels_26 rfl (lv_at hl 2 rfl) ?_
          refine zThenIx (v := f_X6_nextLevel T2 (nI i) xg) (S' := T2) hS (zRunV (As := [.int (nI i), .int xg]) (rest := [.int (nI i), .ref (ad 1)]) _ 2 cx (c_X6_nextLevel l dC dI cyI ad hI T2 (nI i) xg) gX6_changeLevels_X6_nextLevel rfl ⟨rfl, rfl⟩ (by decide +kernel) ⟨Nat.le_of_ble_eq_true rfl, Nat.le_of_ble_eq_true rfl⟩ (xN_X ad 36) hXs hK hP hS 0 rfl rfl rfl rfl hl.1 rfl (Nat.le_of_ble_eq_true rfl) dX6_changeLevels_27 ⟨Nat.zero_le _, Nat.zero_le _⟩) (fun H locs hP hS => ?_)
          refine zThenVx (S' := g_X0_changeLevel T2 (nI i) (f_X6_nextLevel T2 (nI i) xg)) hS (zRunV (As := [.int (nI i), .int (f_X6_nextLevel T2 (nI i) xg)]) (rest := []) _ 2 cx (c_X0_changeLevel l dC dI cyI ad hI T2 (nI i) (f_X6_nextLevel T2 (nI i) xg)) gX6_changeLevels_X0_changeLevel rfl ⟨rfl, rfl⟩ (by decide +kernel) ⟨Nat.le_of_ble_eq_true rfl, Nat.le_of_ble_eq_true rfl⟩ (xN_X ad 36) hXs hK hP hS 1 rfl rfl rfl rfl hl.1 rfl (Nat.le_of_ble_eq_true rfl) dX6_changeLevels_30 ⟨Nat.zero_le _, Nat.zero_le _⟩) (fun H locs hP hS => ?_)
          refine lv_iinc (v := nI (i + 1)) (lv' := [(2, .int (nI (i + 1))), (0, .ref (ad 0)), (1, .int xg)]) cx.1 cx.2.1 dX6_changeLevels_33 hl (k := 0) rfl (nI_1 i) (by decide) rfl (fun ls hl => ?_)
          refine lv_goto (tgt := 2) cx.1 cx.2.1 dX6_changeLevels_36 (by decide) ?_
          have ha2 : lp_X6_changeLevels_2 S xg S (i + 1) = g_X0_changeLevel T2 (nI i) (f_X6_nextLevel T2 (nI i) xg) := by
            show bd_X6_changeLevels_2 S xg i (lp_X6_changeLevels_2 S xg S i) = _
            rw [hacc2]
            unfold bd_X6_changeLevels_2
            rw [if_neg c2]
          exact ih2 (i + 1) (g_X0_changeLevel T2 (nI i) (f_X6_nextLevel T2 (nI i) xg)) (by omega) ha2  (by omega) _ _ ls hP hS (lv_sub hl [0, 1, 2] rfl)
  exact lp2 (64 - 0 + 1) 0 S (by omega) rfl  (Nat.lt_succ_self _) _ _ ls hP hS (lv_sub hl [0, 1, 2] rfl)

def g_X6_passMonth (S : zS)  : zS := if (f_X2_cashNow (g_X2_closeMonth S (f_X1_allPlaced S) (f_X6_upkeep S))) < 0 then g_X1_find (g_X5_find (g_X6_changeLevels (g_X2_closeMonth S (f_X1_allPlaced S) (f_X6_upkeep S)) 0)) else (g_X1_find (g_X5_find (g_X6_changeLevels (g_X2_closeMonth S (f_X1_allPlaced S) (f_X6_upkeep S)) 1)))
theorem fr_X6_passMonth (S : zS)  (r : Nat) (h1 : r ≠ 1) (h10 : r ≠ 10) (h11 : r ≠ 11) (h12 : r ≠ 12) (h13 : r ≠ 13) (h14 : r ≠ 14) (h16 : r ≠ 16) (h17 : r ≠ 17) (h6 : r ≠ 6) (h7 : r ≠ 7) (h8 : r ≠ 8) (h9 : r ≠ 9) : g_X6_passMonth S  r = S r := by
  unfold g_X6_passMonth
  (repeat' split) <;> simp [zUp, h1, h10, h11, h12, h13, h14, h16, h17, h6, h7, h8, h9, fr_X1_find, fr_X2_closeMonth, fr_X5_find, fr_X6_changeLevels]
set_option maxHeartbeats 4000000 in
set_option maxRecDepth 100000 in
theorem c_X6_passMonth (l : Launch) (dC : Nat → ClassId) (dI : Nat → Nat → Nat) (cyI : ClassId) (ad : Nat → Nat) (hI : zI ad 36) (S : zS)  : zMv l (dC, dI) [(cyI, .int)] ad 36 xN (cw cyI ad) yX6_passMonth wsX6_passMonth ({ frames := 6, cells := 0, slots := 0, locals := 136 } : Room) [.ref (ad 0)] S (fun T => T = g_X6_passMonth S) := by
  refine zStartV (by decide) rfl (Nat.le_of_ble_eq_true rfl) ?_
  intro p e s m args below meth c ls cx hrt hlk hP hK hXs hl
  have hl : lv_has ls 1 [(0, .ref (ad 0))] := hl
  have hS : va_S (zA ad 36 s.heap.size) s.heap s.heap [] := va_S.rf
  have hinX6 : ∀ w ∈ u_ws RX6 TX6 5, w ∈ wsX6_passMonth := by decide +kernel
  refine lv_aload_n cx.1 cx.2.1 dX6_passMonth_0 rfl (lv_at hl 0 rfl) ?_
  refine zGet (v := .ref (ad 5)) (own := RX6) cx hinX6 hK hP 0 rfl rfl 4 (by decide) (by decide +kernel) rfl rfl dX6_passMonth_1 ?_
  refine lv_aload_n cx.1 cx.2.1 dX6_passMonth_4 rfl (lv_at hl 0 rfl) ?_
  refine zGet (v := .ref (ad 4)) (own := RX6) cx hinX6 hK hP 0 rfl rfl 3 (by decide) (by decide +kernel) rfl rfl dX6_passMonth_5 ?_
  refine zThenIx (v := f_X1_allPlaced S) (S' := S) hS (zRunV (As := []) (rest := [.ref (ad 5)]) _ 0 cx (c_X1_allPlaced l dC dI cyI ad hI S ) gX6_passMonth_X1_allPlaced rfl ⟨rfl, rfl⟩ (by decide +kernel) ⟨Nat.le_of_ble_eq_true rfl, Nat.le_of_ble_eq_true rfl⟩ (xN_X ad 36) hXs hK hP hS 4 rfl rfl rfl rfl hl.1 rfl (Nat.le_of_ble_eq_true rfl) dX6_passMonth_8 ⟨Nat.zero_le _, Nat.zero_le _⟩) (fun H locs hP hS => ?_)
  refine lv_aload_n cx.1 cx.2.1 dX6_passMonth_11 rfl (lv_at hl 0 rfl) ?_
  refine zThenIx (v := f_X6_upkeep S) (S' := S) hS (zRunV (As := []) (rest := [.int (f_X1_allPlaced S), .ref (ad 5)]) _ 0 cx (c_X6_upkeep l dC dI cyI ad hI S ) gX6_passMonth_X6_upkeep rfl ⟨rfl, rfl⟩ (by decide +kernel) ⟨Nat.le_of_ble_eq_true rfl, Nat.le_of_ble_eq_true rfl⟩ (xN_X ad 36) hXs hK hP hS 0 rfl rfl rfl rfl hl.1 rfl (Nat.le_of_ble_eq_true rfl) dX6_passMonth_12 ⟨Nat.zero_le _, Nat.zero_le _⟩) (fun H locs hP hS => ?_)
  refine zThenVx (S' := g_X2_closeMonth S (f_X1_allPlaced S) (f_X6_upkeep S)) hS (zRunV (As := [.int (f_X1_allPlaced S), .int (f_X6_upkeep S)]) (rest := []) _ 2 cx (c_X2_closeMonth l dC dI cyI ad hI S (f_X1_allPlaced S) (f_X6_upkeep S)) gX6_passMonth_X2_closeMonth rfl ⟨rfl, rfl⟩ (by decide +kernel) ⟨Nat.le_of_ble_eq_true rfl, Nat.le_of_ble_eq_true rfl⟩ (xN_X ad 36) hXs hK hP hS 5 rfl rfl rfl rfl hl.1 rfl (Nat.le_of_ble_eq_true rfl) dX6_passMonth_15 ⟨Nat.zero_le _, Nat.zero_le _⟩) (fun H locs hP hS => ?_)
  refine lv_aload_n cx.1 cx.2.1 dX6_passMonth_18 rfl (lv_at hl 0 rfl) ?_
  refine lv_aload_n cx.1 cx.2.1 dX6_passMonth_19 rfl (lv_at hl 0 rfl) ?_
  refine zGet (v := .ref (ad 5)) (own := RX6) cx hinX6 hK hP 0 rfl rfl 4 (by decide) (by decide +kernel) rfl rfl dX6_passMonth_20 ?_
  refine zThenIx (v := f_X2_cashNow (g_X2_closeMonth S (f_X1_allPlaced S) (f_X6_upkeep S))) (S' := g_X2_closeMonth S (f_X1_allPlaced S) (f_X6_upkeep S)) hS (zRunV (As := []) (rest := [.ref (ad 0)]) _ 0 cx (c_X2_cashNow l dC dI cyI ad hI (g_X2_closeMonth S (f_X1_allPlaced S) (f_X6_upkeep S)) ) gX6_passMonth_X2_cashNow rfl ⟨rfl, rfl⟩ (by decide +kernel) ⟨Nat.le_of_ble_eq_true rfl, Nat.le_of_ble_eq_true rfl⟩ (xN_X ad 36) hXs hK hP hS 5 rfl rfl rfl rfl hl.1 rfl (Nat.le_of_ble_eq_true rfl) dX6_passMonth_23 ⟨Nat.zero_le _, Nat.zero_le _⟩) (fun H locs hP hS => ?_)
  refine lv_if_lt (tgt := 33) cx.1 cx.2.1 dX6_passMonth_26 (by decide) (fun c1 => ?_) (fun c1 => ?_)
  · refine lv_iconst (v := 0) cx.1 cx.2.1 dX6_passMonth_33 (by decide) ?_
    refine zThenVx (S' := g_X6_changeLevels (g_X2_closeMonth S (f_X1_allPlaced S) (f_X6_upkeep S)) 0) hS (zRunV (As := [.int 0]) (rest := []) _ 1 cx (c_X6_changeLevels l dC dI cyI ad hI (g_X2_closeMonth S (f_X1_allPlaced S) (f_X6_upkeep S)) 0) gX6_passMonth_X6_changeLevels rfl ⟨rfl, rfl⟩ (by decide +kernel) ⟨Nat.le_of_ble_eq_true rfl, Nat.le_of_ble_eq_true rfl⟩ (xN_X ad 36) hXs hK hP hS 0 rfl rfl rfl rfl hl.1 rfl (Nat.le_of_ble_eq_true rfl) dX6_passMonth_34 ⟨Nat.zero_le _, Nat.zero_le _⟩) (fun H locs hP hS => ?_)
    refine lv_aload_n cx.1 cx.2.1 dX6_passMonth_37 rfl (lv_at hl 0 rfl) ?_
    refine zGet (v := .ref (ad 3)) (own := RX6) cx hinX6 hK hP 0 rfl rfl 2 (by decide) (by decide +kernel) rfl rfl dX6_passMonth_38 ?_
    refine lv_aload_n cx.1 cx.2.1 dX6_passMonth_41 rfl (lv_at hl 0 rfl) ?_
    refine zGet (v := .ref (ad 1)) (own := RX6) cx hinX6 hK hP 0 rfl rfl 0 (by decide) (by decide +kernel) rfl rfl dX6_passMonth_42 ?_
    refine lv_aload_n cx.1 cx.2.1 dX6_passMonth_45 rfl (lv_at hl 0 rfl) ?_
    refine zGet (v := .ref (ad 2)) (own := RX6) cx hinX6 hK hP 0 rfl rfl 1 (by decide) (by decide +kernel) rfl rfl dX6_passMonth_46 ?_
    refine zThenVx (S' := g_X5_find (g_X6_changeLevels (g_X2_closeMonth S (f_X1_allPlaced S) (f_X6_upkeep S)) 0)) hS (zRunV (As := [.ref (ad 1), .ref (ad 2)]) (rest := []) _ 2 cx (c_X5_find l dC dI cyI ad hI (g_X6_changeLevels (g_X2_closeMonth S (f_X1_allPlaced S) (f_X6_upkeep S)) 0) ) gX6_passMonth_X5_find rfl ⟨rfl, rfl⟩ (by decide +kernel) ⟨Nat.le_of_ble_eq_true rfl, Nat.le_of_ble_eq_true rfl⟩ (xN_X ad 36) hXs hK hP hS 3 rfl rfl rfl rfl hl.1 rfl (Nat.le_of_ble_eq_true rfl) dX6_passMonth_49 ⟨Nat.zero_le _, Nat.zero_le _⟩) (fun H locs hP hS => ?_)
    refine lv_aload_n cx.1 cx.2.1 dX6_passMonth_52 rfl (lv_at hl 0 rfl) ?_
    refine zGet (v := .ref (ad 4)) (own := RX6) cx hinX6 hK hP 0 rfl rfl 3 (by decide) (by decide +kernel) rfl rfl dX6_passMonth_53 ?_
    refine lv_aload_n cx.1 cx.2.1 dX6_passMonth_56 rfl (lv_at hl 0 rfl) ?_
    refine zGet (v := .ref (ad 1)) (own := RX6) cx hinX6 hK hP 0 rfl rfl 0 (by decide) (by decide +kernel) rfl rfl dX6_passMonth_57 ?_
    refine lv_aload_n cx.1 cx.2.1 dX6_passMonth_60 rfl (lv_at hl 0 rfl) ?_
    refine zGet (v := .ref (ad 2)) (own := RX6) cx hinX6 hK hP 0 rfl rfl 1 (by decide) (by decide +kernel) rfl rfl dX6_passMonth_61 ?_
    refine zThenVx (S' := g_X1_find (g_X5_find (g_X6_changeLevels (g_X2_closeMonth S (f_X1_allPlaced S) (f_X6_upkeep S)) 0))) hS (zRunV (As := [.ref (ad 1), .ref (ad 2)]) (rest := []) _ 2 cx (c_X1_find l dC dI cyI ad hI (g_X5_find (g_X6_changeLevels (g_X2_closeMonth S (f_X1_allPlaced S) (f_X6_upkeep S)) 0)) ) gX6_passMonth_X1_find rfl ⟨rfl, rfl⟩ (by decide +kernel) ⟨Nat.le_of_ble_eq_true rfl, Nat.le_of_ble_eq_true rfl⟩ (xN_X ad 36) hXs hK hP hS 4 rfl rfl rfl rfl hl.1 rfl (Nat.le_of_ble_eq_true rfl) dX6_passMonth_64 ⟨Nat.zero_le _, Nat.zero_le _⟩) (fun H locs hP hS => ?_)
    exact zRetV cx hrt hlk hS hP (by unfold g_X6_passMonth; rw [if_pos c1]) dX6_passMonth_67
  · refine lv_iconst (v := 1) cx.1 cx.2.1 dX6_passMonth_29 (by decide) ?_
    refine lv_goto (tgt := 34) cx.1 cx.2.1 dX6_passMonth_30 (by decide) ?_
    refine zThenVx (S' := g_X6_changeLevels (g_X2_closeMonth S (f_X1_allPlaced S) (f_X6_upkeep S)) 1) hS (zRunV (As := [.int 1]) (rest := []) _ 1 cx (c_X6_changeLevels l dC dI cyI ad hI (g_X2_closeMonth S (f_X1_allPlaced S) (f_X6_upkeep S)) 1) gX6_passMonth_X6_changeLevels rfl ⟨rfl, rfl⟩ (by decide +kernel) ⟨Nat.le_of_ble_eq_true rfl, Nat.le_of_ble_eq_true rfl⟩ (xN_X ad 36) hXs hK hP hS 0 rfl rfl rfl rfl hl.1 rfl (Nat.le_of_ble_eq_true rfl) dX6_passMonth_34 ⟨Nat.zero_le _, Nat.zero_le _⟩) (fun H locs hP hS => ?_)
    refine lv_aload_n cx.1 cx.2.1 dX6_passMonth_37 rfl (lv_at hl 0 rfl) ?_
    refine zGet (v := .ref (ad 3)) (own := RX6) cx hinX6 hK hP 0 rfl rfl 2 (by decide) (by decide +kernel) rfl rfl dX6_passMonth_38 ?_
    refine lv_aload_n cx.1 cx.2.1 dX6_passMonth_41 rfl (lv_at hl 0 rfl) ?_
    refine zGet (v := .ref (ad 1)) (own := RX6) cx hinX6 hK hP 0 rfl rfl 0 (by decide) (by decide +kernel) rfl rfl dX6_passMonth_42 ?_
    refine lv_aload_n cx.1 cx.2.1 dX6_passMonth_45 rfl (lv_at hl 0 rfl) ?_
    refine zGet (v := .ref (ad 2)) (own := RX6) cx hinX6 hK hP 0 rfl rfl 1 (by decide) (by decide +kernel) rfl rfl dX6_passMonth_46 ?_
    refine zThenVx (S' := g_X5_find (g_X6_changeLevels (g_X2_closeMonth S (f_X1_allPlaced S) (f_X6_upkeep S)) 1)) hS (zRunV (As := [.ref (ad 1), .ref (ad 2)]) (rest := []) _ 2 cx (c_X5_find l dC dI cyI ad hI (g_X6_changeLevels (g_X2_closeMonth S (f_X1_allPlaced S) (f_X6_upkeep S)) 1) ) gX6_passMonth_X5_find rfl ⟨rfl, rfl⟩ (by decide +kernel) ⟨Nat.le_of_ble_eq_true rfl, Nat.le_of_ble_eq_true rfl⟩ (xN_X ad 36) hXs hK hP hS 3 rfl rfl rfl rfl hl.1 rfl (Nat.le_of_ble_eq_true rfl) dX6_passMonth_49 ⟨Nat.zero_le _, Nat.zero_le _⟩) (fun H locs hP hS => ?_)
    refine lv_aload_n cx.1 cx.2.1 dX6_passMonth_52 rfl (lv_at hl 0 rfl) ?_
    refine zGet (v := .ref (ad 4)) (own := RX6) cx hinX6 hK hP 0 rfl rfl 3 (by decide) (by decide +kernel) rfl rfl dX6_passMonth_53 ?_
    refine lv_aload_n cx.1 cx.2.1 dX6_passMonth_56 rfl (lv_at hl 0 rfl) ?_
    refine zGet (v := .ref (ad 1)) (own := RX6) cx hinX6 hK hP 0 rfl rfl 0 (by decide) (by decide +kernel) rfl rfl dX6_passMonth_57 ?_
    refine lv_aload_n cx.1 cx.2.1 dX6_passMonth_60 rfl (lv_at hl 0 rfl) ?_
    refine zGet (v := .ref (ad 2)) (own := RX6) cx hinX6 hK hP 0 rfl rfl 1 (by decide) (by decide +kernel) rfl rfl dX6_passMonth_61 ?_
    refine zThenVx (S' := g_X1_find (g_X5_find (g_X6_changeLevels (g_X2_closeMonth S (f_X1_allPlaced S) (f_X6_upkeep S)) 1))) hS (zRunV (As := [.ref (ad 1), .ref (ad 2)]) (rest := []) _ 2 cx (c_X1_find l dC dI cyI ad hI (g_X5_find (g_X6_changeLevels (g_X2_closeMonth S (f_X1_allPlaced S) (f_X6_upkeep S)) 1)) ) gX6_passMonth_X1_find rfl ⟨rfl, rfl⟩ (by decide +kernel) ⟨Nat.le_of_ble_eq_true rfl, Nat.le_of_ble_eq_true rfl⟩ (xN_X ad 36) hXs hK hP hS 4 rfl rfl rfl rfl hl.1 rfl (Nat.le_of_ble_eq_true rfl) dX6_passMonth_64 ⟨Nat.zero_le _, Nat.zero_le _⟩) (fun H locs hP hS => ?_)
    exact zRetV cx hrt hlk hS hP (by unfold g_X6_passMonth; rw [if_neg c1]) dX6_passMonth_67
