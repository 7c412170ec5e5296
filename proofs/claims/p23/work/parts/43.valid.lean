/-! THE CLASS asked about cells of the board: nothing is thrown, nothing is made -/

set_option maxHeartbeats 4000000 in
set_option maxRecDepth 100000 in
theorem cv_X6_requireCell (l : Launch) (dC : Nat → ClassId) (dI : Nat → Nat → Nat) (cyI : ClassId) (ad : Nat → Nat) (hI : zI ad 36) (S : zS) (nc : Nat) (hnc : nc < 64) : zMv l (dC, dI) [(cyI, .int)] ad 36 xN (cw cyI ad) yX6_requireCell wsX6_requireCell ({ frames := 6, cells := 0, slots := 0, locals := 90 } : Room) [.int (nI nc)] S (fun T => T = S) := by
  refine zStartV (by decide) rfl (Nat.le_of_ble_eq_true rfl) ?_
  intro p e s m args below meth c ls cx hrt hlk hP hK hXs hl
  have hl : lv_has ls 1 [(0, .int (nI nc))] := hl
  have hS : va_S (zA ad 36 s.heap.size) s.heap s.heap [] := va_S.rf
  refine lv_iload_n cx.1 cx.2.1 dX6_requireCell_0 rfl (lv_at hl 0 rfl) ?_
  refine lv_if_lt (tgt := 10) cx.1 cx.2.1 dX6_requireCell_1 (by decide) (fun c1 => ?_) (fun c1 => ?_)
  · have nc1 : nc < 0 := (nI_ltI (a := nc) (b := 0) (by first | decide | omega) (by first | decide | omega)).mp c1
    exact absurd nc1 (by omega)
  · have nc1 : ¬ nc < 0 := fun z => c1 ((nI_ltI (a := nc) (b := 0) (by first | decide | omega) (by first | decide | omega)).mpr z)
    refine lv_iload_n cx.1 cx.2.1 dX6_requireCell_4 rfl (lv_at hl 0 rfl) ?_
    refine lv_bipush (v := 64) cx.1 cx.2.1 dX6_requireCell_5 (by decide) ?_
    refine lv_icmp_lt (tgt := 20) cx.1 cx.2.1 dX6_requireCell_7 (by decide) (fun c2 => ?_) (fun c2 => ?_)
    · have nc2 : nc < 64 := (nI_ltI (a := nc) (b := 64) (by first | decide | omega) (by first | decide | omega)).mp c2
      exact zRetV cx hrt hlk hS hP rfl dX6_requireCell_20
    · have nc2 : ¬ nc < 64 := fun z => c2 ((nI_ltI (a := nc) (b := 64) (by first | decide | omega) (by first | decide | omega)).mpr z)
      exact absurd nc2 (by omega)


set_option maxHeartbeats 4000000 in
set_option maxRecDepth 100000 in
theorem cv_X6_kind (l : Launch) (dC : Nat → ClassId) (dI : Nat → Nat → Nat) (cyI : ClassId) (ad : Nat → Nat) (hI : zI ad 36) (S : zS) (nc : Nat) (hnc : nc < 64) : zMi l (dC, dI) [(cyI, .int)] ad 36 xN (cw cyI ad) yX6_kind wsX6_kind ({ frames := 7, cells := 0, slots := 0, locals := 110 } : Room) [.ref (ad 0), .int (nI nc)] S (fun v T => v = f_X6_kind S (nI nc) ∧ T = S) := by
  refine zStartI (by decide) rfl (Nat.le_of_ble_eq_true rfl) ?_
  intro p e s m args below meth c ls cx hrt hlk hP hK hXs hl
  have hl : lv_has ls 2 [(0, .ref (ad 0)), (1, .int (nI nc))] := hl
  have hS : va_S (zA ad 36 s.heap.size) s.heap s.heap [] := va_S.rf
  have hinX6 : ∀ w ∈ u_ws RX6 TX6 5, w ∈ wsX6_kind := by decide +kernel
  refine lv_iload_n cx.1 cx.2.1 dX6_kind_0 rfl (lv_at hl 1 rfl) ?_
  refine zThenVx (S' := S) hS (zRunS (As := [.int (nI nc)]) (rest := []) _ 1 cx (cv_X6_requireCell l dC dI cyI ad hI S nc (by omega)) gX6_kind_X6_requireCell rfl ⟨rfl, rfl⟩ (by decide +kernel) ⟨Nat.le_of_ble_eq_true rfl, Nat.le_of_ble_eq_true rfl⟩ (xN_X ad 36) hXs hK hP hS rfl hl.1 rfl (Nat.le_of_ble_eq_true rfl) dX6_kind_1 ⟨Nat.zero_le _, Nat.zero_le _⟩) (fun H locs hP hS => ?_)
  refine lv_aload_n cx.1 cx.2.1 dX6_kind_4 rfl (lv_at hl 0 rfl) ?_
  refine zGet (v := .ref (ad 1)) (own := RX6) cx hinX6 hK hP 0 rfl rfl 0 (by decide) (by decide +kernel) rfl rfl dX6_kind_5 ?_
  refine lv_iload_n cx.1 cx.2.1 dX6_kind_8 rfl (lv_at hl 1 rfl) ?_
  refine zThenIx (v := f_X0_kindOf S (nI nc)) (S' := S) hS (zRunV (As := [.int (nI nc)]) (rest := []) _ 1 cx (c_X0_kindOf l dC dI cyI ad hI S (nI nc)) gX6_kind_X0_kindOf rfl ⟨rfl, rfl⟩ (by decide +kernel) ⟨Nat.le_of_ble_eq_true rfl, Nat.le_of_ble_eq_true rfl⟩ (xN_X ad 36) hXs hK hP hS 1 rfl rfl rfl rfl hl.1 rfl (Nat.le_of_ble_eq_true rfl) dX6_kind_9 ⟨Nat.zero_le _, Nat.zero_le _⟩) (fun H locs hP hS => ?_)
  exact zRetI cx hrt hlk rfl hS hP ⟨(by unfold f_X6_kind; rfl), rfl⟩ dX6_kind_12


set_option maxHeartbeats 4000000 in
set_option maxRecDepth 100000 in
theorem cv_X6_level (l : Launch) (dC : Nat → ClassId) (dI : Nat → Nat → Nat) (cyI : ClassId) (ad : Nat → Nat) (hI : zI ad 36) (S : zS) (nc : Nat) (hnc : nc < 64) : zMi l (dC, dI) [(cyI, .int)] ad 36 xN (cw cyI ad) yX6_level wsX6_level ({ frames := 7, cells := 0, slots := 0, locals := 110 } : Room) [.ref (ad 0), .int (nI nc)] S (fun v T => v = f_X6_level S (nI nc) ∧ T = S) := by
  refine zStartI (by decide) rfl (Nat.le_of_ble_eq_true rfl) ?_
  intro p e s m args below meth c ls cx hrt hlk hP hK hXs hl
  have hl : lv_has ls 2 [(0, .ref (ad 0)), (1, .int (nI nc))] := hl
  have hS : va_S (zA ad 36 s.heap.size) s.heap s.heap [] := va_S.rf
  have hinX6 : ∀ w ∈ u_ws RX6 TX6 5, w ∈ wsX6_level := by decide +kernel
  refine lv_iload_n cx.1 cx.2.1 dX6_level_0 rfl (lv_at hl 1 rfl) ?_
  refine zThenVx (S' := S) hS (zRunS (As := [.int (nI nc)]) (rest := []) _ 1 cx (cv_X6_requireCell l dC dI cyI ad hI S nc (by omega)) gX6_level_X6_requireCell rfl ⟨rfl, rfl⟩ (by decide +kernel) ⟨Nat.le_of_ble_eq_true rfl, Nat.le_of_ble_eq_true rfl⟩ (xN_X ad 36) hXs hK hP hS rfl hl.1 rfl (Nat.le_of_ble_eq_true rfl) dX6_level_1 ⟨Nat.zero_le _, Nat.zero_le _⟩) (fun H locs hP hS => ?_)
  refine lv_aload_n cx.1 cx.2.1 dX6_level_4 rfl (lv_at hl 0 rfl) ?_
  refine zGet (v := .ref (ad 1)) (own := RX6) cx hinX6 hK hP 0 rfl rfl 0 (by decide) (by decide +kernel) rfl rfl dX6_level_5 ?_
  refine lv_iload_n cx.1 cx.2.1 dX6_level_8 rfl (lv_at hl 1 rfl) ?_
  refine zThenIx (v := f_X0_levelOf S (nI nc)) (S' := S) hS (zRunV (As := [.int (nI nc)]) (rest := []) _ 1 cx (c_X0_levelOf l dC dI cyI ad hI S (nI nc)) gX6_level_X0_levelOf rfl ⟨rfl, rfl⟩ (by decide +kernel) ⟨Nat.le_of_ble_eq_true rfl, Nat.le_of_ble_eq_true rfl⟩ (xN_X ad 36) hXs hK hP hS 1 rfl rfl rfl rfl hl.1 rfl (Nat.le_of_ble_eq_true rfl) dX6_level_9 ⟨Nat.zero_le _, Nat.zero_le _⟩) (fun H locs hP hS => ?_)
  exact zRetI cx hrt hlk rfl hS hP ⟨(by unfold f_X6_level; rfl), rfl⟩ dX6_level_12


set_option maxHeartbeats 4000000 in
set_option maxRecDepth 100000 in
theorem cv_X6_net (l : Launch) (dC : Nat → ClassId) (dI : Nat → Nat → Nat) (cyI : ClassId) (ad : Nat → Nat) (hI : zI ad 36) (S : zS) (nc : Nat) (hnc : nc < 64) : zMi l (dC, dI) [(cyI, .int)] ad 36 xN (cw cyI ad) yX6_net wsX6_net ({ frames := 7, cells := 0, slots := 0, locals := 110 } : Room) [.ref (ad 0), .int (nI nc)] S (fun v T => v = f_X6_net S (nI nc) ∧ T = S) := by
  refine zStartI (by decide) rfl (Nat.le_of_ble_eq_true rfl) ?_
  intro p e s m args below meth c ls cx hrt hlk hP hK hXs hl
  have hl : lv_has ls 2 [(0, .ref (ad 0)), (1, .int (nI nc))] := hl
  have hS : va_S (zA ad 36 s.heap.size) s.heap s.heap [] := va_S.rf
  have hinX6 : ∀ w ∈ u_ws RX6 TX6 5, w ∈ wsX6_net := by decide +kernel
  refine lv_iload_n cx.1 cx.2.1 dX6_net_0 rfl (lv_at hl 1 rfl) ?_
  refine zThenVx (S' := S) hS (zRunS (As := [.int (nI nc)]) (rest := []) _ 1 cx (cv_X6_requireCell l dC dI cyI ad hI S nc (by omega)) gX6_net_X6_requireCell rfl ⟨rfl, rfl⟩ (by decide +kernel) ⟨Nat.le_of_ble_eq_true rfl, Nat.le_of_ble_eq_true rfl⟩ (xN_X ad 36) hXs hK hP hS rfl hl.1 rfl (Nat.le_of_ble_eq_true rfl) dX6_net_1 ⟨Nat.zero_le _, Nat.zero_le _⟩) (fun H locs hP hS => ?_)
  refine lv_aload_n cx.1 cx.2.1 dX6_net_4 rfl (lv_at hl 0 rfl) ?_
  refine zGet (v := .ref (ad 2)) (own := RX6) cx hinX6 hK hP 0 rfl rfl 1 (by decide) (by decide +kernel) rfl rfl dX6_net_5 ?_
  refine lv_iload_n cx.1 cx.2.1 dX6_net_8 rfl (lv_at hl 1 rfl) ?_
  refine zThenIx (v := f_X3_netOf S (nI nc)) (S' := S) hS (zRunV (As := [.int (nI nc)]) (rest := []) _ 1 cx (c_X3_netOf l dC dI cyI ad hI S (nI nc)) gX6_net_X3_netOf rfl ⟨rfl, rfl⟩ (by decide +kernel) ⟨Nat.le_of_ble_eq_true rfl, Nat.le_of_ble_eq_true rfl⟩ (xN_X ad 36) hXs hK hP hS 2 rfl rfl rfl rfl hl.1 rfl (Nat.le_of_ble_eq_true rfl) dX6_net_9 ⟨Nat.zero_le _, Nat.zero_le _⟩) (fun H locs hP hS => ?_)
  exact zRetI cx hrt hlk rfl hS hP ⟨(by unfold f_X6_net; rfl), rfl⟩ dX6_net_12


set_option maxHeartbeats 4000000 in
set_option maxRecDepth 100000 in
theorem cv_X6_isServed (l : Launch) (dC : Nat → ClassId) (dI : Nat → Nat → Nat) (cyI : ClassId) (ad : Nat → Nat) (hI : zI ad 36) (S : zS) (nc : Nat) (hnc : nc < 64) : zMi l (dC, dI) [(cyI, .int)] ad 36 xN (cw cyI ad) yX6_isServed wsX6_isServed ({ frames := 7, cells := 0, slots := 0, locals := 110 } : Room) [.ref (ad 0), .int (nI nc)] S (fun v T => v = f_X6_isServed S (nI nc) ∧ T = S) := by
  refine zStartI (by decide) rfl (Nat.le_of_ble_eq_true rfl) ?_
  intro p e s m args below meth c ls cx hrt hlk hP hK hXs hl
  have hl : lv_has ls 2 [(0, .ref (ad 0)), (1, .int (nI nc))] := hl
  have hS : va_S (zA ad 36 s.heap.size) s.heap s.heap [] := va_S.rf
  have hinX6 : ∀ w ∈ u_ws RX6 TX6 5, w ∈ wsX6_isServed := by decide +kernel
  refine lv_iload_n cx.1 cx.2.1 dX6_isServed_0 rfl (lv_at hl 1 rfl) ?_
  refine zThenVx (S' := S) hS (zRunS (As := [.int (nI nc)]) (rest := []) _ 1 cx (cv_X6_requireCell l dC dI cyI ad hI S nc (by omega)) gX6_isServed_X6_requireCell rfl ⟨rfl, rfl⟩ (by decide +kernel) ⟨Nat.le_of_ble_eq_true rfl, Nat.le_of_ble_eq_true rfl⟩ (xN_X ad 36) hXs hK hP hS rfl hl.1 rfl (Nat.le_of_ble_eq_true rfl) dX6_isServed_1 ⟨Nat.zero_le _, Nat.zero_le _⟩) (fun H locs hP hS => ?_)
  refine lv_aload_n cx.1 cx.2.1 dX6_isServed_4 rfl (lv_at hl 0 rfl) ?_
  refine zGet (v := .ref (ad 3)) (own := RX6) cx hinX6 hK hP 0 rfl rfl 2 (by decide) (by decide +kernel) rfl rfl dX6_isServed_5 ?_
  refine lv_iload_n cx.1 cx.2.1 dX6_isServed_8 rfl (lv_at hl 1 rfl) ?_
  refine zThenIx (v := f_X5_serves S (nI nc)) (S' := S) hS (zRunV (As := [.int (nI nc)]) (rest := []) _ 1 cx (c_X5_serves l dC dI cyI ad hI S (nI nc)) gX6_isServed_X5_serves rfl ⟨rfl, rfl⟩ (by decide +kernel) ⟨Nat.le_of_ble_eq_true rfl, Nat.le_of_ble_eq_true rfl⟩ (xN_X ad 36) hXs hK hP hS 3 rfl rfl rfl rfl hl.1 rfl (Nat.le_of_ble_eq_true rfl) dX6_isServed_9 ⟨Nat.zero_le _, Nat.zero_le _⟩) (fun H locs hP hS => ?_)
  exact zRetI cx hrt hlk (by unfold f_X5_serves; (repeat' split) <;> rfl) hS hP ⟨(by unfold f_X6_isServed; rfl), rfl⟩ dX6_isServed_12


set_option maxHeartbeats 4000000 in
set_option maxRecDepth 100000 in
theorem cv_X6_placed (l : Launch) (dC : Nat → ClassId) (dI : Nat → Nat → Nat) (cyI : ClassId) (ad : Nat → Nat) (hI : zI ad 36) (S : zS) (nc : Nat) (hnc : nc < 64) : zMi l (dC, dI) [(cyI, .int)] ad 36 xN (cw cyI ad) yX6_placed wsX6_placed ({ frames := 7, cells := 0, slots := 0, locals := 110 } : Room) [.ref (ad 0), .int (nI nc)] S (fun v T => v = f_X6_placed S (nI nc) ∧ T = S) := by
  refine zStartI (by decide) rfl (Nat.le_of_ble_eq_true rfl) ?_
  intro p e s m args below meth c ls cx hrt hlk hP hK hXs hl
  have hl : lv_has ls 2 [(0, .ref (ad 0)), (1, .int (nI nc))] := hl
  have hS : va_S (zA ad 36 s.heap.size) s.heap s.heap [] := va_S.rf
  have hinX6 : ∀ w ∈ u_ws RX6 TX6 5, w ∈ wsX6_placed := by decide +kernel
  refine lv_iload_n cx.1 cx.2.1 dX6_placed_0 rfl (lv_at hl 1 rfl) ?_
  refine zThenVx (S' := S) hS (zRunS (As := [.int (nI nc)]) (rest := []) _ 1 cx (cv_X6_requireCell l dC dI cyI ad hI S nc (by omega)) gX6_placed_X6_requireCell rfl ⟨rfl, rfl⟩ (by decide +kernel) ⟨Nat.le_of_ble_eq_true rfl, Nat.le_of_ble_eq_true rfl⟩ (xN_X ad 36) hXs hK hP hS rfl hl.1 rfl (Nat.le_of_ble_eq_true rfl) dX6_placed_1 ⟨Nat.zero_le _, Nat.zero_le _⟩) (fun H locs hP hS => ?_)
  refine lv_aload_n cx.1 cx.2.1 dX6_placed_4 rfl (lv_at hl 0 rfl) ?_
  refine zGet (v := .ref (ad 4)) (own := RX6) cx hinX6 hK hP 0 rfl rfl 3 (by decide) (by decide +kernel) rfl rfl dX6_placed_5 ?_
  refine lv_iload_n cx.1 cx.2.1 dX6_placed_8 rfl (lv_at hl 1 rfl) ?_
  refine zThenIx (v := f_X1_placedAt S (nI nc)) (S' := S) hS (zRunV (As := [.int (nI nc)]) (rest := []) _ 1 cx (c_X1_placedAt l dC dI cyI ad hI S (nI nc)) gX6_placed_X1_placedAt rfl ⟨rfl, rfl⟩ (by decide +kernel) ⟨Nat.le_of_ble_eq_true rfl, Nat.le_of_ble_eq_true rfl⟩ (xN_X ad 36) hXs hK hP hS 4 rfl rfl rfl rfl hl.1 rfl (Nat.le_of_ble_eq_true rfl) dX6_placed_9 ⟨Nat.zero_le _, Nat.zero_le _⟩) (fun H locs hP hS => ?_)
  exact zRetI cx hrt hlk rfl hS hP ⟨(by unfold f_X6_placed; rfl), rfl⟩ dX6_placed_12


set_option maxHeartbeats 4000000 in
set_option maxRecDepth 100000 in
theorem cv_X6_traffic (l : Launch) (dC : Nat → ClassId) (dI : Nat → Nat → Nat) (cyI : ClassId) (ad : Nat → Nat) (hI : zI ad 36) (S : zS) (nc : Nat) (hnc : nc < 64) : zMi l (dC, dI) [(cyI, .int)] ad 36 xN (cw cyI ad) yX6_traffic wsX6_traffic ({ frames := 7, cells := 0, slots := 0, locals := 110 } : Room) [.ref (ad 0), .int (nI nc)] S (fun v T => v = f_X6_traffic S (nI nc) ∧ T = S) := by
  refine zStartI (by decide) rfl (Nat.le_of_ble_eq_true rfl) ?_
  intro p e s m args below meth c ls cx hrt hlk hP hK hXs hl
  have hl : lv_has ls 2 [(0, .ref (ad 0)), (1, .int (nI nc))] := hl
  have hS : va_S (zA ad 36 s.heap.size) s.heap s.heap [] := va_S.rf
  have hinX6 : ∀ w ∈ u_ws RX6 TX6 5, w ∈ wsX6_traffic := by decide +kernel
  refine lv_iload_n cx.1 cx.2.1 dX6_traffic_0 rfl (lv_at hl 1 rfl) ?_
  refine zThenVx (S' := S) hS (zRunS (As := [.int (nI nc)]) (rest := []) _ 1 cx (cv_X6_requireCell l dC dI cyI ad hI S nc (by omega)) gX6_traffic_X6_requireCell rfl ⟨rfl, rfl⟩ (by decide +kernel) ⟨Nat.le_of_ble_eq_true rfl, Nat.le_of_ble_eq_true rfl⟩ (xN_X ad 36) hXs hK hP hS rfl hl.1 rfl (Nat.le_of_ble_eq_true rfl) dX6_traffic_1 ⟨Nat.zero_le _, Nat.zero_le _⟩) (fun H locs hP hS => ?_)
  refine lv_aload_n cx.1 cx.2.1 dX6_traffic_4 rfl (lv_at hl 0 rfl) ?_
  refine zGet (v := .ref (ad 4)) (own := RX6) cx hinX6 hK hP 0 rfl rfl 3 (by decide) (by decide +kernel) rfl rfl dX6_traffic_5 ?_
  refine lv_iload_n cx.1 cx.2.1 dX6_traffic_8 rfl (lv_at hl 1 rfl) ?_
  refine zThenIx (v := f_X1_trafficOn S (nI nc)) (S' := S) hS (zRunV (As := [.int (nI nc)]) (rest := []) _ 1 cx (c_X1_trafficOn l dC dI cyI ad hI S (nI nc)) gX6_traffic_X1_trafficOn rfl ⟨rfl, rfl⟩ (by decide +kernel) ⟨Nat.le_of_ble_eq_true rfl, Nat.le_of_ble_eq_true rfl⟩ (xN_X ad 36) hXs hK hP hS 4 rfl rfl rfl rfl hl.1 rfl (Nat.le_of_ble_eq_true rfl) dX6_traffic_9 ⟨Nat.zero_le _, Nat.zero_le _⟩) (fun H locs hP hS => ?_)
  exact zRetI cx hrt hlk rfl hS hP ⟨(by unfold f_X6_traffic; rfl), rfl⟩ dX6_traffic_12


set_option maxHeartbeats 4000000 in
set_option maxRecDepth 100000 in
theorem cv_X6_value (l : Launch) (dC : Nat → ClassId) (dI : Nat → Nat → Nat) (cyI : ClassId) (ad : Nat → Nat) (hI : zI ad 36) (S : zS) (nc : Nat) (hnc : nc < 64) : zMi l (dC, dI) [(cyI, .int)] ad 36 xN (cw cyI ad) yX6_value wsX6_value ({ frames := 7, cells := 0, slots := 0, locals := 110 } : Room) [.ref (ad 0), .int (nI nc)] S (fun v T => v = f_X6_value S (nI nc) ∧ T = S) := by
  refine zStartI (by decide) rfl (Nat.le_of_ble_eq_true rfl) ?_
  intro p e s m args below meth c ls cx hrt hlk hP hK hXs hl
  have hl : lv_has ls 2 [(0, .ref (ad 0)), (1, .int (nI nc))] := hl
  have hS : va_S (zA ad 36 s.heap.size) s.heap s.heap [] := va_S.rf
  refine lv_iload_n cx.1 cx.2.1 dX6_value_0 rfl (lv_at hl 1 rfl) ?_
  refine zThenVx (S' := S) hS (zRunS (As := [.int (nI nc)]) (rest := []) _ 1 cx (cv_X6_requireCell l dC dI cyI ad hI S nc (by omega)) gX6_value_X6_requireCell rfl ⟨rfl, rfl⟩ (by decide +kernel) ⟨Nat.le_of_ble_eq_true rfl, Nat.le_of_ble_eq_true rfl⟩ (xN_X ad 36) hXs hK hP hS rfl hl.1 rfl (Nat.le_of_ble_eq_true rfl) dX6_value_1 ⟨Nat.zero_le _, Nat.zero_le _⟩) (fun H locs hP hS => ?_)
  refine lv_aload_n cx.1 cx.2.1 dX6_value_4 rfl (lv_at hl 0 rfl) ?_
  refine lv_iload_n cx.1 cx.2.1 dX6_value_5 rfl (lv_at hl 1 rfl) ?_
  refine zThenIx (v := f_X6_valueOf S (nI nc)) (S' := S) hS (zRunV (As := [.int (nI nc)]) (rest := []) _ 1 cx (c_X6_valueOf l dC dI cyI ad hI S (nI nc)) gX6_value_X6_valueOf rfl ⟨rfl, rfl⟩ (by decide +kernel) ⟨Nat.le_of_ble_eq_true rfl, Nat.le_of_ble_eq_true rfl⟩ (xN_X ad 36) hXs hK hP hS 0 rfl rfl rfl rfl hl.1 rfl (Nat.le_of_ble_eq_true rfl) dX6_value_6 ⟨Nat.zero_le _, Nat.zero_le _⟩) (fun H locs hP hS => ?_)
  exact zRetI cx hrt hlk rfl hS hP ⟨(by unfold f_X6_value; rfl), rfl⟩ dX6_value_9


set_option maxHeartbeats 4000000 in
set_option maxRecDepth 100000 in
theorem cv_X6_powerLeft (l : Launch) (dC : Nat → ClassId) (dI : Nat → Nat → Nat) (cyI : ClassId) (ad : Nat → Nat) (hI : zI ad 36) (S : zS) (nc : Nat) (hnc : nc < 64) : zMi l (dC, dI) [(cyI, .int)] ad 36 xN (cw cyI ad) yX6_powerLeft wsX6_powerLeft ({ frames := 7, cells := 0, slots := 0, locals := 110 } : Room) [.ref (ad 0), .int (nI nc)] S (fun v T => v = f_X6_powerLeft S (nI nc) ∧ T = S) := by
  refine zStartI (by decide) rfl (Nat.le_of_ble_eq_true rfl) ?_
  intro p e s m args below meth c ls cx hrt hlk hP hK hXs hl
  have hl : lv_has ls 3 [(0, .ref (ad 0)), (1, .int (nI nc))] := hl
  have hS : va_S (zA ad 36 s.heap.size) s.heap s.heap [] := va_S.rf
  have hinX6 : ∀ w ∈ u_ws RX6 TX6 5, w ∈ wsX6_powerLeft := by decide +kernel
  refine lv_iload_n cx.1 cx.2.1 dX6_powerLeft_0 rfl (lv_at hl 1 rfl) ?_
  refine zThenVx (S' := S) hS (zRunS (As := [.int (nI nc)]) (rest := []) _ 1 cx (cv_X6_requireCell l dC dI cyI ad hI S nc (by omega)) gX6_powerLeft_X6_requireCell rfl ⟨rfl, rfl⟩ (by decide +kernel) ⟨Nat.le_of_ble_eq_true rfl, Nat.le_of_ble_eq_true rfl⟩ (xN_X ad 36) hXs hK hP hS rfl hl.1 rfl (Nat.le_of_ble_eq_true rfl) dX6_powerLeft_1 ⟨Nat.zero_le _, Nat.zero_le _⟩) (fun H locs hP hS => ?_)
  refine lv_aload_n cx.1 cx.2.1 dX6_powerLeft_4 rfl (lv_at hl 0 rfl) ?_
  refine zGet (v := .ref (ad 2)) (own := RX6) cx hinX6 hK hP 0 rfl rfl 1 (by decide) (by decide +kernel) rfl rfl dX6_powerLeft_5 ?_
  refine lv_iload_n cx.1 cx.2.1 dX6_powerLeft_8 rfl (lv_at hl 1 rfl) ?_
  refine zThenIx (v := f_X3_netOf S (nI nc)) (S' := S) hS (zRunV (As := [.int (nI nc)]) (rest := []) _ 1 cx (c_X3_netOf l dC dI cyI ad hI S (nI nc)) gX6_powerLeft_X3_netOf rfl ⟨rfl, rfl⟩ (by decide +kernel) ⟨Nat.le_of_ble_eq_true rfl, Nat.le_of_ble_eq_true rfl⟩ (xN_X ad 36) hXs hK hP hS 2 rfl rfl rfl rfl hl.1 rfl (Nat.le_of_ble_eq_true rfl) dX6_powerLeft_9 ⟨Nat.zero_le _, Nat.zero_le _⟩) (fun H locs hP hS => ?_)
  refine lv_istore_n (lv' := [(2, .int (f_X3_netOf S (nI nc))), (0, .ref (ad 0)), (1, .int (nI nc))]) cx.1 cx.2.1 dX6_powerLeft_12 rfl hl (by decide) rfl (fun ls hl => ?_)
  refine lv_iload_n cx.1 cx.2.1 dX6_powerLeft_13 rfl (lv_at hl 0 rfl) ?_
  refine lv_iconst (v := (-1)) cx.1 cx.2.1 dX6_powerLeft_14 (by decide) ?_
  refine lv_icmp_ne (tgt := 22) cx.1 cx.2.1 dX6_powerLeft_15 (by decide) (fun c1 => ?_) (fun c1 => ?_)
  · refine lv_aload_n cx.1 cx.2.1 dX6_powerLeft_22 rfl (lv_at hl 1 rfl) ?_
    refine zGet (v := .ref (ad 3)) (own := RX6) cx hinX6 hK hP 0 rfl rfl 2 (by decide) (by decide +kernel) rfl rfl dX6_powerLeft_23 ?_
    refine lv_iload_n cx.1 cx.2.1 dX6_powerLeft_26 rfl (lv_at hl 0 rfl) ?_
    refine zThenIx (v := f_X5_powerOf S (f_X3_netOf S (nI nc))) (S' := S) hS (zRunV (As := [.int (f_X3_netOf S (nI nc))]) (rest := []) _ 1 cx (c_X5_powerOf l dC dI cyI ad hI S (f_X3_netOf S (nI nc))) gX6_powerLeft_X5_powerOf rfl ⟨rfl, rfl⟩ (by decide +kernel) ⟨Nat.le_of_ble_eq_true rfl, Nat.le_of_ble_eq_true rfl⟩ (xN_X ad 36) hXs hK hP hS 3 rfl rfl rfl rfl hl.1 rfl (Nat.le_of_ble_eq_true rfl) dX6_powerLeft_27 ⟨Nat.zero_le _, Nat.zero_le _⟩) (fun H locs hP hS => ?_)
    exact zRetI cx hrt hlk rfl hS hP ⟨(by unfold f_X6_powerLeft; rw [if_pos c1]), rfl⟩ dX6_powerLeft_30
  · refine lv_iconst (v := 0) cx.1 cx.2.1 dX6_powerLeft_18 (by decide) ?_
    refine lv_goto (tgt := 30) cx.1 cx.2.1 dX6_powerLeft_19 (by decide) ?_
    exact zRetI cx hrt hlk rfl hS hP ⟨(by unfold f_X6_powerLeft; rw [if_neg (not_not_intro c1)]), rfl⟩ dX6_powerLeft_30


set_option maxHeartbeats 4000000 in
set_option maxRecDepth 100000 in
theorem cv_X6_steps (l : Launch) (dC : Nat → ClassId) (dI : Nat → Nat → Nat) (cyI : ClassId) (ad : Nat → Nat) (hI : zI ad 36) (S : zS) (na : Nat) (nb : Nat) (hna : na < 64) (hnb : nb < 64) : zMi l (dC, dI) [(cyI, .int)] ad 36 xN (cw cyI ad) yX6_steps wsX6_steps ({ frames := 7, cells := 0, slots := 0, locals := 110 } : Room) [.ref (ad 0), .int (nI na), .int (nI nb)] S (fun v T => v = f_X6_steps S (nI na) (nI nb) ∧ T = S) := by
  refine zStartI (by decide) rfl (Nat.le_of_ble_eq_true rfl) ?_
  intro p e s m args below meth c ls cx hrt hlk hP hK hXs hl
  have hl : lv_has ls 3 [(0, .ref (ad 0)), (1, .int (nI na)), (2, .int (nI nb))] := hl
  have hS : va_S (zA ad 36 s.heap.size) s.heap s.heap [] := va_S.rf
  have hinX6 : ∀ w ∈ u_ws RX6 TX6 5, w ∈ wsX6_steps := by decide +kernel
  refine lv_iload_n cx.1 cx.2.1 dX6_steps_0 rfl (lv_at hl 1 rfl) ?_
  refine zThenVx (S' := S) hS (zRunS (As := [.int (nI na)]) (rest := []) _ 1 cx (cv_X6_requireCell l dC dI cyI ad hI S na (by omega)) gX6_steps_X6_requireCell rfl ⟨rfl, rfl⟩ (by decide +kernel) ⟨Nat.le_of_ble_eq_true rfl, Nat.le_of_ble_eq_true rfl⟩ (xN_X ad 36) hXs hK hP hS rfl hl.1 rfl (Nat.le_of_ble_eq_true rfl) dX6_steps_1 ⟨Nat.zero_le _, Nat.zero_le _⟩) (fun H locs hP hS => ?_)
  refine lv_iload_n cx.1 cx.2.1 dX6_steps_4 rfl (lv_at hl 2 rfl) ?_
  refine zThenVx (S' := S) hS (zRunS (As := [.int (nI nb)]) (rest := []) _ 1 cx (cv_X6_requireCell l dC dI cyI ad hI S nb (by omega)) gX6_steps_X6_requireCell rfl ⟨rfl, rfl⟩ (by decide +kernel) ⟨Nat.le_of_ble_eq_true rfl, Nat.le_of_ble_eq_true rfl⟩ (xN_X ad 36) hXs hK hP hS rfl hl.1 rfl (Nat.le_of_ble_eq_true rfl) dX6_steps_5 ⟨Nat.zero_le _, Nat.zero_le _⟩) (fun H locs hP hS => ?_)
  refine lv_aload_n cx.1 cx.2.1 dX6_steps_8 rfl (lv_at hl 0 rfl) ?_
  refine zGet (v := .ref (ad 2)) (own := RX6) cx hinX6 hK hP 0 rfl rfl 1 (by decide) (by decide +kernel) rfl rfl dX6_steps_9 ?_
  refine lv_iload_n cx.1 cx.2.1 dX6_steps_12 rfl (lv_at hl 1 rfl) ?_
  refine lv_iload_n cx.1 cx.2.1 dX6_steps_13 rfl (lv_at hl 2 rfl) ?_
  refine zThenIx (v := f_X3_between S (nI na) (nI nb)) (S' := S) hS (zRunV (As := [.int (nI na), .int (nI nb)]) (rest := []) _ 2 cx (c_X3_between l dC dI cyI ad hI S (nI na) (nI nb)) gX6_steps_X3_between rfl ⟨rfl, rfl⟩ (by decide +kernel) ⟨Nat.le_of_ble_eq_true rfl, Nat.le_of_ble_eq_true rfl⟩ (xN_X ad 36) hXs hK hP hS 2 rfl rfl rfl rfl hl.1 rfl (Nat.le_of_ble_eq_true rfl) dX6_steps_14 ⟨Nat.zero_le _, Nat.zero_le _⟩) (fun H locs hP hS => ?_)
  exact zRetI cx hrt hlk rfl hS hP ⟨(by unfold f_X6_steps; rfl), rfl⟩ dX6_steps_17


set_option maxHeartbeats 4000000 in
set_option maxRecDepth 100000 in
theorem cv_X6_going (l : Launch) (dC : Nat → ClassId) (dI : Nat → Nat → Nat) (cyI : ClassId) (ad : Nat → Nat) (hI : zI ad 36) (S : zS) (nh : Nat) (nt : Nat) (hnh : nh < 64) (hnt : nt < 64) : zMi l (dC, dI) [(cyI, .int)] ad 36 xN (cw cyI ad) yX6_going wsX6_going ({ frames := 7, cells := 0, slots := 0, locals := 110 } : Room) [.ref (ad 0), .int (nI nh), .int (nI nt)] S (fun v T => v = f_X6_going S (nI nh) (nI nt) ∧ T = S) := by
  refine zStartI (by decide) rfl (Nat.le_of_ble_eq_true rfl) ?_
  intro p e s m args below meth c ls cx hrt hlk hP hK hXs hl
  have hl : lv_has ls 3 [(0, .ref (ad 0)), (1, .int (nI nh)), (2, .int (nI nt))] := hl
  have hS : va_S (zA ad 36 s.heap.size) s.heap s.heap [] := va_S.rf
  have hinX6 : ∀ w ∈ u_ws RX6 TX6 5, w ∈ wsX6_going := by decide +kernel
  refine lv_iload_n cx.1 cx.2.1 dX6_going_0 rfl (lv_at hl 1 rfl) ?_
  refine zThenVx (S' := S) hS (zRunS (As := [.int (nI nh)]) (rest := []) _ 1 cx (cv_X6_requireCell l dC dI cyI ad hI S nh (by omega)) gX6_going_X6_requireCell rfl ⟨rfl, rfl⟩ (by decide +kernel) ⟨Nat.le_of_ble_eq_true rfl, Nat.le_of_ble_eq_true rfl⟩ (xN_X ad 36) hXs hK hP hS rfl hl.1 rfl (Nat.le_of_ble_eq_true rfl) dX6_going_1 ⟨Nat.zero_le _, Nat.zero_le _⟩) (fun H locs hP hS => ?_)
  refine lv_iload_n cx.1 cx.2.1 dX6_going_4 rfl (lv_at hl 2 rfl) ?_
  refine zThenVx (S' := S) hS (zRunS (As := [.int (nI nt)]) (rest := []) _ 1 cx (cv_X6_requireCell l dC dI cyI ad hI S nt (by omega)) gX6_going_X6_requireCell rfl ⟨rfl, rfl⟩ (by decide +kernel) ⟨Nat.le_of_ble_eq_true rfl, Nat.le_of_ble_eq_true rfl⟩ (xN_X ad 36) hXs hK hP hS rfl hl.1 rfl (Nat.le_of_ble_eq_true rfl) dX6_going_5 ⟨Nat.zero_le _, Nat.zero_le _⟩) (fun H locs hP hS => ?_)
  refine lv_aload_n cx.1 cx.2.1 dX6_going_8 rfl (lv_at hl 0 rfl) ?_
  refine zGet (v := .ref (ad 4)) (own := RX6) cx hinX6 hK hP 0 rfl rfl 3 (by decide) (by decide +kernel) rfl rfl dX6_going_9 ?_
  refine lv_iload_n cx.1 cx.2.1 dX6_going_12 rfl (lv_at hl 1 rfl) ?_
  refine lv_iload_n cx.1 cx.2.1 dX6_going_13 rfl (lv_at hl 2 rfl) ?_
  refine zThenIx (v := f_X1_goingBetween S (nI nh) (nI nt)) (S' := S) hS (zRunV (As := [.int (nI nh), .int (nI nt)]) (rest := []) _ 2 cx (c_X1_goingBetween l dC dI cyI ad hI S (nI nh) (nI nt)) gX6_going_X1_goingBetween rfl ⟨rfl, rfl⟩ (by decide +kernel) ⟨Nat.le_of_ble_eq_true rfl, Nat.le_of_ble_eq_true rfl⟩ (xN_X ad 36) hXs hK hP hS 4 rfl rfl rfl rfl hl.1 rfl (Nat.le_of_ble_eq_true rfl) dX6_going_14 ⟨Nat.zero_le _, Nat.zero_le _⟩) (fun H locs hP hS => ?_)
  exact zRetI cx hrt hlk rfl hS hP ⟨(by unfold f_X6_going; rfl), rfl⟩ dX6_going_17

