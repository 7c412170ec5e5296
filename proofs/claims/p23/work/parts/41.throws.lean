def t_X6_requireCell  (xc : Int32) : Option String := if xc < 0 then (some xIO) else (if xc < 64 then none else (some xIO))
set_option maxHeartbeats 4000000 in
set_option maxRecDepth 100000 in
theorem c_X6_requireCell (l : Launch) (dC : Nat → ClassId) (dI : Nat → Nat → Nat) (cyI : ClassId) (ad : Nat → Nat) (hI : zI ad 36) (hlf : l.stackTraces = false) (S : zS) (xc : Int32) : xMv l (dC, dI) [(cyI, .int)] ad 36 (cw cyI ad) yX6_requireCell wsX6_requireCell ({ frames := 6, cells := 1, slots := 6, locals := 90 } : Room) [.int xc] S 1 6 (fun T => T = S ∧ t_X6_requireCell xc = none) (t_X6_requireCell xc) := by
  refine xStartV (by decide) rfl (Nat.le_of_ble_eq_true rfl) ?_
  intro p e s m args below meth c ls cx hrt hlk hex hP hK hXs hl
  have hl : lv_has ls 1 [(0, .int xc)] := hl
  have hS : va_S (zA ad 36 s.heap.size) s.heap s.heap [] := va_S.rf
  refine lv_iload_n cx.1 cx.2.1 dX6_requireCell_0 rfl (lv_at hl 0 rfl) ?_
  refine lv_if_lt (tgt := 10) cx.1 cx.2.1 dX6_requireCell_1 (by decide) (fun c1 => ?_) (fun c1 => ?_)
  · exact xThrow (text := "no such cell") (cls := xIO) (ik := 117) (is := 152) (ic := 121) cx hlf hex hlk hXs rfl (by decide +kernel) (by decide +kernel) (by decide +kernel) (by decide +kernel) (by decide +kernel) (by decide +kernel) (by decide +kernel) (by decide +kernel) hS hP hl.1 (by unfold t_X6_requireCell; rw [if_pos c1]) dX6_requireCell_10 dX6_requireCell_13 dX6_requireCell_14 dX6_requireCell_16 dX6_requireCell_19 ⟨Nat.le_of_ble_eq_true rfl, Nat.le_of_ble_eq_true rfl, Nat.le_of_ble_eq_true rfl, Nat.le_of_ble_eq_true rfl⟩ ⟨Nat.le_of_ble_eq_true rfl, Nat.le_of_ble_eq_true rfl⟩
  · refine lv_iload_n cx.1 cx.2.1 dX6_requireCell_4 rfl (lv_at hl 0 rfl) ?_
    refine lv_bipush (v := 64) cx.1 cx.2.1 dX6_requireCell_5 (by decide) ?_
    refine lv_icmp_lt (tgt := 20) cx.1 cx.2.1 dX6_requireCell_7 (by decide) (fun c2 => ?_) (fun c2 => ?_)
    · refine vx_ret (W.widen (k := 1) (n := 6) (Nat.le_of_ble_eq_true rfl) (Nat.le_of_ble_eq_true rfl) ?_)
      exact zRetV cx hrt hlk hS hP ⟨rfl, (by unfold t_X6_requireCell; rw [if_neg c1, if_pos c2])⟩ dX6_requireCell_20
    · exact xThrow (text := "no such cell") (cls := xIO) (ik := 117) (is := 152) (ic := 121) cx hlf hex hlk hXs rfl (by decide +kernel) (by decide +kernel) (by decide +kernel) (by decide +kernel) (by decide +kernel) (by decide +kernel) (by decide +kernel) (by decide +kernel) hS hP hl.1 (by unfold t_X6_requireCell; rw [if_neg c1, if_neg c2]) dX6_requireCell_10 dX6_requireCell_13 dX6_requireCell_14 dX6_requireCell_16 dX6_requireCell_19 ⟨Nat.le_of_ble_eq_true rfl, Nat.le_of_ble_eq_true rfl, Nat.le_of_ble_eq_true rfl, Nat.le_of_ble_eq_true rfl⟩ ⟨Nat.le_of_ble_eq_true rfl, Nat.le_of_ble_eq_true rfl⟩
