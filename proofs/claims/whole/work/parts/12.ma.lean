def f_X7_isIn  (xv : Int32) (xa : Int32) (xb : Int32) : Int32 := if xv < xa then 0 else (if xb < xv then 0 else (1))
set_option maxHeartbeats 4000000 in
set_option maxRecDepth 100000 in
theorem c_X7_isIn (l : Launch) (dC : Nat → ClassId) (dI : Nat → Nat → Nat) (cyI cyZ : ClassId) (ad : Nat → Nat) (hI : zI ad 14) (S : zS) (xv : Int32) (xa : Int32) (xb : Int32) : zMi l (dC, dI) [(cyI, .int), (cyZ, .boolean)] ad 14 (fun _ _ => True) (mw cyI cyZ ad) yX7_isIn wsX7_isIn ({ frames := 0, cells := 0, slots := 0, locals := 0 } : Room) [.int xv, .int xa, .int xb] S (fun v T => v = f_X7_isIn xv xa xb ∧ T = S) := by
  refine zStartI (by decide) rfl (Nat.le_of_ble_eq_true rfl) ?_
  intro p e s m args below meth c ls cx hrt hlk hP hK hXs hl
  have hl : lv_has ls 3 [(0, .int xv), (1, .int xa), (2, .int xb)] := hl
  have hS : va_S (zA ad 14 s.heap.size) s.heap s.heap [] := va_S.rf
  refine lv_iload_n cx.1 cx.2.1 dX7_isIn_0 rfl (lv_at hl 0 rfl) ?_
  refine lv_iload_n cx.1 cx.2.1 dX7_isIn_1 rfl (lv_at hl 1 rfl) ?_
  refine lv_icmp_lt (tgt := 14) cx.1 cx.2.1 dX7_isIn_2 (by decide) (fun c1 => ?_) (fun c1 => ?_)
  · refine lv_iconst (v := 0) cx.1 cx.2.1 dX7_isIn_14 (by decide) ?_
    exact zRetI cx hrt hlk (by first | rfl | decide) hS hP ⟨(by unfold f_X7_isIn; rw [if_pos c1]), rfl⟩ dX7_isIn_15
  · refine lv_iload_n cx.1 cx.2.1 dX7_isIn_5 rfl (lv_at hl 0 rfl) ?_
    refine lv_iload_n cx.1 cx.2.1 dX7_isIn_6 rfl (lv_at hl 2 rfl) ?_
    refine lv_icmp_gt (tgt := 14) cx.1 cx.2.1 dX7_isIn_7 (by decide) (fun c2 => ?_) (fun c2 => ?_)
    · refine lv_iconst (v := 0) cx.1 cx.2.1 dX7_isIn_14 (by decide) ?_
      exact zRetI cx hrt hlk (by first | rfl | decide) hS hP ⟨(by unfold f_X7_isIn; rw [if_neg c1, if_pos c2]), rfl⟩ dX7_isIn_15
    · refine lv_iconst (v := 1) cx.1 cx.2.1 dX7_isIn_10 (by decide) ?_
      refine lv_goto (tgt := 15) cx.1 cx.2.1 dX7_isIn_11 (by decide) ?_
      exact zRetI cx hrt hlk (by first | rfl | decide) hS hP ⟨(by unfold f_X7_isIn; rw [if_neg c1, if_neg c2]), rfl⟩ dX7_isIn_15

def f_X7_isCell  (xi : Int32) : Int32 := f_X7_isIn xi 0 63
set_option maxHeartbeats 4000000 in
set_option maxRecDepth 100000 in
theorem c_X7_isCell (l : Launch) (dC : Nat → ClassId) (dI : Nat → Nat → Nat) (cyI cyZ : ClassId) (ad : Nat → Nat) (hI : zI ad 14) (S : zS) (xi : Int32) : zMi l (dC, dI) [(cyI, .int), (cyZ, .boolean)] ad 14 (fun _ _ => True) (mw cyI cyZ ad) yX7_isCell wsX7_isCell ({ frames := 1, cells := 0, slots := 0, locals := 22 } : Room) [.int xi] S (fun v T => v = f_X7_isCell xi ∧ T = S) := by
  refine zStartI (by decide) rfl (Nat.le_of_ble_eq_true rfl) ?_
  intro p e s m args below meth c ls cx hrt hlk hP hK hXs hl
  have hl : lv_has ls 1 [(0, .int xi)] := hl
  have hS : va_S (zA ad 14 s.heap.size) s.heap s.heap [] := va_S.rf
  refine lv_iload_n cx.1 cx.2.1 dX7_isCell_0 rfl (lv_at hl 0 rfl) ?_
  refine lv_iconst (v := 0) cx.1 cx.2.1 dX7_isCell_1 (by decide) ?_
  refine lv_bipush (v := 63) cx.1 cx.2.1 dX7_isCell_2 (by decide) ?_
  refine zThenIx (v := f_X7_isIn xi 0 63) (S' := S) hS (zRunS (As := [.int xi, .int 0, .int 63]) (rest := []) _ 3 cx (c_X7_isIn l dC dI cyI cyZ ad hI S xi 0 63) gX7_isCell_X7_isIn rfl ⟨rfl, rfl⟩ (by decide +kernel) ⟨Nat.le_of_ble_eq_true rfl, Nat.le_of_ble_eq_true rfl⟩ (zX_true) trivial hK hP hS rfl hl.1 rfl (Nat.le_of_ble_eq_true rfl) dX7_isCell_4 ⟨Nat.zero_le _, Nat.zero_le _⟩) (fun H locs hP hS => ?_)
  exact zRetI cx hrt hlk (by first | rfl | (unfold f_X7_isIn; (repeat' split) <;> rfl)) hS hP ⟨(by unfold f_X7_isCell; rfl), rfl⟩ dX7_isCell_7

def f_X7_isZone (S : zS) (ni : Nat) : Int32 := if (S 0 ni) = 2 then 1 else (if ¬ (S 0 ni) = 3 then 0 else (1))
set_option maxHeartbeats 4000000 in
set_option maxRecDepth 100000 in
theorem c_X7_isZone (l : Launch) (dC : Nat → ClassId) (dI : Nat → Nat → Nat) (cyI cyZ : ClassId) (ad : Nat → Nat) (hI : zI ad 14) (S : zS) (ni : Nat) (hni : ni < 64) : zMi l (dC, dI) [(cyI, .int), (cyZ, .boolean)] ad 14 (fun _ _ => True) (mw cyI cyZ ad) yX7_isZone wsX7_isZone ({ frames := 0, cells := 0, slots := 0, locals := 0 } : Room) [.ref (ad 0), .int (nI ni)] S (fun v T => v = f_X7_isZone S ni ∧ T = S) := by
  refine zStartI (by decide) rfl (Nat.le_of_ble_eq_true rfl) ?_
  intro p e s m args below meth c ls cx hrt hlk hP hK hXs hl
  have hl : lv_has ls 2 [(0, .ref (ad 0)), (1, .int (nI ni))] := hl
  have hS : va_S (zA ad 14 s.heap.size) s.heap s.heap [] := va_S.rf
  have hinX7 : ∀ w ∈ u_ws RX7 TX7 19, w ∈ wsX7_isZone := by decide +kernel
  refine lv_aload_n cx.1 cx.2.1 dX7_isZone_0 rfl (lv_at hl 0 rfl) ?_
  refine zGet (v := .ref (ad 1)) (own := RX7) cx hinX7 hK hP 0 rfl rfl 5 (by decide) (by decide +kernel) rfl rfl dX7_isZone_1 ?_
  refine lv_iload_n cx.1 cx.2.1 dX7_isZone_4 rfl (lv_at hl 1 rfl) ?_
  refine zIldN cx hK hP 1 0 rfl rfl (ni) (by omega) (by decide) rfl dX7_isZone_5 ?_
  refine lv_iconst (v := 2) cx.1 cx.2.1 dX7_isZone_6 (by decide) ?_
  refine lv_icmp_eq (tgt := 20) cx.1 cx.2.1 dX7_isZone_7 (by decide) (fun c1 => ?_) (fun c1 => ?_)
  · refine lv_iconst (v := 1) cx.1 cx.2.1 dX7_isZone_20 (by decide) ?_
    refine lv_goto (tgt := 25) cx.1 cx.2.1 dX7_isZone_21 (by decide) ?_
    exact zRetI cx hrt hlk (by first | rfl | decide) hS hP ⟨(by unfold f_X7_isZone; rw [if_pos c1]), rfl⟩ dX7_isZone_25
  · refine lv_aload_n cx.1 cx.2.1 dX7_isZone_10 rfl (lv_at hl 0 rfl) ?_
    refine zGet (v := .ref (ad 1)) (own := RX7) cx hinX7 hK hP 0 rfl rfl 5 (by decide) (by decide +kernel) rfl rfl dX7_isZone_11 ?_
    refine lv_iload_n cx.1 cx.2.1 dX7_isZone_14 rfl (lv_at hl 1 rfl) ?_
    refine zIldN cx hK hP 1 0 rfl rfl (ni) (by omega) (by decide) rfl dX7_isZone_15 ?_
    refine lv_iconst (v := 3) cx.1 cx.2.1 dX7_isZone_16 (by decide) ?_
    refine lv_icmp_ne (tgt := 24) cx.1 cx.2.1 dX7_isZone_17 (by decide) (fun c2 => ?_) (fun c2 => ?_)
    · refine lv_iconst (v := 0) cx.1 cx.2.1 dX7_isZone_24 (by decide) ?_
      exact zRetI cx hrt hlk (by first | rfl | decide) hS hP ⟨(by unfold f_X7_isZone; rw [if_neg c1, if_pos c2]), rfl⟩ dX7_isZone_25
    · refine lv_iconst (v := 1) cx.1 cx.2.1 dX7_isZone_20 (by decide) ?_
      refine lv_goto (tgt := 25) cx.1 cx.2.1 dX7_isZone_21 (by decide) ?_
      exact zRetI cx hrt hlk (by first | rfl | decide) hS hP ⟨(by unfold f_X7_isZone; rw [if_neg c1, if_neg (not_not_intro c2)]), rfl⟩ dX7_isZone_25

def f_X7_neighbour  (xa : Int32) (xb : Int32) : Int32 := if ¬ xb = 0 then (if ¬ xb = 1 then (if ¬ xb = 2 then (if ¬ (xa / 8) = 7 then xa + 8 else ((-1))) else (if ¬ (xa - xa / 8 * 8) = 7 then xa + 1 else ((-1)))) else (if ¬ (xa - xa / 8 * 8) = 0 then xa - 1 else ((-1)))) else (if ¬ (xa / 8) = 0 then xa - 8 else ((-1)))
set_option maxHeartbeats 4000000 in
set_option maxRecDepth 100000 in
theorem c_X7_neighbour (l : Launch) (dC : Nat → ClassId) (dI : Nat → Nat → Nat) (cyI cyZ : ClassId) (ad : Nat → Nat) (hI : zI ad 14) (S : zS) (xa : Int32) (xb : Int32) : zMi l (dC, dI) [(cyI, .int), (cyZ, .boolean)] ad 14 (fun _ _ => True) (mw cyI cyZ ad) yX7_neighbour wsX7_neighbour ({ frames := 0, cells := 0, slots := 0, locals := 0 } : Room) [.int xa, .int xb] S (fun v T => v = f_X7_neighbour xa xb ∧ T = S) := by
  refine zStartI (by decide) rfl (Nat.le_of_ble_eq_true rfl) ?_
  intro p e s m args below meth c ls cx hrt hlk hP hK hXs hl
  have hl : lv_has ls 4 [(0, .int xa), (1, .int xb)] := hl
  have hS : va_S (zA ad 14 s.heap.size) s.heap s.heap [] := va_S.rf
  refine lv_iload_n cx.1 cx.2.1 dX7_neighbour_0 rfl (lv_at hl 0 rfl) ?_
  refine lv_bipush (v := 8) cx.1 cx.2.1 dX7_neighbour_1 (by decide) ?_
  refine lv_idiv cx.1 cx.2.1 dX7_neighbour_3 (by decide) ?_
  refine lv_istore_n (lv' := [(2, .int (xa / 8)), (0, .int xa), (1, .int xb)]) cx.1 cx.2.1 dX7_neighbour_4 rfl hl (by decide) rfl (fun ls hl => ?_)
  refine lv_iload_n cx.1 cx.2.1 dX7_neighbour_5 rfl (lv_at hl 1 rfl) ?_
  refine lv_bipush (v := 8) cx.1 cx.2.1 dX7_neighbour_6 (by decide) ?_
  refine lv_irem cx.1 cx.2.1 dX7_neighbour_8 (by decide) ?_
  refine lv_istore_n (lv' := [(3, .int (xa - xa / 8 * 8)), (2, .int (xa / 8)), (0, .int xa), (1, .int xb)]) cx.1 cx.2.1 dX7_neighbour_9 rfl hl (by decide) rfl (fun ls hl => ?_)
  refine lv_iload_n cx.1 cx.2.1 dX7_neighbour_10 rfl (lv_at hl 3 rfl) ?_
  refine lv_if_ne (tgt := 27) cx.1 cx.2.1 dX7_neighbour_11 (by decide) (fun c1 => ?_) (fun c1 => ?_)
  · refine lv_iload_n cx.1 cx.2.1 dX7_neighbour_27 rfl (lv_at hl 3 rfl) ?_
    refine lv_iconst (v := 1) cx.1 cx.2.1 dX7_neighbour_28 (by decide) ?_
    refine lv_icmp_ne (tgt := 44) cx.1 cx.2.1 dX7_neighbour_29 (by decide) (fun c2 => ?_) (fun c2 => ?_)
    · refine lv_iload_n cx.1 cx.2.1 dX7_neighbour_44 rfl (lv_at hl 3 rfl) ?_
      refine lv_iconst (v := 2) cx.1 cx.2.1 dX7_neighbour_45 (by decide) ?_
      refine lv_icmp_ne (tgt := 63) cx.1 cx.2.1 dX7_neighbour_46 (by decide) (fun c3 => ?_) (fun c3 => ?_)
      · refine lv_iload_n cx.1 cx.2.1 dX7_neighbour_63 rfl (lv_at hl 1 rfl) ?_
        refine lv_bipush (v := 7) cx.1 cx.2.1 dX7_neighbour_64 (by decide) ?_
        refine lv_icmp_ne (tgt := 73) cx.1 cx.2.1 dX7_neighbour_66 (by decide) (fun c4 => ?_) (fun c4 => ?_)
        · refine lv_iload_n cx.1 cx.2.1 dX7_neighbour_73 rfl (lv_at hl 2 rfl) ?_
          refine lv_bipush (v := 8) cx.1 cx.2.1 dX7_neighbour_74 (by decide) ?_
          refine lv_iadd cx.1 cx.2.1 dX7_neighbour_76 ?_
          exact zRetI cx hrt hlk rfl hS hP ⟨(by unfold f_X7_neighbour; rw [if_pos c1, if_pos c2, if_pos c3, if_pos c4]), rfl⟩ dX7_neighbour_77
        · refine lv_iconst (v := (-1)) cx.1 cx.2.1 dX7_neighbour_69 (by decide) ?_
          refine lv_goto (tgt := 77) cx.1 cx.2.1 dX7_neighbour_70 (by decide) ?_
          exact zRetI cx hrt hlk rfl hS hP ⟨(by unfold f_X7_neighbour; rw [if_pos c1, if_pos c2, if_pos c3, if_neg (not_not_intro c4)]), rfl⟩ dX7_neighbour_77
      · refine lv_iload_n cx.1 cx.2.1 dX7_neighbour_49 rfl (lv_at hl 0 rfl) ?_
        refine lv_bipush (v := 7) cx.1 cx.2.1 dX7_neighbour_50 (by decide) ?_
        refine lv_icmp_ne (tgt := 59) cx.1 cx.2.1 dX7_neighbour_52 (by decide) (fun c5 => ?_) (fun c5 => ?_)
        · refine lv_iload_n cx.1 cx.2.1 dX7_neighbour_59 rfl (lv_at hl 2 rfl) ?_
          refine lv_iconst (v := 1) cx.1 cx.2.1 dX7_neighbour_60 (by decide) ?_
          refine lv_iadd cx.1 cx.2.1 dX7_neighbour_61 ?_
          exact zRetI cx hrt hlk rfl hS hP ⟨(by unfold f_X7_neighbour; rw [if_pos c1, if_pos c2, if_neg (not_not_intro c3), if_pos c5]), rfl⟩ dX7_neighbour_62
        · refine lv_iconst (v := (-1)) cx.1 cx.2.1 dX7_neighbour_55 (by decide) ?_
          refine lv_goto (tgt := 62) cx.1 cx.2.1 dX7_neighbour_56 (by decide) ?_
          exact zRetI cx hrt hlk rfl hS hP ⟨(by unfold f_X7_neighbour; rw [if_pos c1, if_pos c2, if_neg (not_not_intro c3), if_neg (not_not_intro c5)]), rfl⟩ dX7_neighbour_62
    · refine lv_iload_n cx.1 cx.2.1 dX7_neighbour_32 rfl (lv_at hl 0 rfl) ?_
      refine lv_if_ne (tgt := 40) cx.1 cx.2.1 dX7_neighbour_33 (by decide) (fun c6 => ?_) (fun c6 => ?_)
      · refine lv_iload_n cx.1 cx.2.1 dX7_neighbour_40 rfl (lv_at hl 2 rfl) ?_
        refine lv_iconst (v := 1) cx.1 cx.2.1 dX7_neighbour_41 (by decide) ?_
        refine lv_isub cx.1 cx.2.1 dX7_neighbour_42 ?_
        exact zRetI cx hrt hlk rfl hS hP ⟨(by unfold f_X7_neighbour; rw [if_pos c1, if_neg (not_not_intro c2), if_pos c6]), rfl⟩ dX7_neighbour_43
      · refine lv_iconst (v := (-1)) cx.1 cx.2.1 dX7_neighbour_36 (by decide) ?_
        refine lv_goto (tgt := 43) cx.1 cx.2.1 dX7_neighbour_37 (by decide) ?_
        exact zRetI cx hrt hlk rfl hS hP ⟨(by unfold f_X7_neighbour; rw [if_pos c1, if_neg (not_not_intro c2), if_neg (not_not_intro c6)]), rfl⟩ dX7_neighbour_43
  · refine lv_iload_n cx.1 cx.2.1 dX7_neighbour_14 rfl (lv_at hl 1 rfl) ?_
    refine lv_if_ne (tgt := 22) cx.1 cx.2.1 dX7_neighbour_15 (by decide) (fun c7 => ?_) (fun c7 => ?_)
    · refine lv_iload_n cx.1 cx.2.1 dX7_neighbour_22 rfl (lv_at hl 2 rfl) ?_
      refine lv_bipush (v := 8) cx.1 cx.2.1 dX7_neighbour_23 (by decide) ?_
      refine lv_isub cx.1 cx.2.1 dX7_neighbour_25 ?_
      exact zRetI cx hrt hlk rfl hS hP ⟨(by unfold f_X7_neighbour; rw [if_neg (not_not_intro c1), if_pos c7]), rfl⟩ dX7_neighbour_26
    · refine lv_iconst (v := (-1)) cx.1 cx.2.1 dX7_neighbour_18 (by decide) ?_
      refine lv_goto (tgt := 26) cx.1 cx.2.1 dX7_neighbour_19 (by decide) ?_
      exact zRetI cx hrt hlk rfl hS hP ⟨(by unfold f_X7_neighbour; rw [if_neg (not_not_intro c1), if_neg (not_not_intro c7)]), rfl⟩ dX7_neighbour_26

def f_X7_isRoad (S : zS) (xi : Int32) : Int32 := if xi = (-1) then 0 else (if ¬ (S 0 xi.toNatClampNeg) = 1 then 0 else (1))
set_option maxHeartbeats 4000000 in
set_option maxRecDepth 100000 in
theorem c_X7_isRoad (l : Launch) (dC : Nat → ClassId) (dI : Nat → Nat → Nat) (cyI cyZ : ClassId) (ad : Nat → Nat) (hI : zI ad 14) (S : zS) (xi : Int32) (hxi : xi = -1 ∨ vp_in xi 64) : zMi l (dC, dI) [(cyI, .int), (cyZ, .boolean)] ad 14 (fun _ _ => True) (mw cyI cyZ ad) yX7_isRoad wsX7_isRoad ({ frames := 0, cells := 0, slots := 0, locals := 0 } : Room) [.ref (ad 0), .int xi] S (fun v T => v = f_X7_isRoad S xi ∧ T = S) := by
  refine zStartI (by decide) rfl (Nat.le_of_ble_eq_true rfl) ?_
  intro p e s m args below meth c ls cx hrt hlk hP hK hXs hl
  have hl : lv_has ls 2 [(0, .ref (ad 0)), (1, .int xi)] := hl
  have hS : va_S (zA ad 14 s.heap.size) s.heap s.heap [] := va_S.rf
  have hinX7 : ∀ w ∈ u_ws RX7 TX7 19, w ∈ wsX7_isRoad := by decide +kernel
  refine lv_iload_n cx.1 cx.2.1 dX7_isRoad_0 rfl (lv_at hl 1 rfl) ?_
  refine lv_iconst (v := (-1)) cx.1 cx.2.1 dX7_isRoad_1 (by decide) ?_
  refine lv_icmp_eq (tgt := 19) cx.1 cx.2.1 dX7_isRoad_2 (by decide) (fun c1 => ?_) (fun c1 => ?_)
  · refine lv_iconst (v := 0) cx.1 cx.2.1 dX7_isRoad_19 (by decide) ?_
    exact zRetI cx hrt hlk (by first | rfl | decide) hS hP ⟨(by unfold f_X7_isRoad; rw [if_pos c1]), rfl⟩ dX7_isRoad_20
  · refine lv_aload_n cx.1 cx.2.1 dX7_isRoad_5 rfl (lv_at hl 0 rfl) ?_
    refine zGet (v := .ref (ad 1)) (own := RX7) cx hinX7 hK hP 0 rfl rfl 5 (by decide) (by decide +kernel) rfl rfl dX7_isRoad_6 ?_
    refine lv_iload_n cx.1 cx.2.1 dX7_isRoad_9 rfl (lv_at hl 1 rfl) ?_
    refine zIld cx hK hP 1 0 rfl rfl (hxi.resolve_left c1) dX7_isRoad_10 ?_
    refine lv_iconst (v := 1) cx.1 cx.2.1 dX7_isRoad_11 (by decide) ?_
    refine lv_icmp_ne (tgt := 19) cx.1 cx.2.1 dX7_isRoad_12 (by decide) (fun c2 => ?_) (fun c2 => ?_)
    · refine lv_iconst (v := 0) cx.1 cx.2.1 dX7_isRoad_19 (by decide) ?_
      exact zRetI cx hrt hlk (by first | rfl | decide) hS hP ⟨(by unfold f_X7_isRoad; rw [if_neg c1, if_pos c2]), rfl⟩ dX7_isRoad_20
    · refine lv_iconst (v := 1) cx.1 cx.2.1 dX7_isRoad_15 (by decide) ?_
      refine lv_goto (tgt := 20) cx.1 cx.2.1 dX7_isRoad_16 (by decide) ?_
      exact zRetI cx hrt hlk (by first | rfl | decide) hS hP ⟨(by unfold f_X7_isRoad; rw [if_neg c1, if_neg (not_not_intro c2)]), rfl⟩ dX7_isRoad_20

def f_X7_least  (xa : Int32) (xb : Int32) : Int32 := if xb ≤ xa then xb else (xa)
set_option maxHeartbeats 4000000 in
set_option maxRecDepth 100000 in
theorem c_X7_least (l : Launch) (dC : Nat → ClassId) (dI : Nat → Nat → Nat) (cyI cyZ : ClassId) (ad : Nat → Nat) (hI : zI ad 14) (S : zS) (xa : Int32) (xb : Int32) : zMi l (dC, dI) [(cyI, .int), (cyZ, .boolean)] ad 14 (fun _ _ => True) (mw cyI cyZ ad) yX7_least wsX7_least ({ frames := 0, cells := 0, slots := 0, locals := 0 } : Room) [.int xa, .int xb] S (fun v T => v = f_X7_least xa xb ∧ T = S) := by
  refine zStartI (by decide) rfl (Nat.le_of_ble_eq_true rfl) ?_
  intro p e s m args below meth c ls cx hrt hlk hP hK hXs hl
  have hl : lv_has ls 2 [(0, .int xa), (1, .int xb)] := hl
  have hS : va_S (zA ad 14 s.heap.size) s.heap s.heap [] := va_S.rf
  refine lv_iload_n cx.1 cx.2.1 dX7_least_0 rfl (lv_at hl 0 rfl) ?_
  refine lv_iload_n cx.1 cx.2.1 dX7_least_1 rfl (lv_at hl 1 rfl) ?_
  refine lv_icmp_ge (tgt := 9) cx.1 cx.2.1 dX7_least_2 (by decide) (fun c1 => ?_) (fun c1 => ?_)
  · refine lv_iload_n cx.1 cx.2.1 dX7_least_9 rfl (lv_at hl 1 rfl) ?_
    exact zRetI cx hrt hlk rfl hS hP ⟨(by unfold f_X7_least; rw [if_pos c1]), rfl⟩ dX7_least_10
  · refine lv_iload_n cx.1 cx.2.1 dX7_least_5 rfl (lv_at hl 0 rfl) ?_
    refine lv_goto (tgt := 10) cx.1 cx.2.1 dX7_least_6 (by decide) ?_
    exact zRetI cx hrt hlk rfl hS hP ⟨(by unfold f_X7_least; rw [if_neg c1]), rfl⟩ dX7_least_10

def f_X7_apart  (xa : Int32) (xb : Int32) : Int32 := if 0 ≤ ((xa / 8) - (xb / 8)) then (if 0 ≤ ((xa - xa / 8 * 8) - (xb - xb / 8 * 8)) then ((xa / 8) - (xb / 8)) + ((xa - xa / 8 * 8) - (xb - xb / 8 * 8)) else (((xa / 8) - (xb / 8)) + (-((xa - xa / 8 * 8) - (xb - xb / 8 * 8))))) else (if 0 ≤ ((xa - xa / 8 * 8) - (xb - xb / 8 * 8)) then (-((xa / 8) - (xb / 8))) + ((xa - xa / 8 * 8) - (xb - xb / 8 * 8)) else ((-((xa / 8) - (xb / 8))) + (-((xa - xa / 8 * 8) - (xb - xb / 8 * 8)))))
set_option maxHeartbeats 4000000 in
set_option maxRecDepth 100000 in
theorem c_X7_apart (l : Launch) (dC : Nat → ClassId) (dI : Nat → Nat → Nat) (cyI cyZ : ClassId) (ad : Nat → Nat) (hI : zI ad 14) (S : zS) (xa : Int32) (xb : Int32) : zMi l (dC, dI) [(cyI, .int), (cyZ, .boolean)] ad 14 (fun _ _ => True) (mw cyI cyZ ad) yX7_apart wsX7_apart ({ frames := 0, cells := 0, slots := 0, locals := 0 } : Room) [.int xa, .int xb] S (fun v T => v = f_X7_apart xa xb ∧ T = S) := by
  refine zStartI (by decide) rfl (Nat.le_of_ble_eq_true rfl) ?_
  intro p e s m args below meth c ls cx hrt hlk hP hK hXs hl
  have hl : lv_has ls 4 [(0, .int xa), (1, .int xb)] := hl
  have hS : va_S (zA ad 14 s.heap.size) s.heap s.heap [] := va_S.rf
  refine lv_iload_n cx.1 cx.2.1 dX7_apart_0 rfl (lv_at hl 0 rfl) ?_
  refine lv_bipush (v := 8) cx.1 cx.2.1 dX7_apart_1 (by decide) ?_
  refine lv_idiv cx.1 cx.2.1 dX7_apart_3 (by decide) ?_
  refine lv_iload_n cx.1 cx.2.1 dX7_apart_4 rfl (lv_at hl 1 rfl) ?_
  refine lv_bipush (v := 8) cx.1 cx.2.1 dX7_apart_5 (by decide) ?_
  refine lv_idiv cx.1 cx.2.1 dX7_apart_7 (by decide) ?_
  refine lv_isub cx.1 cx.2.1 dX7_apart_8 ?_
  refine lv_istore_n (lv' := [(2, .int ((xa / 8) - (xb / 8))), (0, .int xa), (1, .int xb)]) cx.1 cx.2.1 dX7_apart_9 rfl hl (by decide) rfl (fun ls hl => ?_)
  refine lv_iload_n cx.1 cx.2.1 dX7_apart_10 rfl (lv_at hl 1 rfl) ?_
  refine lv_bipush (v := 8) cx.1 cx.2.1 dX7_apart_11 (by decide) ?_
  refine lv_irem cx.1 cx.2.1 dX7_apart_13 (by decide) ?_
  refine lv_iload_n cx.1 cx.2.1 dX7_apart_14 rfl (lv_at hl 2 rfl) ?_
  refine lv_bipush (v := 8) cx.1 cx.2.1 dX7_apart_15 (by decide) ?_
  refine lv_irem cx.1 cx.2.1 dX7_apart_17 (by decide) ?_
  refine lv_isub cx.1 cx.2.1 dX7_apart_18 ?_
  refine lv_istore_n (lv' := [(3, .int ((xa - xa / 8 * 8) - (xb - xb / 8 * 8))), (2, .int ((xa / 8) - (xb / 8))), (0, .int xa), (1, .int xb)]) cx.1 cx.2.1 dX7_apart_19 rfl hl (by decide) rfl (fun ls hl => ?_)
  refine lv_iload_n cx.1 cx.2.1 dX7_apart_20 rfl (lv_at hl 1 rfl) ?_
  refine lv_if_ge (tgt := 29) cx.1 cx.2.1 dX7_apart_21 (by decide) (fun c1 => ?_) (fun c1 => ?_)
  · refine lv_iload_n cx.1 cx.2.1 dX7_apart_29 rfl (lv_at hl 1 rfl) ?_
    refine lv_iload_n cx.1 cx.2.1 dX7_apart_30 rfl (lv_at hl 0 rfl) ?_
    refine lv_if_ge (tgt := 39) cx.1 cx.2.1 dX7_apart_31 (by decide) (fun c2 => ?_) (fun c2 => ?_)
    · refine lv_iload_n cx.1 cx.2.1 dX7_apart_39 rfl (lv_at hl 0 rfl) ?_
      refine lv_iadd cx.1 cx.2.1 dX7_apart_40 ?_
      exact zRetI cx hrt hlk rfl hS hP ⟨(by unfold f_X7_apart; rw [if_pos c1, if_pos c2]), rfl⟩ dX7_apart_41
    · refine lv_iload_n cx.1 cx.2.1 dX7_apart_34 rfl (lv_at hl 0 rfl) ?_
      refine lv_ineg cx.1 cx.2.1 dX7_apart_35 ?_
      refine lv_goto (tgt := 40) cx.1 cx.2.1 dX7_apart_36 (by decide) ?_
      refine lv_iadd cx.1 cx.2.1 dX7_apart_40 ?_
      exact zRetI cx hrt hlk rfl hS hP ⟨(by unfold f_X7_apart; rw [if_pos c1, if_neg c2]), rfl⟩ dX7_apart_41
  · refine lv_iload_n cx.1 cx.2.1 dX7_apart_24 rfl (lv_at hl 1 rfl) ?_
    refine lv_ineg cx.1 cx.2.1 dX7_apart_25 ?_
    refine lv_goto (tgt := 30) cx.1 cx.2.1 dX7_apart_26 (by decide) ?_
    refine lv_iload_n cx.1 cx.2.1 dX7_apart_30 rfl (lv_at hl 0 rfl) ?_
    refine lv_if_ge (tgt := 39) cx.1 cx.2.1 dX7_apart_31 (by decide) (fun c3 => ?_) (fun c3 => ?_)
    · refine lv_iload_n cx.1 cx.2.1 dX7_apart_39 rfl (lv_at hl 0 rfl) ?_
      refine lv_iadd cx.1 cx.2.1 dX7_apart_40 ?_
      exact zRetI cx hrt hlk rfl hS hP ⟨(by unfold f_X7_apart; rw [if_neg c1, if_pos c3]), rfl⟩ dX7_apart_41
    · refine lv_iload_n cx.1 cx.2.1 dX7_apart_34 rfl (lv_at hl 0 rfl) ?_
      refine lv_ineg cx.1 cx.2.1 dX7_apart_35 ?_
      refine lv_goto (tgt := 40) cx.1 cx.2.1 dX7_apart_36 (by decide) ?_
      refine lv_iadd cx.1 cx.2.1 dX7_apart_40 ?_
      exact zRetI cx hrt hlk rfl hS hP ⟨(by unfold f_X7_apart; rw [if_neg c1, if_neg c3]), rfl⟩ dX7_apart_41

def f_X7_costOf  (xk : Int32) : Int32 := if ¬ xk = 1 then (if ¬ xk = 4 then (if ¬ xk = 5 then (if ¬ xk = 6 then 20 else (150)) else (200)) else (30)) else (10)
set_option maxHeartbeats 4000000 in
set_option maxRecDepth 100000 in
theorem c_X7_costOf (l : Launch) (dC : Nat → ClassId) (dI : Nat → Nat → Nat) (cyI cyZ : ClassId) (ad : Nat → Nat) (hI : zI ad 14) (S : zS) (xk : Int32) : zMi l (dC, dI) [(cyI, .int), (cyZ, .boolean)] ad 14 (fun _ _ => True) (mw cyI cyZ ad) yX7_costOf wsX7_costOf ({ frames := 0, cells := 0, slots := 0, locals := 0 } : Room) [.int xk] S (fun v T => v = f_X7_costOf xk ∧ T = S) := by
  refine zStartI (by decide) rfl (Nat.le_of_ble_eq_true rfl) ?_
  intro p e s m args below meth c ls cx hrt hlk hP hK hXs hl
  have hl : lv_has ls 1 [(0, .int xk)] := hl
  have hS : va_S (zA ad 14 s.heap.size) s.heap s.heap [] := va_S.rf
  refine lv_iload_n cx.1 cx.2.1 dX7_costOf_0 rfl (lv_at hl 0 rfl) ?_
  refine lv_iconst (v := 1) cx.1 cx.2.1 dX7_costOf_1 (by decide) ?_
  refine lv_icmp_ne (tgt := 10) cx.1 cx.2.1 dX7_costOf_2 (by decide) (fun c1 => ?_) (fun c1 => ?_)
  · refine lv_iload_n cx.1 cx.2.1 dX7_costOf_10 rfl (lv_at hl 0 rfl) ?_
    refine lv_iconst (v := 4) cx.1 cx.2.1 dX7_costOf_11 (by decide) ?_
    refine lv_icmp_ne (tgt := 20) cx.1 cx.2.1 dX7_costOf_12 (by decide) (fun c2 => ?_) (fun c2 => ?_)
    · refine lv_iload_n cx.1 cx.2.1 dX7_costOf_20 rfl (lv_at hl 0 rfl) ?_
      refine lv_iconst (v := 5) cx.1 cx.2.1 dX7_costOf_21 (by decide) ?_
      refine lv_icmp_ne (tgt := 31) cx.1 cx.2.1 dX7_costOf_22 (by decide) (fun c3 => ?_) (fun c3 => ?_)
      · refine lv_iload_n cx.1 cx.2.1 dX7_costOf_31 rfl (lv_at hl 0 rfl) ?_
        refine lv_bipush (v := 6) cx.1 cx.2.1 dX7_costOf_32 (by decide) ?_
        refine lv_icmp_ne (tgt := 43) cx.1 cx.2.1 dX7_costOf_34 (by decide) (fun c4 => ?_) (fun c4 => ?_)
        · refine lv_bipush (v := 20) cx.1 cx.2.1 dX7_costOf_43 (by decide) ?_
          exact zRetI cx hrt hlk rfl hS hP ⟨(by unfold f_X7_costOf; rw [if_pos c1, if_pos c2, if_pos c3, if_pos c4]), rfl⟩ dX7_costOf_45
        · refine lv_sipush (v := 150) cx.1 cx.2.1 dX7_costOf_37 (by decide) ?_
          refine lv_goto (tgt := 45) cx.1 cx.2.1 dX7_costOf_40 (by decide) ?_
          exact zRetI cx hrt hlk rfl hS hP ⟨(by unfold f_X7_costOf; rw [if_pos c1, if_pos c2, if_pos c3, if_neg (not_not_intro c4)]), rfl⟩ dX7_costOf_45
      · refine lv_sipush (v := 200) cx.1 cx.2.1 dX7_costOf_25 (by decide) ?_
        refine lv_goto (tgt := 45) cx.1 cx.2.1 dX7_costOf_28 (by decide) ?_
        exact zRetI cx hrt hlk rfl hS hP ⟨(by unfold f_X7_costOf; rw [if_pos c1, if_pos c2, if_neg (not_not_intro c3)]), rfl⟩ dX7_costOf_45
    · refine lv_bipush (v := 30) cx.1 cx.2.1 dX7_costOf_15 (by decide) ?_
      refine lv_goto (tgt := 45) cx.1 cx.2.1 dX7_costOf_17 (by decide) ?_
      exact zRetI cx hrt hlk rfl hS hP ⟨(by unfold f_X7_costOf; rw [if_pos c1, if_neg (not_not_intro c2)]), rfl⟩ dX7_costOf_45
  · refine lv_bipush (v := 10) cx.1 cx.2.1 dX7_costOf_5 (by decide) ?_
    refine lv_goto (tgt := 45) cx.1 cx.2.1 dX7_costOf_7 (by decide) ?_
    exact zRetI cx hrt hlk rfl hS hP ⟨(by unfold f_X7_costOf; rw [if_neg (not_not_intro c1)]), rfl⟩ dX7_costOf_45

def f_X7_fails (S : zS) (xw : Int32) : Int32 := if xw ≤ 0 then 0 else (1)
def g_X7_fails (S : zS) (xw : Int32) : zS := if xw ≤ 0 then zUp S 13 (upd (S 13) 5 xw) else (zUp S 13 (upd (S 13) 5 xw))
theorem fr_X7_fails (S : zS) (xw : Int32) (r : Nat) (h13 : r ≠ 13) : g_X7_fails S xw r = S r := by
  unfold g_X7_fails
  (repeat' split) <;> simp [zUp, h13]
set_option maxHeartbeats 4000000 in
set_option maxRecDepth 100000 in
theorem c_X7_fails (l : Launch) (dC : Nat → ClassId) (dI : Nat → Nat → Nat) (cyI cyZ : ClassId) (ad : Nat → Nat) (hI : zI ad 14) (S : zS) (xw : Int32) : zMi l (dC, dI) [(cyI, .int), (cyZ, .boolean)] ad 14 (fun _ _ => True) (mw cyI cyZ ad) yX7_fails wsX7_fails ({ frames := 0, cells := 0, slots := 0, locals := 0 } : Room) [.ref (ad 0), .int xw] S (fun v T => v = f_X7_fails S xw ∧ T = g_X7_fails S xw) := by
  refine zStartI (by decide) rfl (Nat.le_of_ble_eq_true rfl) ?_
  intro p e s m args below meth c ls cx hrt hlk hP hK hXs hl
  have hl : lv_has ls 2 [(0, .ref (ad 0)), (1, .int xw)] := hl
  have hS : va_S (zA ad 14 s.heap.size) s.heap s.heap [] := va_S.rf
  have hinX7 : ∀ w ∈ u_ws RX7 TX7 19, w ∈ wsX7_fails := by decide +kernel
  refine lv_aload_n cx.1 cx.2.1 dX7_fails_0 rfl (lv_at hl 0 rfl) ?_
  refine lv_iload_n cx.1 cx.2.1 dX7_fails_1 rfl (lv_at hl 1 rfl) ?_
  refine zPut (v := .int xw) (own := RX7) (ty0 := tyX7) (ty := .int) cx hinX7 tyX7_ok nmX7 (mw_W cyI cyZ ad) hI hK hP hS 0 rfl rfl 18 (by decide) (by decide +kernel) rfl rfl (by decide +kernel) rfl rfl (Nat.le_of_ble_eq_true rfl) (zUp S 13 (upd (S 13) 5 xw)) rfl dX7_fails_2 (fun H locs hP hS => ?_)
  refine lv_iload_n cx.1 cx.2.1 dX7_fails_5 rfl (lv_at hl 1 rfl) ?_
  refine lv_if_le (tgt := 13) cx.1 cx.2.1 dX7_fails_6 (by decide) (fun c1 => ?_) (fun c1 => ?_)
  · have c1 : xw ≤ 0 := c1
    refine lv_iconst (v := 0) cx.1 cx.2.1 dX7_fails_13 (by decide) ?_
    exact zRetI cx hrt hlk (by first | rfl | decide) hS hP ⟨(by unfold f_X7_fails; rw [if_pos c1]), (by unfold g_X7_fails; rw [if_pos c1])⟩ dX7_fails_14
  · have c1 : ¬ xw ≤ 0 := c1
    refine lv_iconst (v := 1) cx.1 cx.2.1 dX7_fails_9 (by decide) ?_
    refine lv_goto (tgt := 14) cx.1 cx.2.1 dX7_fails_10 (by decide) ?_
    exact zRetI cx hrt hlk (by first | rfl | decide) hS hP ⟨(by unfold f_X7_fails; rw [if_neg c1]), (by unfold g_X7_fails; rw [if_neg c1])⟩ dX7_fails_14

def f_X7_letter  (xw : Int32) (xp : Int32) : Int32 := if xp = 0 then (if ¬ xw = 6 then 112 else (119)) else (if xp = 1 then (if ¬ xw = 5 then 97 else (111)) else (if xp = 2 then (if ¬ xw = 4 then (if ¬ xw = 5 then 116 else (119)) else (114)) else (if xp = 3 then (if ¬ xw = 4 then 101 else (107)) else (if xp = 4 then (if ¬ xw = 4 then 114 else (32)) else (32)))))
set_option maxHeartbeats 4000000 in
set_option maxRecDepth 100000 in
theorem c_X7_letter (l : Launch) (dC : Nat → ClassId) (dI : Nat → Nat → Nat) (cyI cyZ : ClassId) (ad : Nat → Nat) (hI : zI ad 14) (S : zS) (xw : Int32) (xp : Int32) : zMi l (dC, dI) [(cyI, .int), (cyZ, .boolean)] ad 14 (fun _ _ => True) (mw cyI cyZ ad) yX7_letter wsX7_letter ({ frames := 0, cells := 0, slots := 0, locals := 0 } : Room) [.int xw, .int xp] S (fun v T => v = f_X7_letter xw xp ∧ T = S) := by
  refine zStartI (by decide) rfl (Nat.le_of_ble_eq_true rfl) ?_
  intro p e s m args below meth c ls cx hrt hlk hP hK hXs hl
  have hl : lv_has ls 2 [(0, .int xw), (1, .int xp)] := hl
  have hS : va_S (zA ad 14 s.heap.size) s.heap s.heap [] := va_S.rf
  refine lv_iload_n cx.1 cx.2.1 dX7_letter_0 rfl (lv_at hl 1 rfl) ?_
  by_cases c1 : xp = 0
  · refine lv_tableIn (off := 35) (tgt := 36) cx.1 cx.2.1 dX7_letter_1 (by rw [c1]; decide) (by rw [c1]; decide) (by rw [c1]; rfl) (by decide) ?_
    refine lv_iload_n cx.1 cx.2.1 dX7_letter_36 rfl (lv_at hl 0 rfl) ?_
    refine lv_bipush (v := 6) cx.1 cx.2.1 dX7_letter_37 (by decide) ?_
    refine lv_icmp_ne (tgt := 47) cx.1 cx.2.1 dX7_letter_39 (by decide) (fun c2 => ?_) (fun c2 => ?_)
    · refine lv_bipush (v := 112) cx.1 cx.2.1 dX7_letter_47 (by decide) ?_
      exact zRetI cx hrt hlk (by first | rfl | decide) hS hP ⟨(by unfold f_X7_letter; rw [if_pos c1, if_pos c2]), rfl⟩ dX7_letter_49
    · refine lv_bipush (v := 119) cx.1 cx.2.1 dX7_letter_42 (by decide) ?_
      refine lv_goto (tgt := 49) cx.1 cx.2.1 dX7_letter_44 (by decide) ?_
      exact zRetI cx hrt hlk (by first | rfl | decide) hS hP ⟨(by unfold f_X7_letter; rw [if_pos c1, if_neg (not_not_intro c2)]), rfl⟩ dX7_letter_49
  · by_cases c3 : xp = 1
    · refine lv_tableIn (off := 49) (tgt := 50) cx.1 cx.2.1 dX7_letter_1 (by rw [c3]; decide) (by rw [c3]; decide) (by rw [c3]; rfl) (by decide) ?_
      refine lv_iload_n cx.1 cx.2.1 dX7_letter_50 rfl (lv_at hl 0 rfl) ?_
      refine lv_iconst (v := 5) cx.1 cx.2.1 dX7_letter_51 (by decide) ?_
      refine lv_icmp_ne (tgt := 60) cx.1 cx.2.1 dX7_letter_52 (by decide) (fun c4 => ?_) (fun c4 => ?_)
      · refine lv_bipush (v := 97) cx.1 cx.2.1 dX7_letter_60 (by decide) ?_
        exact zRetI cx hrt hlk (by first | rfl | decide) hS hP ⟨(by unfold f_X7_letter; rw [if_neg c1, if_pos c3, if_pos c4]), rfl⟩ dX7_letter_62
      · refine lv_bipush (v := 111) cx.1 cx.2.1 dX7_letter_55 (by decide) ?_
        refine lv_goto (tgt := 62) cx.1 cx.2.1 dX7_letter_57 (by decide) ?_
        exact zRetI cx hrt hlk (by first | rfl | decide) hS hP ⟨(by unfold f_X7_letter; rw [if_neg c1, if_pos c3, if_neg (not_not_intro c4)]), rfl⟩ dX7_letter_62
    · by_cases c5 : xp = 2
      · refine lv_tableIn (off := 62) (tgt := 63) cx.1 cx.2.1 dX7_letter_1 (by rw [c5]; decide) (by rw [c5]; decide) (by rw [c5]; rfl) (by decide) ?_
        refine lv_iload_n cx.1 cx.2.1 dX7_letter_63 rfl (lv_at hl 0 rfl) ?_
        refine lv_iconst (v := 4) cx.1 cx.2.1 dX7_letter_64 (by decide) ?_
        refine lv_icmp_ne (tgt := 73) cx.1 cx.2.1 dX7_letter_65 (by decide) (fun c6 => ?_) (fun c6 => ?_)
        · refine lv_iload_n cx.1 cx.2.1 dX7_letter_73 rfl (lv_at hl 0 rfl) ?_
          refine lv_iconst (v := 5) cx.1 cx.2.1 dX7_letter_74 (by decide) ?_
          refine lv_icmp_ne (tgt := 83) cx.1 cx.2.1 dX7_letter_75 (by decide) (fun c7 => ?_) (fun c7 => ?_)
          · refine lv_bipush (v := 116) cx.1 cx.2.1 dX7_letter_83 (by decide) ?_
            exact zRetI cx hrt hlk (by first | rfl | decide) hS hP ⟨(by unfold f_X7_letter; rw [if_neg c1, if_neg c3, if_pos c5, if_pos c6, if_pos c7]), rfl⟩ dX7_letter_85
          · refine lv_bipush (v := 119) cx.1 cx.2.1 dX7_letter_78 (by decide) ?_
            refine lv_goto (tgt := 85) cx.1 cx.2.1 dX7_letter_80 (by decide) ?_
            exact zRetI cx hrt hlk (by first | rfl | decide) hS hP ⟨(by unfold f_X7_letter; rw [if_neg c1, if_neg c3, if_pos c5, if_pos c6, if_neg (not_not_intro c7)]), rfl⟩ dX7_letter_85
        · refine lv_bipush (v := 114) cx.1 cx.2.1 dX7_letter_68 (by decide) ?_
          refine lv_goto (tgt := 85) cx.1 cx.2.1 dX7_letter_70 (by decide) ?_
          exact zRetI cx hrt hlk (by first | rfl | decide) hS hP ⟨(by unfold f_X7_letter; rw [if_neg c1, if_neg c3, if_pos c5, if_neg (not_not_intro c6)]), rfl⟩ dX7_letter_85
      · by_cases c8 : xp = 3
        · refine lv_tableIn (off := 85) (tgt := 86) cx.1 cx.2.1 dX7_letter_1 (by rw [c8]; decide) (by rw [c8]; decide) (by rw [c8]; rfl) (by decide) ?_
          refine lv_iload_n cx.1 cx.2.1 dX7_letter_86 rfl (lv_at hl 0 rfl) ?_
          refine lv_iconst (v := 4) cx.1 cx.2.1 dX7_letter_87 (by decide) ?_
          refine lv_icmp_ne (tgt := 96) cx.1 cx.2.1 dX7_letter_88 (by decide) (fun c9 => ?_) (fun c9 => ?_)
          · refine lv_bipush (v := 101) cx.1 cx.2.1 dX7_letter_96 (by decide) ?_
            exact zRetI cx hrt hlk (by first | rfl | decide) hS hP ⟨(by unfold f_X7_letter; rw [if_neg c1, if_neg c3, if_neg c5, if_pos c8, if_pos c9]), rfl⟩ dX7_letter_98
          · refine lv_bipush (v := 107) cx.1 cx.2.1 dX7_letter_91 (by decide) ?_
            refine lv_goto (tgt := 98) cx.1 cx.2.1 dX7_letter_93 (by decide) ?_
            exact zRetI cx hrt hlk (by first | rfl | decide) hS hP ⟨(by unfold f_X7_letter; rw [if_neg c1, if_neg c3, if_neg c5, if_pos c8, if_neg (not_not_intro c9)]), rfl⟩ dX7_letter_98
        · by_cases c10 : xp = 4
          · refine lv_tableIn (off := 98) (tgt := 99) cx.1 cx.2.1 dX7_letter_1 (by rw [c10]; decide) (by rw [c10]; decide) (by rw [c10]; rfl) (by decide) ?_
            refine lv_iload_n cx.1 cx.2.1 dX7_letter_99 rfl (lv_at hl 0 rfl) ?_
            refine lv_iconst (v := 4) cx.1 cx.2.1 dX7_letter_100 (by decide) ?_
            refine lv_icmp_ne (tgt := 109) cx.1 cx.2.1 dX7_letter_101 (by decide) (fun c11 => ?_) (fun c11 => ?_)
            · refine lv_bipush (v := 114) cx.1 cx.2.1 dX7_letter_109 (by decide) ?_
              exact zRetI cx hrt hlk (by first | rfl | decide) hS hP ⟨(by unfold f_X7_letter; rw [if_neg c1, if_neg c3, if_neg c5, if_neg c8, if_pos c10, if_pos c11]), rfl⟩ dX7_letter_111
            · refine lv_bipush (v := 32) cx.1 cx.2.1 dX7_letter_104 (by decide) ?_
              refine lv_goto (tgt := 111) cx.1 cx.2.1 dX7_letter_106 (by decide) ?_
              exact zRetI cx hrt hlk (by first | rfl | decide) hS hP ⟨(by unfold f_X7_letter; rw [if_neg c1, if_neg c3, if_neg c5, if_neg c8, if_pos c10, if_neg (not_not_intro c11)]), rfl⟩ dX7_letter_111
          · have tc1 := lv_neT c1 (k := 0) (a := 0) (by decide); have tc3 := lv_neT c3 (k := 1) (a := 1) (by decide); have tc5 := lv_neT c5 (k := 2) (a := 2) (by decide); have tc8 := lv_neT c8 (k := 3) (a := 3) (by decide); have tc10 := lv_neT c10 (k := 4) (a := 4) (by decide); skip
            refine lv_tableOut (tgt := 112) cx.1 cx.2.1 dX7_letter_1 (by omega) (by decide) ?_
            refine lv_bipush (v := 32) cx.1 cx.2.1 dX7_letter_112 (by decide) ?_
            exact zRetI cx hrt hlk (by first | rfl | decide) hS hP ⟨(by unfold f_X7_letter; rw [if_neg c1, if_neg c3, if_neg c5, if_neg c8, if_neg c10]), rfl⟩ dX7_letter_114

def f_X7_thrown (S : zS)  : Int32 := S 13 5
set_option maxHeartbeats 4000000 in
set_option maxRecDepth 100000 in
theorem c_X7_thrown (l : Launch) (dC : Nat → ClassId) (dI : Nat → Nat → Nat) (cyI cyZ : ClassId) (ad : Nat → Nat) (hI : zI ad 14) (S : zS)  : zMi l (dC, dI) [(cyI, .int), (cyZ, .boolean)] ad 14 (fun _ _ => True) (mw cyI cyZ ad) yX7_thrown wsX7_thrown ({ frames := 0, cells := 0, slots := 0, locals := 0 } : Room) [.ref (ad 0)] S (fun v T => v = f_X7_thrown S ∧ T = S) := by
  refine zStartI (by decide) rfl (Nat.le_of_ble_eq_true rfl) ?_
  intro p e s m args below meth c ls cx hrt hlk hP hK hXs hl
  have hl : lv_has ls 1 [(0, .ref (ad 0))] := hl
  have hS : va_S (zA ad 14 s.heap.size) s.heap s.heap [] := va_S.rf
  have hinX7 : ∀ w ∈ u_ws RX7 TX7 19, w ∈ wsX7_thrown := by decide +kernel
  refine lv_aload_n cx.1 cx.2.1 dX7_thrown_0 rfl (lv_at hl 0 rfl) ?_
  refine zGet (v := .int (S 13 5)) (own := RX7) cx hinX7 hK hP 0 rfl rfl 18 (by decide) (by decide +kernel) rfl rfl dX7_thrown_1 ?_
  exact zRetI cx hrt hlk rfl hS hP ⟨(by unfold f_X7_thrown; rfl), rfl⟩ dX7_thrown_4

def f_X7_cash (S : zS)  : Int32 := upd (S 13) 5 0 0
def g_X7_cash (S : zS)  : zS := zUp S 13 (upd (S 13) 5 0)
theorem fr_X7_cash (S : zS)  (r : Nat) (h13 : r ≠ 13) : g_X7_cash S  r = S r := by
  unfold g_X7_cash
  (repeat' split) <;> simp [zUp, h13]
set_option maxHeartbeats 4000000 in
set_option maxRecDepth 100000 in
theorem c_X7_cash (l : Launch) (dC : Nat → ClassId) (dI : Nat → Nat → Nat) (cyI cyZ : ClassId) (ad : Nat → Nat) (hI : zI ad 14) (S : zS)  : zMi l (dC, dI) [(cyI, .int), (cyZ, .boolean)] ad 14 (fun _ _ => True) (mw cyI cyZ ad) yX7_cash wsX7_cash ({ frames := 0, cells := 0, slots := 0, locals := 0 } : Room) [.ref (ad 0)] S (fun v T => v = f_X7_cash S ∧ T = g_X7_cash S) := by
  refine zStartI (by decide) rfl (Nat.le_of_ble_eq_true rfl) ?_
  intro p e s m args below meth c ls cx hrt hlk hP hK hXs hl
  have hl : lv_has ls 1 [(0, .ref (ad 0))] := hl
  have hS : va_S (zA ad 14 s.heap.size) s.heap s.heap [] := va_S.rf
  have hinX7 : ∀ w ∈ u_ws RX7 TX7 19, w ∈ wsX7_cash := by decide +kernel
  refine lv_aload_n cx.1 cx.2.1 dX7_cash_0 rfl (lv_at hl 0 rfl) ?_
  refine lv_iconst (v := 0) cx.1 cx.2.1 dX7_cash_1 (by decide) ?_
  refine zPut (v := .int 0) (own := RX7) (ty0 := tyX7) (ty := .int) cx hinX7 tyX7_ok nmX7 (mw_W cyI cyZ ad) hI hK hP hS 0 rfl rfl 18 (by decide) (by decide +kernel) rfl rfl (by decide +kernel) rfl rfl (Nat.le_of_ble_eq_true rfl) (zUp S 13 (upd (S 13) 5 0)) rfl dX7_cash_2 (fun H locs hP hS => ?_)
  refine lv_aload_n cx.1 cx.2.1 dX7_cash_5 rfl (lv_at hl 0 rfl) ?_
  refine zGet (v := .int (upd (S 13) 5 0 0)) (own := RX7) cx hinX7 hK hP 0 rfl rfl 0 (by decide) (by decide +kernel) rfl rfl dX7_cash_6 ?_
  exact zRetI cx hrt hlk rfl hS hP ⟨(by unfold f_X7_cash; rfl), (by unfold g_X7_cash; rfl)⟩ dX7_cash_9

def f_X7_debt (S : zS)  : Int32 := upd (S 13) 5 0 1
def g_X7_debt (S : zS)  : zS := zUp S 13 (upd (S 13) 5 0)
theorem fr_X7_debt (S : zS)  (r : Nat) (h13 : r ≠ 13) : g_X7_debt S  r = S r := by
  unfold g_X7_debt
  (repeat' split) <;> simp [zUp, h13]
set_option maxHeartbeats 4000000 in
set_option maxRecDepth 100000 in
theorem c_X7_debt (l : Launch) (dC : Nat → ClassId) (dI : Nat → Nat → Nat) (cyI cyZ : ClassId) (ad : Nat → Nat) (hI : zI ad 14) (S : zS)  : zMi l (dC, dI) [(cyI, .int), (cyZ, .boolean)] ad 14 (fun _ _ => True) (mw cyI cyZ ad) yX7_debt wsX7_debt ({ frames := 0, cells := 0, slots := 0, locals := 0 } : Room) [.ref (ad 0)] S (fun v T => v = f_X7_debt S ∧ T = g_X7_debt S) := by
  refine zStartI (by decide) rfl (Nat.le_of_ble_eq_true rfl) ?_
  intro p e s m args below meth c ls cx hrt hlk hP hK hXs hl
  have hl : lv_has ls 1 [(0, .ref (ad 0))] := hl
  have hS : va_S (zA ad 14 s.heap.size) s.heap s.heap [] := va_S.rf
  have hinX7 : ∀ w ∈ u_ws RX7 TX7 19, w ∈ wsX7_debt := by decide +kernel
  refine lv_aload_n cx.1 cx.2.1 dX7_debt_0 rfl (lv_at hl 0 rfl) ?_
  refine lv_iconst (v := 0) cx.1 cx.2.1 dX7_debt_1 (by decide) ?_
  refine zPut (v := .int 0) (own := RX7) (ty0 := tyX7) (ty := .int) cx hinX7 tyX7_ok nmX7 (mw_W cyI cyZ ad) hI hK hP hS 0 rfl rfl 18 (by decide) (by decide +kernel) rfl rfl (by decide +kernel) rfl rfl (Nat.le_of_ble_eq_true rfl) (zUp S 13 (upd (S 13) 5 0)) rfl dX7_debt_2 (fun H locs hP hS => ?_)
  refine lv_aload_n cx.1 cx.2.1 dX7_debt_5 rfl (lv_at hl 0 rfl) ?_
  refine zGet (v := .int (upd (S 13) 5 0 1)) (own := RX7) cx hinX7 hK hP 0 rfl rfl 1 (by decide) (by decide +kernel) rfl rfl dX7_debt_6 ?_
  exact zRetI cx hrt hlk rfl hS hP ⟨(by unfold f_X7_debt; rfl), (by unfold g_X7_debt; rfl)⟩ dX7_debt_9

def f_X7_earned (S : zS)  : Int32 := upd (S 13) 5 0 2
def g_X7_earned (S : zS)  : zS := zUp S 13 (upd (S 13) 5 0)
theorem fr_X7_earned (S : zS)  (r : Nat) (h13 : r ≠ 13) : g_X7_earned S  r = S r := by
  unfold g_X7_earned
  (repeat' split) <;> simp [zUp, h13]
set_option maxHeartbeats 4000000 in
set_option maxRecDepth 100000 in
theorem c_X7_earned (l : Launch) (dC : Nat → ClassId) (dI : Nat → Nat → Nat) (cyI cyZ : ClassId) (ad : Nat → Nat) (hI : zI ad 14) (S : zS)  : zMi l (dC, dI) [(cyI, .int), (cyZ, .boolean)] ad 14 (fun _ _ => True) (mw cyI cyZ ad) yX7_earned wsX7_earned ({ frames := 0, cells := 0, slots := 0, locals := 0 } : Room) [.ref (ad 0)] S (fun v T => v = f_X7_earned S ∧ T = g_X7_earned S) := by
  refine zStartI (by decide) rfl (Nat.le_of_ble_eq_true rfl) ?_
  intro p e s m args below meth c ls cx hrt hlk hP hK hXs hl
  have hl : lv_has ls 1 [(0, .ref (ad 0))] := hl
  have hS : va_S (zA ad 14 s.heap.size) s.heap s.heap [] := va_S.rf
  have hinX7 : ∀ w ∈ u_ws RX7 TX7 19, w ∈ wsX7_earned := by decide +kernel
  refine lv_aload_n cx.1 cx.2.1 dX7_earned_0 rfl (lv_at hl 0 rfl) ?_
  refine lv_iconst (v := 0) cx.1 cx.2.1 dX7_earned_1 (by decide) ?_
  refine zPut (v := .int 0) (own := RX7) (ty0 := tyX7) (ty := .int) cx hinX7 tyX7_ok nmX7 (mw_W cyI cyZ ad) hI hK hP hS 0 rfl rfl 18 (by decide) (by decide +kernel) rfl rfl (by decide +kernel) rfl rfl (Nat.le_of_ble_eq_true rfl) (zUp S 13 (upd (S 13) 5 0)) rfl dX7_earned_2 (fun H locs hP hS => ?_)
  refine lv_aload_n cx.1 cx.2.1 dX7_earned_5 rfl (lv_at hl 0 rfl) ?_
  refine zGet (v := .int (upd (S 13) 5 0 2)) (own := RX7) cx hinX7 hK hP 0 rfl rfl 2 (by decide) (by decide +kernel) rfl rfl dX7_earned_6 ?_
  exact zRetI cx hrt hlk rfl hS hP ⟨(by unfold f_X7_earned; rfl), (by unfold g_X7_earned; rfl)⟩ dX7_earned_9
