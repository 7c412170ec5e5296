def t_X6_requireRange  (xn : Int32) (xl : Int32) (xm : Int32) : Option String := if xn < xl then (some xIA) else (if xn ≤ xm then none else (some xIA))
set_option maxHeartbeats 4000000 in
set_option maxRecDepth 100000 in
theorem c_X6_requireRange (l : Launch) (dC : Nat → ClassId) (dI : Nat → Nat → Nat) (cyI : ClassId) (ad : Nat → Nat) (hI : zI ad 36) (hlf : l.stackTraces = false) (S : zS) (xn : Int32) (xl : Int32) (xm : Int32) : xMv l (dC, dI) [(cyI, .int)] ad 36 (cw cyI ad) yX6_requireRange wsX6_requireRange ({ frames := 6, cells := 1, slots := 6, locals := 90 } : Room) [.int xn, .int xl, .int xm] S 1 6 (fun T => T = S ∧ t_X6_requireRange xn xl xm = none) (t_X6_requireRange xn xl xm) := by
  refine xStartV (by decide) rfl (Nat.le_of_ble_eq_true rfl) ?_
  intro p e s m args below meth c ls cx hrt hlk hex hP hK hXs hl
  have hl : lv_has ls 3 [(0, .int xn), (1, .int xl), (2, .int xm)] := hl
  have hS : va_S (zA ad 36 s.heap.size) s.heap s.heap [] := va_S.rf
  refine lv_iload_n cx.1 cx.2.1 dX6_requireRange_0 rfl (lv_at hl 0 rfl) ?_
  refine lv_iload_n cx.1 cx.2.1 dX6_requireRange_1 rfl (lv_at hl 1 rfl) ?_
  refine lv_icmp_lt (tgt := 10) cx.1 cx.2.1 dX6_requireRange_2 (by decide) (fun c1 => ?_) (fun c1 => ?_)
  · exact xThrow (text := "an argument is out of range") (cls := xIA) (ik := 154) (is := 156) (ic := 158) cx hlf hex hlk hXs rfl (by decide +kernel) (by decide +kernel) (by decide +kernel) (by decide +kernel) (by decide +kernel) (by decide +kernel) (by decide +kernel) (by decide +kernel) hS hP hl.1 (by unfold t_X6_requireRange; rw [if_pos c1]) dX6_requireRange_10 dX6_requireRange_13 dX6_requireRange_14 dX6_requireRange_16 dX6_requireRange_19 ⟨Nat.le_of_ble_eq_true rfl, Nat.le_of_ble_eq_true rfl, Nat.le_of_ble_eq_true rfl, Nat.le_of_ble_eq_true rfl⟩ ⟨Nat.le_of_ble_eq_true rfl, Nat.le_of_ble_eq_true rfl⟩
  · refine lv_iload_n cx.1 cx.2.1 dX6_requireRange_5 rfl (lv_at hl 0 rfl) ?_
    refine lv_iload_n cx.1 cx.2.1 dX6_requireRange_6 rfl (lv_at hl 2 rfl) ?_
    refine lv_icmp_le (tgt := 20) cx.1 cx.2.1 dX6_requireRange_7 (by decide) (fun c2 => ?_) (fun c2 => ?_)
    · refine vx_ret (W.widen (k := 1) (n := 6) (Nat.le_of_ble_eq_true rfl) (Nat.le_of_ble_eq_true rfl) ?_)
      exact zRetV cx hrt hlk hS hP ⟨rfl, (by unfold t_X6_requireRange; rw [if_neg c1, if_pos c2])⟩ dX6_requireRange_20
    · exact xThrow (text := "an argument is out of range") (cls := xIA) (ik := 154) (is := 156) (ic := 158) cx hlf hex hlk hXs rfl (by decide +kernel) (by decide +kernel) (by decide +kernel) (by decide +kernel) (by decide +kernel) (by decide +kernel) (by decide +kernel) (by decide +kernel) hS hP hl.1 (by unfold t_X6_requireRange; rw [if_neg c1, if_neg c2]) dX6_requireRange_10 dX6_requireRange_13 dX6_requireRange_14 dX6_requireRange_16 dX6_requireRange_19 ⟨Nat.le_of_ble_eq_true rfl, Nat.le_of_ble_eq_true rfl, Nat.le_of_ble_eq_true rfl, Nat.le_of_ble_eq_true rfl⟩ ⟨Nat.le_of_ble_eq_true rfl, Nat.le_of_ble_eq_true rfl⟩

def t_X6_requireCash (S : zS) (xa : Int32) : Option String := if xa ≤ (f_X2_cashNow S) then none else (some xIS)
set_option maxHeartbeats 4000000 in
set_option maxRecDepth 100000 in
theorem c_X6_requireCash (l : Launch) (dC : Nat → ClassId) (dI : Nat → Nat → Nat) (cyI : ClassId) (ad : Nat → Nat) (hI : zI ad 36) (hlf : l.stackTraces = false) (S : zS) (xa : Int32) : xMv l (dC, dI) [(cyI, .int)] ad 36 (cw cyI ad) yX6_requireCash wsX6_requireCash ({ frames := 6, cells := 1, slots := 6, locals := 90 } : Room) [.ref (ad 0), .int xa] S 1 6 (fun T => T = S ∧ t_X6_requireCash S xa = none) (t_X6_requireCash S xa) := by
  refine xStartV (by decide) rfl (Nat.le_of_ble_eq_true rfl) ?_
  intro p e s m args below meth c ls cx hrt hlk hex hP hK hXs hl
  have hl : lv_has ls 2 [(0, .ref (ad 0)), (1, .int xa)] := hl
  have hS : va_S (zA ad 36 s.heap.size) s.heap s.heap [] := va_S.rf
  have hinX6 : ∀ w ∈ u_ws RX6 TX6 5, w ∈ wsX6_requireCash := by decide +kernel
  refine lv_aload_n cx.1 cx.2.1 dX6_requireCash_0 rfl (lv_at hl 0 rfl) ?_
  refine zGet (v := .ref (ad 5)) (own := RX6) cx hinX6 hK hP 0 rfl rfl 4 (by decide) (by decide +kernel) rfl rfl dX6_requireCash_1 ?_
  refine zThenIx (v := f_X2_cashNow S) (S' := S) hS (zRunV (As := []) (rest := []) _ 0 cx (c_X2_cashNow l dC dI cyI ad hI S ) gX6_requireCash_X2_cashNow rfl ⟨rfl, rfl⟩ (by decide +kernel) ⟨Nat.le_of_ble_eq_true rfl, Nat.le_of_ble_eq_true rfl⟩ (xN_X ad 36) hXs.1 hK hP hS 5 rfl rfl rfl rfl hl.1 rfl (Nat.le_of_ble_eq_true rfl) dX6_requireCash_4 ⟨Nat.le_of_ble_eq_true rfl, Nat.le_of_ble_eq_true rfl⟩) (fun H locs hP hS => ?_)
  refine lv_iload_n cx.1 cx.2.1 dX6_requireCash_7 rfl (lv_at hl 1 rfl) ?_
  refine lv_icmp_ge (tgt := 21) cx.1 cx.2.1 dX6_requireCash_8 (by decide) (fun c1 => ?_) (fun c1 => ?_)
  · refine vx_ret (W.widen (k := 1) (n := 6) (Nat.le_of_ble_eq_true rfl) (Nat.le_of_ble_eq_true rfl) ?_)
    exact zRetV cx hrt hlk hS hP ⟨rfl, (by unfold t_X6_requireCash; rw [if_pos c1])⟩ dX6_requireCash_21
  · exact xThrow (text := "the cash is too little") (cls := xIS) (ik := 56) (is := 159) (ic := 60) cx hlf hex hlk hXs rfl (by decide +kernel) (by decide +kernel) (by decide +kernel) (by decide +kernel) (by decide +kernel) (by decide +kernel) (by decide +kernel) (by decide +kernel) hS hP hl.1 (by unfold t_X6_requireCash; rw [if_neg c1]) dX6_requireCash_11 dX6_requireCash_14 dX6_requireCash_15 dX6_requireCash_17 dX6_requireCash_20 ⟨Nat.le_of_ble_eq_true rfl, Nat.le_of_ble_eq_true rfl, Nat.le_of_ble_eq_true rfl, Nat.le_of_ble_eq_true rfl⟩ ⟨Nat.le_of_ble_eq_true rfl, Nat.le_of_ble_eq_true rfl⟩

def f_X6_build (S : zS) (xc : Int32) (xk : Int32) : Int32 := if (f_X0_kindOf S xc) = 0 then (f_X2_cashNow (g_X6_survey (g_X0_lay (g_X2_spend S (f_X6_costOf xk)) xc xk))) else (0)
def g_X6_build (S : zS) (xc : Int32) (xk : Int32) : zS := if (f_X0_kindOf S xc) = 0 then (g_X6_survey (g_X0_lay (g_X2_spend S (f_X6_costOf xk)) xc xk)) else (S)
def t_X6_build (S : zS) (xc : Int32) (xk : Int32) : Option String := tOr (t_X6_requireCell xc) (tOr (t_X6_requireRange xk 1 6) (if (f_X0_kindOf S xc) = 0 then (tOr (t_X6_requireCash S (f_X6_costOf xk)) (none)) else (some xIS)))
theorem fr_X6_build (S : zS) (xc : Int32) (xk : Int32) (r : Nat) (h0 : r ≠ 0) (h1 : r ≠ 1) (h10 : r ≠ 10) (h11 : r ≠ 11) (h12 : r ≠ 12) (h13 : r ≠ 13) (h14 : r ≠ 14) (h15 : r ≠ 15) (h16 : r ≠ 16) (h17 : r ≠ 17) (h2 : r ≠ 2) (h3 : r ≠ 3) (h4 : r ≠ 4) (h5 : r ≠ 5) (h6 : r ≠ 6) (h7 : r ≠ 7) (h8 : r ≠ 8) (h9 : r ≠ 9) : g_X6_build S xc xk r = S r := by
  unfold g_X6_build
  (repeat' split) <;> simp [zUp, h0, h1, h10, h11, h12, h13, h14, h15, h16, h17, h2, h3, h4, h5, h6, h7, h8, h9, fr_X0_lay, fr_X2_spend, fr_X6_survey]
set_option maxHeartbeats 4000000 in
set_option maxRecDepth 100000 in
theorem c_X6_build (l : Launch) (dC : Nat → ClassId) (dI : Nat → Nat → Nat) (cyI : ClassId) (ad : Nat → Nat) (hI : zI ad 36) (hlf : l.stackTraces = false) (S : zS) (xc : Int32) (xk : Int32) : xMi l (dC, dI) [(cyI, .int)] ad 36 (cw cyI ad) yX6_build wsX6_build ({ frames := 7, cells := 4, slots := 24, locals := 139 } : Room) [.ref (ad 0), .int xc, .int xk] S 4 24 (fun v T => v = f_X6_build S xc xk ∧ T = g_X6_build S xc xk ∧ t_X6_build S xc xk = none) (t_X6_build S xc xk) := by
  refine xStartI (by decide) rfl (Nat.le_of_ble_eq_true rfl) ?_
  intro p e s m args below meth c ls cx hrt hlk hex hP hK hXs hl
  have hl : lv_has ls 3 [(0, .ref (ad 0)), (1, .int xc), (2, .int xk)] := hl
  have hS : va_S (zA ad 36 s.heap.size) s.heap s.heap [] := va_S.rf
  have hinX6 : ∀ w ∈ u_ws RX6 TX6 5, w ∈ wsX6_build := by decide +kernel
  refine lv_iload_n cx.1 cx.2.1 dX6_build_0 rfl (lv_at hl 1 rfl) ?_
  refine xThenV hex hlk hS ⟨Nat.le_of_ble_eq_true rfl, Nat.le_of_ble_eq_true rfl⟩ (fun E h => by unfold t_X6_build; exact tOr_s h) (xRunS (As := [.int xc]) (rest := []) _ _ 1 cx (c_X6_requireCell l dC dI cyI ad hI hlf S xc) gX6_build_X6_requireCell rfl ⟨rfl, rfl⟩ (by decide +kernel) ⟨Nat.le_of_ble_eq_true rfl, Nat.le_of_ble_eq_true rfl⟩ hXs hK hP hS rfl hl.1 rfl (Nat.le_of_ble_eq_true rfl) dX6_build_1 ⟨Nat.le_of_ble_eq_true rfl, Nat.le_of_ble_eq_true rfl⟩) (fun T2 H locs hp hP hS => ?_)
  obtain ⟨hT2, t1⟩ := hp
  rw [hT2] at hP
  refine lv_iload_n cx.1 cx.2.1 dX6_build_4 rfl (lv_at hl 2 rfl) ?_
  refine lv_iconst (v := 1) cx.1 cx.2.1 dX6_build_5 (by decide) ?_
  refine lv_bipush (v := 6) cx.1 cx.2.1 dX6_build_6 (by decide) ?_
  refine xThenV hex hlk hS ⟨Nat.le_of_ble_eq_true rfl, Nat.le_of_ble_eq_true rfl⟩ (fun E h => by unfold t_X6_build; rw [tOr_n t1]; exact tOr_s h) (xRunS (As := [.int xk, .int 1, .int 6]) (rest := []) _ _ 3 cx (c_X6_requireRange l dC dI cyI ad hI hlf S xk 1 6) gX6_build_X6_requireRange rfl ⟨rfl, rfl⟩ (by decide +kernel) ⟨Nat.le_of_ble_eq_true rfl, Nat.le_of_ble_eq_true rfl⟩ hXs hK hP hS rfl hl.1 rfl (Nat.le_of_ble_eq_true rfl) dX6_build_8 ⟨Nat.le_of_ble_eq_true rfl, Nat.le_of_ble_eq_true rfl⟩) (fun T4 H locs hp hP hS => ?_)
  obtain ⟨hT4, t3⟩ := hp
  rw [hT4] at hP
  refine lv_aload_n cx.1 cx.2.1 dX6_build_11 rfl (lv_at hl 0 rfl) ?_
  refine zGet (v := .ref (ad 1)) (own := RX6) cx hinX6 hK hP 0 rfl rfl 0 (by decide) (by decide +kernel) rfl rfl dX6_build_12 ?_
  refine lv_iload_n cx.1 cx.2.1 dX6_build_15 rfl (lv_at hl 1 rfl) ?_
  refine zThenIx (v := f_X0_kindOf S xc) (S' := S) hS (zRunV (As := [.int xc]) (rest := []) _ 1 cx (c_X0_kindOf l dC dI cyI ad hI S xc) gX6_build_X0_kindOf rfl ⟨rfl, rfl⟩ (by decide +kernel) ⟨Nat.le_of_ble_eq_true rfl, Nat.le_of_ble_eq_true rfl⟩ (xN_X ad 36) hXs.1 hK hP hS 1 rfl rfl rfl rfl hl.1 rfl (Nat.le_of_ble_eq_true rfl) dX6_build_16 ⟨Nat.le_of_ble_eq_true rfl, Nat.le_of_ble_eq_true rfl⟩) (fun H locs hP hS => ?_)
  refine lv_if_eq (tgt := 32) cx.1 cx.2.1 dX6_build_19 (by decide) (fun c5 => ?_) (fun c5 => ?_)
  · refine lv_aload_n cx.1 cx.2.1 dX6_build_32 rfl (lv_at hl 0 rfl) ?_
    refine lv_iload_n cx.1 cx.2.1 dX6_build_33 rfl (lv_at hl 2 rfl) ?_
    refine zThenIx (v := f_X6_costOf xk) (S' := S) hS (zRunS (As := [.int xk]) (rest := [.ref (ad 0)]) _ 1 cx (c_X6_costOf l dC dI cyI ad hI S xk) gX6_build_X6_costOf rfl ⟨rfl, rfl⟩ (by decide +kernel) ⟨Nat.le_of_ble_eq_true rfl, Nat.le_of_ble_eq_true rfl⟩ (xN_X ad 36) hXs.1 hK hP hS rfl hl.1 rfl (Nat.le_of_ble_eq_true rfl) dX6_build_34 ⟨Nat.le_of_ble_eq_true rfl, Nat.le_of_ble_eq_true rfl⟩) (fun H locs hP hS => ?_)
    refine xThenV hex hlk hS ⟨Nat.le_of_ble_eq_true rfl, Nat.le_of_ble_eq_true rfl⟩ (fun E h => by unfold t_X6_build; rw [tOr_n t1, tOr_n t3, if_pos c5]; exact tOr_s h) (xRunV (As := [.int (f_X6_costOf xk)]) (rest := []) _ _ 1 cx (c_X6_requireCash l dC dI cyI ad hI hlf S (f_X6_costOf xk)) gX6_build_X6_requireCash rfl ⟨rfl, rfl⟩ (by decide +kernel) ⟨Nat.le_of_ble_eq_true rfl, Nat.le_of_ble_eq_true rfl⟩ hXs hK hP hS 0 rfl rfl rfl rfl hl.1 rfl (Nat.le_of_ble_eq_true rfl) dX6_build_37 ⟨Nat.le_of_ble_eq_true rfl, Nat.le_of_ble_eq_true rfl⟩) (fun T7 H locs hp hP hS => ?_)
    obtain ⟨hT7, t6⟩ := hp
    rw [hT7] at hP
    refine lv_aload_n cx.1 cx.2.1 dX6_build_40 rfl (lv_at hl 0 rfl) ?_
    refine zGet (v := .ref (ad 5)) (own := RX6) cx hinX6 hK hP 0 rfl rfl 4 (by decide) (by decide +kernel) rfl rfl dX6_build_41 ?_
    refine lv_iload_n cx.1 cx.2.1 dX6_build_44 rfl (lv_at hl 2 rfl) ?_
    refine zThenIx (v := f_X6_costOf xk) (S' := S) hS (zRunS (As := [.int xk]) (rest := [.ref (ad 5)]) _ 1 cx (c_X6_costOf l dC dI cyI ad hI S xk) gX6_build_X6_costOf rfl ⟨rfl, rfl⟩ (by decide +kernel) ⟨Nat.le_of_ble_eq_true rfl, Nat.le_of_ble_eq_true rfl⟩ (xN_X ad 36) hXs.1 hK hP hS rfl hl.1 rfl (Nat.le_of_ble_eq_true rfl) dX6_build_45 ⟨Nat.le_of_ble_eq_true rfl, Nat.le_of_ble_eq_true rfl⟩) (fun H locs hP hS => ?_)
    refine zThenVx (S' := g_X2_spend S (f_X6_costOf xk)) hS (zRunV (As := [.int (f_X6_costOf xk)]) (rest := []) _ 1 cx (c_X2_spend l dC dI cyI ad hI S (f_X6_costOf xk)) gX6_build_X2_spend rfl ⟨rfl, rfl⟩ (by decide +kernel) ⟨Nat.le_of_ble_eq_true rfl, Nat.le_of_ble_eq_true rfl⟩ (xN_X ad 36) hXs.1 hK hP hS 5 rfl rfl rfl rfl hl.1 rfl (Nat.le_of_ble_eq_true rfl) dX6_build_48 ⟨Nat.le_of_ble_eq_true rfl, Nat.le_of_ble_eq_true rfl⟩) (fun H locs hP hS => ?_)
    refine lv_aload_n cx.1 cx.2.1 dX6_build_51 rfl (lv_at hl 0 rfl) ?_
    refine zGet (v := .ref (ad 1)) (own := RX6) cx hinX6 hK hP 0 rfl rfl 0 (by decide) (by decide +kernel) rfl rfl dX6_build_52 ?_
    refine lv_iload_n cx.1 cx.2.1 dX6_build_55 rfl (lv_at hl 1 rfl) ?_
    refine lv_iload_n cx.1 cx.2.1 dX6_build_56 rfl (lv_at hl 2 rfl) ?_
    refine zThenVx (S' := g_X0_lay (g_X2_spend S (f_X6_costOf xk)) xc xk) hS (zRunV (As := [.int xc, .int xk]) (rest := []) _ 2 cx (c_X0_lay l dC dI cyI ad hI (g_X2_spend S (f_X6_costOf xk)) xc xk) gX6_build_X0_lay rfl ⟨rfl, rfl⟩ (by decide +kernel) ⟨Nat.le_of_ble_eq_true rfl, Nat.le_of_ble_eq_true rfl⟩ (xN_X ad 36) hXs.1 hK hP hS 1 rfl rfl rfl rfl hl.1 rfl (Nat.le_of_ble_eq_true rfl) dX6_build_57 ⟨Nat.le_of_ble_eq_true rfl, Nat.le_of_ble_eq_true rfl⟩) (fun H locs hP hS => ?_)
    refine lv_aload_n cx.1 cx.2.1 dX6_build_60 rfl (lv_at hl 0 rfl) ?_
    refine zThenVx (S' := g_X6_survey (g_X0_lay (g_X2_spend S (f_X6_costOf xk)) xc xk)) hS (zRunV (As := []) (rest := []) _ 0 cx (c_X6_survey l dC dI cyI ad hI (g_X0_lay (g_X2_spend S (f_X6_costOf xk)) xc xk) ) gX6_build_X6_survey rfl ⟨rfl, rfl⟩ (by decide +kernel) ⟨Nat.le_of_ble_eq_true rfl, Nat.le_of_ble_eq_true rfl⟩ (xN_X ad 36) hXs.1 hK hP hS 0 rfl rfl rfl rfl hl.1 rfl (Nat.le_of_ble_eq_true rfl) dX6_build_61 ⟨Nat.le_of_ble_eq_true rfl, Nat.le_of_ble_eq_true rfl⟩) (fun H locs hP hS => ?_)
    refine lv_aload_n cx.1 cx.2.1 dX6_build_64 rfl (lv_at hl 0 rfl) ?_
    refine zGet (v := .ref (ad 5)) (own := RX6) cx hinX6 hK hP 0 rfl rfl 4 (by decide) (by decide +kernel) rfl rfl dX6_build_65 ?_
    refine zThenIx (v := f_X2_cashNow (g_X6_survey (g_X0_lay (g_X2_spend S (f_X6_costOf xk)) xc xk))) (S' := g_X6_survey (g_X0_lay (g_X2_spend S (f_X6_costOf xk)) xc xk)) hS (zRunV (As := []) (rest := []) _ 0 cx (c_X2_cashNow l dC dI cyI ad hI (g_X6_survey (g_X0_lay (g_X2_spend S (f_X6_costOf xk)) xc xk)) ) gX6_build_X2_cashNow rfl ⟨rfl, rfl⟩ (by decide +kernel) ⟨Nat.le_of_ble_eq_true rfl, Nat.le_of_ble_eq_true rfl⟩ (xN_X ad 36) hXs.1 hK hP hS 5 rfl rfl rfl rfl hl.1 rfl (Nat.le_of_ble_eq_true rfl) dX6_build_68 ⟨Nat.le_of_ble_eq_true rfl, Nat.le_of_ble_eq_true rfl⟩) (fun H locs hP hS => ?_)
    refine vx_ret (W.widen (k := 4) (n := 24) (Nat.le_of_ble_eq_true rfl) (Nat.le_of_ble_eq_true rfl) ?_)
    exact zRetI cx hrt hlk rfl hS hP ⟨(by unfold f_X6_build; rw [if_pos c5]), (by unfold g_X6_build; rw [if_pos c5]), (by unfold t_X6_build; rw [tOr_n t1, tOr_n t3, if_pos c5, tOr_n t6])⟩ dX6_build_71
  · exact xThrow (text := "the cell is not empty") (cls := xIS) (ik := 56) (is := 58) (ic := 60) cx hlf hex hlk hXs rfl (by decide +kernel) (by decide +kernel) (by decide +kernel) (by decide +kernel) (by decide +kernel) (by decide +kernel) (by decide +kernel) (by decide +kernel) hS hP hl.1 (by unfold t_X6_build; rw [tOr_n t1, tOr_n t3, if_neg c5]) dX6_build_22 dX6_build_25 dX6_build_26 dX6_build_28 dX6_build_31 ⟨Nat.le_of_ble_eq_true rfl, Nat.le_of_ble_eq_true rfl, Nat.le_of_ble_eq_true rfl, Nat.le_of_ble_eq_true rfl⟩ ⟨Nat.le_of_ble_eq_true rfl, Nat.le_of_ble_eq_true rfl⟩

def f_X6_tear (S : zS) (xc : Int32) : Int32 := if ¬ (f_X0_kindOf S xc) = 0 then (f_X0_kindOf S xc) else (0)
def g_X6_tear (S : zS) (xc : Int32) : zS := if ¬ (f_X0_kindOf S xc) = 0 then (g_X6_survey (g_X0_lay (g_X2_spend S 5) xc 0)) else (S)
def t_X6_tear (S : zS) (xc : Int32) : Option String := tOr (t_X6_requireCell xc) (if ¬ (f_X0_kindOf S xc) = 0 then (tOr (t_X6_requireCash S 5) (none)) else (some xIS))
theorem fr_X6_tear (S : zS) (xc : Int32) (r : Nat) (h0 : r ≠ 0) (h1 : r ≠ 1) (h10 : r ≠ 10) (h11 : r ≠ 11) (h12 : r ≠ 12) (h13 : r ≠ 13) (h14 : r ≠ 14) (h15 : r ≠ 15) (h16 : r ≠ 16) (h17 : r ≠ 17) (h2 : r ≠ 2) (h3 : r ≠ 3) (h4 : r ≠ 4) (h5 : r ≠ 5) (h6 : r ≠ 6) (h7 : r ≠ 7) (h8 : r ≠ 8) (h9 : r ≠ 9) : g_X6_tear S xc r = S r := by
  unfold g_X6_tear
  (repeat' split) <;> simp [zUp, h0, h1, h10, h11, h12, h13, h14, h15, h16, h17, h2, h3, h4, h5, h6, h7, h8, h9, fr_X0_lay, fr_X2_spend, fr_X6_survey]
set_option maxHeartbeats 4000000 in
set_option maxRecDepth 100000 in
theorem c_X6_tear (l : Launch) (dC : Nat → ClassId) (dI : Nat → Nat → Nat) (cyI : ClassId) (ad : Nat → Nat) (hI : zI ad 36) (hlf : l.stackTraces = false) (S : zS) (xc : Int32) : xMi l (dC, dI) [(cyI, .int)] ad 36 (cw cyI ad) yX6_tear wsX6_tear ({ frames := 7, cells := 4, slots := 24, locals := 139 } : Room) [.ref (ad 0), .int xc] S 4 24 (fun v T => v = f_X6_tear S xc ∧ T = g_X6_tear S xc ∧ t_X6_tear S xc = none) (t_X6_tear S xc) := by
  refine xStartI (by decide) rfl (Nat.le_of_ble_eq_true rfl) ?_
  intro p e s m args below meth c ls cx hrt hlk hex hP hK hXs hl
  have hl : lv_has ls 3 [(0, .ref (ad 0)), (1, .int xc)] := hl
  have hS : va_S (zA ad 36 s.heap.size) s.heap s.heap [] := va_S.rf
  have hinX6 : ∀ w ∈ u_ws RX6 TX6 5, w ∈ wsX6_tear := by decide +kernel
  refine lv_iload_n cx.1 cx.2.1 dX6_tear_0 rfl (lv_at hl 1 rfl) ?_
  refine xThenV hex hlk hS ⟨Nat.le_of_ble_eq_true rfl, Nat.le_of_ble_eq_true rfl⟩ (fun E h => by unfold t_X6_tear; exact tOr_s h) (xRunS (As := [.int xc]) (rest := []) _ _ 1 cx (c_X6_requireCell l dC dI cyI ad hI hlf S xc) gX6_tear_X6_requireCell rfl ⟨rfl, rfl⟩ (by decide +kernel) ⟨Nat.le_of_ble_eq_true rfl, Nat.le_of_ble_eq_true rfl⟩ hXs hK hP hS rfl hl.1 rfl (Nat.le_of_ble_eq_true rfl) dX6_tear_1 ⟨Nat.le_of_ble_eq_true rfl, Nat.le_of_ble_eq_true rfl⟩) (fun T2 H locs hp hP hS => ?_)
  obtain ⟨hT2, t1⟩ := hp
  rw [hT2] at hP
  refine lv_aload_n cx.1 cx.2.1 dX6_tear_4 rfl (lv_at hl 0 rfl) ?_
  refine zGet (v := .ref (ad 1)) (own := RX6) cx hinX6 hK hP 0 rfl rfl 0 (by decide) (by decide +kernel) rfl rfl dX6_tear_5 ?_
  refine lv_iload_n cx.1 cx.2.1 dX6_tear_8 rfl (lv_at hl 1 rfl) ?_
  refine zThenIx (v := f_X0_kindOf S xc) (S' := S) hS (zRunV (As := [.int xc]) (rest := []) _ 1 cx (c_X0_kindOf l dC dI cyI ad hI S xc) gX6_tear_X0_kindOf rfl ⟨rfl, rfl⟩ (by decide +kernel) ⟨Nat.le_of_ble_eq_true rfl, Nat.le_of_ble_eq_true rfl⟩ (xN_X ad 36) hXs.1 hK hP hS 1 rfl rfl rfl rfl hl.1 rfl (Nat.le_of_ble_eq_true rfl) dX6_tear_9 ⟨Nat.le_of_ble_eq_true rfl, Nat.le_of_ble_eq_true rfl⟩) (fun H locs hP hS => ?_)
  refine lv_istore_n (lv' := [(2, .int (f_X0_kindOf S xc)), (0, .ref (ad 0)), (1, .int xc)]) cx.1 cx.2.1 dX6_tear_12 rfl hl (by decide) rfl (fun ls hl => ?_)
  refine lv_iload_n cx.1 cx.2.1 dX6_tear_13 rfl (lv_at hl 0 rfl) ?_
  refine lv_if_ne (tgt := 27) cx.1 cx.2.1 dX6_tear_14 (by decide) (fun c3 => ?_) (fun c3 => ?_)
  · refine lv_aload_n cx.1 cx.2.1 dX6_tear_27 rfl (lv_at hl 1 rfl) ?_
    refine lv_iconst (v := 5) cx.1 cx.2.1 dX6_tear_28 (by decide) ?_
    refine xThenV hex hlk hS ⟨Nat.le_of_ble_eq_true rfl, Nat.le_of_ble_eq_true rfl⟩ (fun E h => by unfold t_X6_tear; rw [tOr_n t1, if_pos c3]; exact tOr_s h) (xRunV (As := [.int 5]) (rest := []) _ _ 1 cx (c_X6_requireCash l dC dI cyI ad hI hlf S 5) gX6_tear_X6_requireCash rfl ⟨rfl, rfl⟩ (by decide +kernel) ⟨Nat.le_of_ble_eq_true rfl, Nat.le_of_ble_eq_true rfl⟩ hXs hK hP hS 0 rfl rfl rfl rfl hl.1 rfl (Nat.le_of_ble_eq_true rfl) dX6_tear_29 ⟨Nat.le_of_ble_eq_true rfl, Nat.le_of_ble_eq_true rfl⟩) (fun T5 H locs hp hP hS => ?_)
    obtain ⟨hT5, t4⟩ := hp
    rw [hT5] at hP
    refine lv_aload_n cx.1 cx.2.1 dX6_tear_32 rfl (lv_at hl 1 rfl) ?_
    refine zGet (v := .ref (ad 5)) (own := RX6) cx hinX6 hK hP 0 rfl rfl 4 (by decide) (by decide +kernel) rfl rfl dX6_tear_33 ?_
    refine lv_iconst (v := 5) cx.1 cx.2.1 dX6_tear_36 (by decide) ?_
    refine zThenVx (S' := g_X2_spend S 5) hS (zRunV (As := [.int 5]) (rest := []) _ 1 cx (c_X2_spend l dC dI cyI ad hI S 5) gX6_tear_X2_spend rfl ⟨rfl, rfl⟩ (by decide +kernel) ⟨Nat.le_of_ble_eq_true rfl, Nat.le_of_ble_eq_true rfl⟩ (xN_X ad 36) hXs.1 hK hP hS 5 rfl rfl rfl rfl hl.1 rfl (Nat.le_of_ble_eq_true rfl) dX6_tear_37 ⟨Nat.le_of_ble_eq_true rfl, Nat.le_of_ble_eq_true rfl⟩) (fun H locs hP hS => ?_)
    refine lv_aload_n cx.1 cx.2.1 dX6_tear_40 rfl (lv_at hl 1 rfl) ?_
    refine zGet (v := .ref (ad 1)) (own := RX6) cx hinX6 hK hP 0 rfl rfl 0 (by decide) (by decide +kernel) rfl rfl dX6_tear_41 ?_
    refine lv_iload_n cx.1 cx.2.1 dX6_tear_44 rfl (lv_at hl 2 rfl) ?_
    refine lv_iconst (v := 0) cx.1 cx.2.1 dX6_tear_45 (by decide) ?_
    refine zThenVx (S' := g_X0_lay (g_X2_spend S 5) xc 0) hS (zRunV (As := [.int xc, .int 0]) (rest := []) _ 2 cx (c_X0_lay l dC dI cyI ad hI (g_X2_spend S 5) xc 0) gX6_tear_X0_lay rfl ⟨rfl, rfl⟩ (by decide +kernel) ⟨Nat.le_of_ble_eq_true rfl, Nat.le_of_ble_eq_true rfl⟩ (xN_X ad 36) hXs.1 hK hP hS 1 rfl rfl rfl rfl hl.1 rfl (Nat.le_of_ble_eq_true rfl) dX6_tear_46 ⟨Nat.le_of_ble_eq_true rfl, Nat.le_of_ble_eq_true rfl⟩) (fun H locs hP hS => ?_)
    refine lv_aload_n cx.1 cx.2.1 dX6_tear_49 rfl (lv_at hl 1 rfl) ?_
    refine zThenVx (S' := g_X6_survey (g_X0_lay (g_X2_spend S 5) xc 0)) hS (zRunV (As := []) (rest := []) _ 0 cx (c_X6_survey l dC dI cyI ad hI (g_X0_lay (g_X2_spend S 5) xc 0) ) gX6_tear_X6_survey rfl ⟨rfl, rfl⟩ (by decide +kernel) ⟨Nat.le_of_ble_eq_true rfl, Nat.le_of_ble_eq_true rfl⟩ (xN_X ad 36) hXs.1 hK hP hS 0 rfl rfl rfl rfl hl.1 rfl (Nat.le_of_ble_eq_true rfl) dX6_tear_50 ⟨Nat.le_of_ble_eq_true rfl, Nat.le_of_ble_eq_true rfl⟩) (fun H locs hP hS => ?_)
    refine lv_iload_n cx.1 cx.2.1 dX6_tear_53 rfl (lv_at hl 0 rfl) ?_
    refine vx_ret (W.widen (k := 4) (n := 24) (Nat.le_of_ble_eq_true rfl) (Nat.le_of_ble_eq_true rfl) ?_)
    exact zRetI cx hrt hlk rfl hS hP ⟨(by unfold f_X6_tear; rw [if_pos c3]), (by unfold g_X6_tear; rw [if_pos c3]), (by unfold t_X6_tear; rw [tOr_n t1, if_pos c3, tOr_n t4])⟩ dX6_tear_54
  · exact xThrow (text := "the cell is empty") (cls := xIS) (ik := 56) (is := 83) (ic := 60) cx hlf hex hlk hXs rfl (by decide +kernel) (by decide +kernel) (by decide +kernel) (by decide +kernel) (by decide +kernel) (by decide +kernel) (by decide +kernel) (by decide +kernel) hS hP hl.1 (by unfold t_X6_tear; rw [tOr_n t1, if_neg (not_not_intro c3)]) dX6_tear_17 dX6_tear_20 dX6_tear_21 dX6_tear_23 dX6_tear_26 ⟨Nat.le_of_ble_eq_true rfl, Nat.le_of_ble_eq_true rfl, Nat.le_of_ble_eq_true rfl, Nat.le_of_ble_eq_true rfl⟩ ⟨Nat.le_of_ble_eq_true rfl, Nat.le_of_ble_eq_true rfl⟩

def f_X6_setTax (S : zS) (xt : Int32) (xv : Int32) : Int32 := f_X2_changeTax S xt xv
def g_X6_setTax (S : zS) (xt : Int32) (xv : Int32) : zS := g_X2_changeTax S xt xv
def t_X6_setTax (S : zS) (xt : Int32) (xv : Int32) : Option String := tOr (t_X6_requireRange xv 0 20) (none)
theorem fr_X6_setTax (S : zS) (xt : Int32) (xv : Int32) (r : Nat) (h17 : r ≠ 17) : g_X6_setTax S xt xv r = S r := by
  unfold g_X6_setTax
  (repeat' split) <;> simp [zUp, h17, fr_X2_changeTax]
set_option maxHeartbeats 4000000 in
set_option maxRecDepth 100000 in
theorem c_X6_setTax (l : Launch) (dC : Nat → ClassId) (dI : Nat → Nat → Nat) (cyI : ClassId) (ad : Nat → Nat) (hI : zI ad 36) (hlf : l.stackTraces = false) (S : zS) (xt : Int32) (xv : Int32) : xMi l (dC, dI) [(cyI, .int)] ad 36 (cw cyI ad) yX6_setTax wsX6_setTax ({ frames := 7, cells := 4, slots := 24, locals := 112 } : Room) [.ref (ad 0), .int xt, .int xv] S 4 24 (fun v T => v = f_X6_setTax S xt xv ∧ T = g_X6_setTax S xt xv ∧ t_X6_setTax S xt xv = none) (t_X6_setTax S xt xv) := by
  refine xStartI (by decide) rfl (Nat.le_of_ble_eq_true rfl) ?_
  intro p e s m args below meth c ls cx hrt hlk hex hP hK hXs hl
  have hl : lv_has ls 3 [(0, .ref (ad 0)), (1, .int xt), (2, .int xv)] := hl
  have hS : va_S (zA ad 36 s.heap.size) s.heap s.heap [] := va_S.rf
  have hinX6 : ∀ w ∈ u_ws RX6 TX6 5, w ∈ wsX6_setTax := by decide +kernel
  refine lv_iload_n cx.1 cx.2.1 dX6_setTax_0 rfl (lv_at hl 2 rfl) ?_
  refine lv_iconst (v := 0) cx.1 cx.2.1 dX6_setTax_1 (by decide) ?_
  refine lv_bipush (v := 20) cx.1 cx.2.1 dX6_setTax_2 (by decide) ?_
  refine xThenV hex hlk hS ⟨Nat.le_of_ble_eq_true rfl, Nat.le_of_ble_eq_true rfl⟩ (fun E h => by unfold t_X6_setTax; exact tOr_s h) (xRunS (As := [.int xv, .int 0, .int 20]) (rest := []) _ _ 3 cx (c_X6_requireRange l dC dI cyI ad hI hlf S xv 0 20) gX6_setTax_X6_requireRange rfl ⟨rfl, rfl⟩ (by decide +kernel) ⟨Nat.le_of_ble_eq_true rfl, Nat.le_of_ble_eq_true rfl⟩ hXs hK hP hS rfl hl.1 rfl (Nat.le_of_ble_eq_true rfl) dX6_setTax_4 ⟨Nat.le_of_ble_eq_true rfl, Nat.le_of_ble_eq_true rfl⟩) (fun T2 H locs hp hP hS => ?_)
  obtain ⟨hT2, t1⟩ := hp
  rw [hT2] at hP
  refine lv_aload_n cx.1 cx.2.1 dX6_setTax_7 rfl (lv_at hl 0 rfl) ?_
  refine zGet (v := .ref (ad 5)) (own := RX6) cx hinX6 hK hP 0 rfl rfl 4 (by decide) (by decide +kernel) rfl rfl dX6_setTax_8 ?_
  refine lv_iload_n cx.1 cx.2.1 dX6_setTax_11 rfl (lv_at hl 1 rfl) ?_
  refine lv_iload_n cx.1 cx.2.1 dX6_setTax_12 rfl (lv_at hl 2 rfl) ?_
  refine zThenIx (v := f_X2_changeTax S xt xv) (S' := g_X2_changeTax S xt xv) hS (zRunV (As := [.int xt, .int xv]) (rest := []) _ 2 cx (c_X2_changeTax l dC dI cyI ad hI S xt xv) gX6_setTax_X2_changeTax rfl ⟨rfl, rfl⟩ (by decide +kernel) ⟨Nat.le_of_ble_eq_true rfl, Nat.le_of_ble_eq_true rfl⟩ (xN_X ad 36) hXs.1 hK hP hS 5 rfl rfl rfl rfl hl.1 rfl (Nat.le_of_ble_eq_true rfl) dX6_setTax_13 ⟨Nat.le_of_ble_eq_true rfl, Nat.le_of_ble_eq_true rfl⟩) (fun H locs hP hS => ?_)
  refine vx_ret (W.widen (k := 4) (n := 24) (Nat.le_of_ble_eq_true rfl) (Nat.le_of_ble_eq_true rfl) ?_)
  exact zRetI cx hrt hlk rfl hS hP ⟨(by unfold f_X6_setTax; rfl), (by unfold g_X6_setTax; rfl), (by unfold t_X6_setTax; rw [tOr_n t1])⟩ dX6_setTax_16

def f_X6_borrow (S : zS) (xa : Int32) : Int32 := if ((f_X2_debtNow S) + xa) ≤ 5000 then f_X2_debtNow (g_X2_lend S xa) else (0)
def g_X6_borrow (S : zS) (xa : Int32) : zS := if ((f_X2_debtNow S) + xa) ≤ 5000 then g_X2_lend S xa else (S)
def t_X6_borrow (S : zS) (xa : Int32) : Option String := tOr (t_X6_requireRange xa 1 1000) (if ((f_X2_debtNow S) + xa) ≤ 5000 then none else (some xIS))
theorem fr_X6_borrow (S : zS) (xa : Int32) (r : Nat) (h17 : r ≠ 17) : g_X6_borrow S xa r = S r := by
  unfold g_X6_borrow
  (repeat' split) <;> simp [zUp, h17, fr_X2_lend]
set_option maxHeartbeats 4000000 in
set_option maxRecDepth 100000 in
theorem c_X6_borrow (l : Launch) (dC : Nat → ClassId) (dI : Nat → Nat → Nat) (cyI : ClassId) (ad : Nat → Nat) (hI : zI ad 36) (hlf : l.stackTraces = false) (S : zS) (xa : Int32) : xMi l (dC, dI) [(cyI, .int)] ad 36 (cw cyI ad) yX6_borrow wsX6_borrow ({ frames := 7, cells := 4, slots := 24, locals := 112 } : Room) [.ref (ad 0), .int xa] S 4 24 (fun v T => v = f_X6_borrow S xa ∧ T = g_X6_borrow S xa ∧ t_X6_borrow S xa = none) (t_X6_borrow S xa) := by
  refine xStartI (by decide) rfl (Nat.le_of_ble_eq_true rfl) ?_
  intro p e s m args below meth c ls cx hrt hlk hex hP hK hXs hl
  have hl : lv_has ls 2 [(0, .ref (ad 0)), (1, .int xa)] := hl
  have hS : va_S (zA ad 36 s.heap.size) s.heap s.heap [] := va_S.rf
  have hinX6 : ∀ w ∈ u_ws RX6 TX6 5, w ∈ wsX6_borrow := by decide +kernel
  refine lv_iload_n cx.1 cx.2.1 dX6_borrow_0 rfl (lv_at hl 1 rfl) ?_
  refine lv_iconst (v := 1) cx.1 cx.2.1 dX6_borrow_1 (by decide) ?_
  refine lv_sipush (v := 1000) cx.1 cx.2.1 dX6_borrow_2 (by decide) ?_
  refine xThenV hex hlk hS ⟨Nat.le_of_ble_eq_true rfl, Nat.le_of_ble_eq_true rfl⟩ (fun E h => by unfold t_X6_borrow; exact tOr_s h) (xRunS (As := [.int xa, .int 1, .int 1000]) (rest := []) _ _ 3 cx (c_X6_requireRange l dC dI cyI ad hI hlf S xa 1 1000) gX6_borrow_X6_requireRange rfl ⟨rfl, rfl⟩ (by decide +kernel) ⟨Nat.le_of_ble_eq_true rfl, Nat.le_of_ble_eq_true rfl⟩ hXs hK hP hS rfl hl.1 rfl (Nat.le_of_ble_eq_true rfl) dX6_borrow_5 ⟨Nat.le_of_ble_eq_true rfl, Nat.le_of_ble_eq_true rfl⟩) (fun T2 H locs hp hP hS => ?_)
  obtain ⟨hT2, t1⟩ := hp
  rw [hT2] at hP
  refine lv_aload_n cx.1 cx.2.1 dX6_borrow_8 rfl (lv_at hl 0 rfl) ?_
  refine zGet (v := .ref (ad 5)) (own := RX6) cx hinX6 hK hP 0 rfl rfl 4 (by decide) (by decide +kernel) rfl rfl dX6_borrow_9 ?_
  refine zThenIx (v := f_X2_debtNow S) (S' := S) hS (zRunV (As := []) (rest := []) _ 0 cx (c_X2_debtNow l dC dI cyI ad hI S ) gX6_borrow_X2_debtNow rfl ⟨rfl, rfl⟩ (by decide +kernel) ⟨Nat.le_of_ble_eq_true rfl, Nat.le_of_ble_eq_true rfl⟩ (xN_X ad 36) hXs.1 hK hP hS 5 rfl rfl rfl rfl hl.1 rfl (Nat.le_of_ble_eq_true rfl) dX6_borrow_12 ⟨Nat.le_of_ble_eq_true rfl, Nat.le_of_ble_eq_true rfl⟩) (fun H locs hP hS => ?_)
  refine lv_iload_n cx.1 cx.2.1 dX6_borrow_15 rfl (lv_at hl 1 rfl) ?_
  refine lv_iadd cx.1 cx.2.1 dX6_borrow_16 ?_
  refine lv_sipush (v := 5000) cx.1 cx.2.1 dX6_borrow_17 (by decide) ?_
  refine lv_icmp_le (tgt := 33) cx.1 cx.2.1 dX6_borrow_20 (by decide) (fun c3 => ?_) (fun c3 => ?_)
  · refine lv_aload_n cx.1 cx.2.1 dX6_borrow_33 rfl (lv_at hl 0 rfl) ?_
    refine zGet (v := .ref (ad 5)) (own := RX6) cx hinX6 hK hP 0 rfl rfl 4 (by decide) (by decide +kernel) rfl rfl dX6_borrow_34 ?_
    refine lv_iload_n cx.1 cx.2.1 dX6_borrow_37 rfl (lv_at hl 1 rfl) ?_
    refine zThenVx (S' := g_X2_lend S xa) hS (zRunV (As := [.int xa]) (rest := []) _ 1 cx (c_X2_lend l dC dI cyI ad hI S xa) gX6_borrow_X2_lend rfl ⟨rfl, rfl⟩ (by decide +kernel) ⟨Nat.le_of_ble_eq_true rfl, Nat.le_of_ble_eq_true rfl⟩ (xN_X ad 36) hXs.1 hK hP hS 5 rfl rfl rfl rfl hl.1 rfl (Nat.le_of_ble_eq_true rfl) dX6_borrow_38 ⟨Nat.le_of_ble_eq_true rfl, Nat.le_of_ble_eq_true rfl⟩) (fun H locs hP hS => ?_)
    refine lv_aload_n cx.1 cx.2.1 dX6_borrow_41 rfl (lv_at hl 0 rfl) ?_
    refine zGet (v := .ref (ad 5)) (own := RX6) cx hinX6 hK hP 0 rfl rfl 4 (by decide) (by decide +kernel) rfl rfl dX6_borrow_42 ?_
    refine zThenIx (v := f_X2_debtNow (g_X2_lend S xa)) (S' := g_X2_lend S xa) hS (zRunV (As := []) (rest := []) _ 0 cx (c_X2_debtNow l dC dI cyI ad hI (g_X2_lend S xa) ) gX6_borrow_X2_debtNow rfl ⟨rfl, rfl⟩ (by decide +kernel) ⟨Nat.le_of_ble_eq_true rfl, Nat.le_of_ble_eq_true rfl⟩ (xN_X ad 36) hXs.1 hK hP hS 5 rfl rfl rfl rfl hl.1 rfl (Nat.le_of_ble_eq_true rfl) dX6_borrow_45 ⟨Nat.le_of_ble_eq_true rfl, Nat.le_of_ble_eq_true rfl⟩) (fun H locs hP hS => ?_)
    refine vx_ret (W.widen (k := 4) (n := 24) (Nat.le_of_ble_eq_true rfl) (Nat.le_of_ble_eq_true rfl) ?_)
    exact zRetI cx hrt hlk rfl hS hP ⟨(by unfold f_X6_borrow; rw [if_pos c3]), (by unfold g_X6_borrow; rw [if_pos c3]), (by unfold t_X6_borrow; rw [tOr_n t1, if_pos c3])⟩ dX6_borrow_48
  · exact xThrow (text := "the debt would be too great") (cls := xIS) (ik := 56) (is := 92) (ic := 60) cx hlf hex hlk hXs rfl (by decide +kernel) (by decide +kernel) (by decide +kernel) (by decide +kernel) (by decide +kernel) (by decide +kernel) (by decide +kernel) (by decide +kernel) hS hP hl.1 (by unfold t_X6_borrow; rw [tOr_n t1, if_neg c3]) dX6_borrow_23 dX6_borrow_26 dX6_borrow_27 dX6_borrow_29 dX6_borrow_32 ⟨Nat.le_of_ble_eq_true rfl, Nat.le_of_ble_eq_true rfl, Nat.le_of_ble_eq_true rfl, Nat.le_of_ble_eq_true rfl⟩ ⟨Nat.le_of_ble_eq_true rfl, Nat.le_of_ble_eq_true rfl⟩

def f_X6_repay (S : zS) (xa : Int32) : Int32 := if xa ≤ (f_X2_debtNow S) then (f_X2_debtNow (g_X2_lend S (-xa))) else (0)
def g_X6_repay (S : zS) (xa : Int32) : zS := if xa ≤ (f_X2_debtNow S) then (g_X2_lend S (-xa)) else (S)
def t_X6_repay (S : zS) (xa : Int32) : Option String := tOr (t_X6_requireRange xa 1 5000) (if xa ≤ (f_X2_debtNow S) then (tOr (t_X6_requireCash S xa) (none)) else (some xIS))
theorem fr_X6_repay (S : zS) (xa : Int32) (r : Nat) (h17 : r ≠ 17) : g_X6_repay S xa r = S r := by
  unfold g_X6_repay
  (repeat' split) <;> simp [zUp, h17, fr_X2_lend]
set_option maxHeartbeats 4000000 in
set_option maxRecDepth 100000 in
theorem c_X6_repay (l : Launch) (dC : Nat → ClassId) (dI : Nat → Nat → Nat) (cyI : ClassId) (ad : Nat → Nat) (hI : zI ad 36) (hlf : l.stackTraces = false) (S : zS) (xa : Int32) : xMi l (dC, dI) [(cyI, .int)] ad 36 (cw cyI ad) yX6_repay wsX6_repay ({ frames := 7, cells := 4, slots := 24, locals := 112 } : Room) [.ref (ad 0), .int xa] S 4 24 (fun v T => v = f_X6_repay S xa ∧ T = g_X6_repay S xa ∧ t_X6_repay S xa = none) (t_X6_repay S xa) := by
  refine xStartI (by decide) rfl (Nat.le_of_ble_eq_true rfl) ?_
  intro p e s m args below meth c ls cx hrt hlk hex hP hK hXs hl
  have hl : lv_has ls 2 [(0, .ref (ad 0)), (1, .int xa)] := hl
  have hS : va_S (zA ad 36 s.heap.size) s.heap s.heap [] := va_S.rf
  have hinX6 : ∀ w ∈ u_ws RX6 TX6 5, w ∈ wsX6_repay := by decide +kernel
  refine lv_iload_n cx.1 cx.2.1 dX6_repay_0 rfl (lv_at hl 1 rfl) ?_
  refine lv_iconst (v := 1) cx.1 cx.2.1 dX6_repay_1 (by decide) ?_
  refine lv_sipush (v := 5000) cx.1 cx.2.1 dX6_repay_2 (by decide) ?_
  refine xThenV hex hlk hS ⟨Nat.le_of_ble_eq_true rfl, Nat.le_of_ble_eq_true rfl⟩ (fun E h => by unfold t_X6_repay; exact tOr_s h) (xRunS (As := [.int xa, .int 1, .int 5000]) (rest := []) _ _ 3 cx (c_X6_requireRange l dC dI cyI ad hI hlf S xa 1 5000) gX6_repay_X6_requireRange rfl ⟨rfl, rfl⟩ (by decide +kernel) ⟨Nat.le_of_ble_eq_true rfl, Nat.le_of_ble_eq_true rfl⟩ hXs hK hP hS rfl hl.1 rfl (Nat.le_of_ble_eq_true rfl) dX6_repay_5 ⟨Nat.le_of_ble_eq_true rfl, Nat.le_of_ble_eq_true rfl⟩) (fun T2 H locs hp hP hS => ?_)
  obtain ⟨hT2, t1⟩ := hp
  rw [hT2] at hP
  refine lv_iload_n cx.1 cx.2.1 dX6_repay_8 rfl (lv_at hl 1 rfl) ?_
  refine lv_aload_n cx.1 cx.2.1 dX6_repay_9 rfl (lv_at hl 0 rfl) ?_
  refine zGet (v := .ref (ad 5)) (own := RX6) cx hinX6 hK hP 0 rfl rfl 4 (by decide) (by decide +kernel) rfl rfl dX6_repay_10 ?_
  refine zThenIx (v := f_X2_debtNow S) (S' := S) hS (zRunV (As := []) (rest := [.int xa]) _ 0 cx (c_X2_debtNow l dC dI cyI ad hI S ) gX6_repay_X2_debtNow rfl ⟨rfl, rfl⟩ (by decide +kernel) ⟨Nat.le_of_ble_eq_true rfl, Nat.le_of_ble_eq_true rfl⟩ (xN_X ad 36) hXs.1 hK hP hS 5 rfl rfl rfl rfl hl.1 rfl (Nat.le_of_ble_eq_true rfl) dX6_repay_13 ⟨Nat.le_of_ble_eq_true rfl, Nat.le_of_ble_eq_true rfl⟩) (fun H locs hP hS => ?_)
  refine lv_icmp_le (tgt := 29) cx.1 cx.2.1 dX6_repay_16 (by decide) (fun c3 => ?_) (fun c3 => ?_)
  · refine lv_aload_n cx.1 cx.2.1 dX6_repay_29 rfl (lv_at hl 0 rfl) ?_
    refine lv_iload_n cx.1 cx.2.1 dX6_repay_30 rfl (lv_at hl 1 rfl) ?_
    refine xThenV hex hlk hS ⟨Nat.le_of_ble_eq_true rfl, Nat.le_of_ble_eq_true rfl⟩ (fun E h => by unfold t_X6_repay; rw [tOr_n t1, if_pos c3]; exact tOr_s h) (xRunV (As := [.int xa]) (rest := []) _ _ 1 cx (c_X6_requireCash l dC dI cyI ad hI hlf S xa) gX6_repay_X6_requireCash rfl ⟨rfl, rfl⟩ (by decide +kernel) ⟨Nat.le_of_ble_eq_true rfl, Nat.le_of_ble_eq_true rfl⟩ hXs hK hP hS 0 rfl rfl rfl rfl hl.1 rfl (Nat.le_of_ble_eq_true rfl) dX6_repay_31 ⟨Nat.le_of_ble_eq_true rfl, Nat.le_of_ble_eq_true rfl⟩) (fun T5 H locs hp hP hS => ?_)
    obtain ⟨hT5, t4⟩ := hp
    rw [hT5] at hP
    refine lv_aload_n cx.1 cx.2.1 dX6_repay_34 rfl (lv_at hl 0 rfl) ?_
    refine zGet (v := .ref (ad 5)) (own := RX6) cx hinX6 hK hP 0 rfl rfl 4 (by decide) (by decide +kernel) rfl rfl dX6_repay_35 ?_
    refine lv_iload_n cx.1 cx.2.1 dX6_repay_38 rfl (lv_at hl 1 rfl) ?_
    refine lv_ineg cx.1 cx.2.1 dX6_repay_39 ?_
    refine zThenVx (S' := g_X2_lend S (-xa)) hS (zRunV (As := [.int (-xa)]) (rest := []) _ 1 cx (c_X2_lend l dC dI cyI ad hI S (-xa)) gX6_repay_X2_lend rfl ⟨rfl, rfl⟩ (by decide +kernel) ⟨Nat.le_of_ble_eq_true rfl, Nat.le_of_ble_eq_true rfl⟩ (xN_X ad 36) hXs.1 hK hP hS 5 rfl rfl rfl rfl hl.1 rfl (Nat.le_of_ble_eq_true rfl) dX6_repay_40 ⟨Nat.le_of_ble_eq_true rfl, Nat.le_of_ble_eq_true rfl⟩) (fun H locs hP hS => ?_)
    refine lv_aload_n cx.1 cx.2.1 dX6_repay_43 rfl (lv_at hl 0 rfl) ?_
    refine zGet (v := .ref (ad 5)) (own := RX6) cx hinX6 hK hP 0 rfl rfl 4 (by decide) (by decide +kernel) rfl rfl dX6_repay_44 ?_
    refine zThenIx (v := f_X2_debtNow (g_X2_lend S (-xa))) (S' := g_X2_lend S (-xa)) hS (zRunV (As := []) (rest := []) _ 0 cx (c_X2_debtNow l dC dI cyI ad hI (g_X2_lend S (-xa)) ) gX6_repay_X2_debtNow rfl ⟨rfl, rfl⟩ (by decide +kernel) ⟨Nat.le_of_ble_eq_true rfl, Nat.le_of_ble_eq_true rfl⟩ (xN_X ad 36) hXs.1 hK hP hS 5 rfl rfl rfl rfl hl.1 rfl (Nat.le_of_ble_eq_true rfl) dX6_repay_47 ⟨Nat.le_of_ble_eq_true rfl, Nat.le_of_ble_eq_true rfl⟩) (fun H locs hP hS => ?_)
    refine vx_ret (W.widen (k := 4) (n := 24) (Nat.le_of_ble_eq_true rfl) (Nat.le_of_ble_eq_true rfl) ?_)
    exact zRetI cx hrt hlk rfl hS hP ⟨(by unfold f_X6_repay; rw [if_pos c3]), (by unfold g_X6_repay; rw [if_pos c3]), (by unfold t_X6_repay; rw [tOr_n t1, if_pos c3, tOr_n t4])⟩ dX6_repay_50
  · exact xThrow (text := "it is more than the debt") (cls := xIS) (ik := 56) (is := 97) (ic := 60) cx hlf hex hlk hXs rfl (by decide +kernel) (by decide +kernel) (by decide +kernel) (by decide +kernel) (by decide +kernel) (by decide +kernel) (by decide +kernel) (by decide +kernel) hS hP hl.1 (by unfold t_X6_repay; rw [tOr_n t1, if_neg c3]) dX6_repay_19 dX6_repay_22 dX6_repay_23 dX6_repay_25 dX6_repay_28 ⟨Nat.le_of_ble_eq_true rfl, Nat.le_of_ble_eq_true rfl, Nat.le_of_ble_eq_true rfl, Nat.le_of_ble_eq_true rfl⟩ ⟨Nat.le_of_ble_eq_true rfl, Nat.le_of_ble_eq_true rfl⟩

def bd_X6_pass_17 (S : zS) (xm : Int32) (i : Nat) (T17 : zS) : zS := g_X6_passMonth T17
def lp_X6_pass_17 (S : zS) (xm : Int32) (T170 : zS) : Nat → zS
  | 0 => (T170)
  | q + 1 => bd_X6_pass_17 S xm q (lp_X6_pass_17 S xm T170 q)
def f_X6_pass (S : zS) (xm : Int32) : Int32 := (f_X2_cashNow (lp_X6_pass_17 S xm S xm.toNatClampNeg)) - (f_X2_cashNow S)
def g_X6_pass (S : zS) (xm : Int32) : zS := (lp_X6_pass_17 S xm S xm.toNatClampNeg)
def t_X6_pass (S : zS) (xm : Int32) : Option String := tOr (t_X6_requireRange xm 1 12) (none)
theorem fr_bd_X6_pass_17 (S : zS) (xm : Int32) (i : Nat) (T17 : zS) (r : Nat) (h1 : r ≠ 1) (h10 : r ≠ 10) (h11 : r ≠ 11) (h12 : r ≠ 12) (h13 : r ≠ 13) (h14 : r ≠ 14) (h16 : r ≠ 16) (h17 : r ≠ 17) (h6 : r ≠ 6) (h7 : r ≠ 7) (h8 : r ≠ 8) (h9 : r ≠ 9) : (bd_X6_pass_17 S xm i T17) r = T17 r := by
  unfold bd_X6_pass_17
  (repeat' split) <;> simp [zUp, h1, h10, h11, h12, h13, h14, h16, h17, h6, h7, h8, h9, fr_X6_passMonth]
theorem fr_lp_X6_pass_17 (S : zS) (xm : Int32) (T170 : zS) (r : Nat) (h1 : r ≠ 1) (h10 : r ≠ 10) (h11 : r ≠ 11) (h12 : r ≠ 12) (h13 : r ≠ 13) (h14 : r ≠ 14) (h16 : r ≠ 16) (h17 : r ≠ 17) (h6 : r ≠ 6) (h7 : r ≠ 7) (h8 : r ≠ 8) (h9 : r ≠ 9) : ∀ n, (lp_X6_pass_17 S xm T170 n) r = T170 r
  | 0 => rfl
  | n + 1 => by
    show (bd_X6_pass_17 S xm n (lp_X6_pass_17 S xm T170 n)) r = _
    rw [fr_bd_X6_pass_17 _ _ _ _ r h1 h10 h11 h12 h13 h14 h16 h17 h6 h7 h8 h9]
    exact fr_lp_X6_pass_17 S xm T170 r h1 h10 h11 h12 h13 h14 h16 h17 h6 h7 h8 h9 n
theorem fr_X6_pass (S : zS) (xm : Int32) (r : Nat) (h1 : r ≠ 1) (h10 : r ≠ 10) (h11 : r ≠ 11) (h12 : r ≠ 12) (h13 : r ≠ 13) (h14 : r ≠ 14) (h16 : r ≠ 16) (h17 : r ≠ 17) (h6 : r ≠ 6) (h7 : r ≠ 7) (h8 : r ≠ 8) (h9 : r ≠ 9) : g_X6_pass S xm r = S r := by
  unfold g_X6_pass
  (repeat' split) <;> simp [zUp, h1, h10, h11, h12, h13, h14, h16, h17, h6, h7, h8, h9, fr_X6_passMonth, fr_lp_X6_pass_17]
set_option maxHeartbeats 4000000 in
set_option maxRecDepth 100000 in
theorem c_X6_pass (l : Launch) (dC : Nat → ClassId) (dI : Nat → Nat → Nat) (cyI : ClassId) (ad : Nat → Nat) (hI : zI ad 36) (hlf : l.stackTraces = false) (S : zS) (xm : Int32) : xMi l (dC, dI) [(cyI, .int)] ad 36 (cw cyI ad) yX6_pass wsX6_pass ({ frames := 7, cells := 4, slots := 24, locals := 156 } : Room) [.ref (ad 0), .int xm] S 4 24 (fun v T => v = f_X6_pass S xm ∧ T = g_X6_pass S xm ∧ t_X6_pass S xm = none) (t_X6_pass S xm) := by
  refine xStartI (by decide) rfl (Nat.le_of_ble_eq_true rfl) ?_
  intro p e s m args below meth c ls cx hrt hlk hex hP hK hXs hl
  have hl : lv_has ls 4 [(0, .ref (ad 0)), (1, .int xm)] := hl
  have hS : va_S (zA ad 36 s.heap.size) s.heap s.heap [] := va_S.rf
  have hinX6 : ∀ w ∈ u_ws RX6 TX6 5, w ∈ wsX6_pass := by decide +kernel
  refine lv_iload_n cx.1 cx.2.1 dX6_pass_0 rfl (lv_at hl 1 rfl) ?_
  refine lv_iconst (v := 1) cx.1 cx.2.1 dX6_pass_1 (by decide) ?_
  refine lv_bipush (v := 12) cx.1 cx.2.1 dX6_pass_2 (by decide) ?_
  refine xThenV hex hlk hS ⟨Nat.le_of_ble_eq_true rfl, Nat.le_of_ble_eq_true rfl⟩ (fun E h => by unfold t_X6_pass; exact tOr_s h) (xRunS (As := [.int xm, .int 1, .int 12]) (rest := []) _ _ 3 cx (c_X6_requireRange l dC dI cyI ad hI hlf S xm 1 12) gX6_pass_X6_requireRange rfl ⟨rfl, rfl⟩ (by decide +kernel) ⟨Nat.le_of_ble_eq_true rfl, Nat.le_of_ble_eq_true rfl⟩ hXs hK hP hS rfl hl.1 rfl (Nat.le_of_ble_eq_true rfl) dX6_pass_4 ⟨Nat.le_of_ble_eq_true rfl, Nat.le_of_ble_eq_true rfl⟩) (fun T2 H locs hp hP hS => ?_)
  obtain ⟨hT2, t1⟩ := hp
  rw [hT2] at hP
  refine lv_aload_n cx.1 cx.2.1 dX6_pass_7 rfl (lv_at hl 0 rfl) ?_
  refine zGet (v := .ref (ad 5)) (own := RX6) cx hinX6 hK hP 0 rfl rfl 4 (by decide) (by decide +kernel) rfl rfl dX6_pass_8 ?_
  refine zThenIx (v := f_X2_cashNow S) (S' := S) hS (zRunV (As := []) (rest := []) _ 0 cx (c_X2_cashNow l dC dI cyI ad hI S ) gX6_pass_X2_cashNow rfl ⟨rfl, rfl⟩ (by decide +kernel) ⟨Nat.le_of_ble_eq_true rfl, Nat.le_of_ble_eq_true rfl⟩ (xN_X ad 36) hXs.1 hK hP hS 5 rfl rfl rfl rfl hl.1 rfl (Nat.le_of_ble_eq_true rfl) dX6_pass_11 ⟨Nat.le_of_ble_eq_true rfl, Nat.le_of_ble_eq_true rfl⟩) (fun H locs hP hS => ?_)
  refine lv_istore_n (lv' := [(2, .int (f_X2_cashNow S)), (0, .ref (ad 0)), (1, .int xm)]) cx.1 cx.2.1 dX6_pass_14 rfl hl (by decide) rfl (fun ls hl => ?_)
  refine lv_iconst (v := 0) cx.1 cx.2.1 dX6_pass_15 (by decide) ?_
  refine lv_istore_n (lv' := [(3, .int 0), (2, .int (f_X2_cashNow S)), (0, .ref (ad 0)), (1, .int xm)]) cx.1 cx.2.1 dX6_pass_16 rfl hl (by decide) rfl (fun ls hl => ?_)
  obtain ⟨Q, hQ⟩ : ∃ Q, Q = vx_MQ below (zQi (dC, dI) (cw cyI ad) (fun v T => v = f_X6_pass S xm ∧ T = g_X6_pass S xm ∧ t_X6_pass S xm = none) (zA ad 36 s.heap.size)) (xXC (dC, dI) (cw cyI ad) S (t_X6_pass S xm) (zA ad 36 s.heap.size)) args s 4 24 (zA ad 36 s.heap.size) := ⟨_, rfl⟩
  rw [← hQ]
  have hbm : xm.toNatClampNeg < 2 ^ 31 := clamp_lt _
  have lp17 : ∀ (fu i : Nat) (T17 : zS) (hi17 : i ≤ xm.toNatClampNeg) (hacc17 : lp_X6_pass_17 S xm S i = T17)  (_ : xm.toNatClampNeg - i < fu) (H : Heap) (locs : List Loc) (ls : Array Slot), va_P (dC, dI) vwCl (cw cyI ad T17) H → va_S (zA ad 36 s.heap.size) s.heap H locs → lv_has ls 4 [(3, .int (nI i)), (2, .int (f_X2_cashNow S)), (0, .ref (ad 0)), (1, .int xm)] → W p l e (headSpec wsX6_pass ({ frames := 7, cells := 4, slots := 24, locals := 156 } : Room)).room s m args below meth c H locs 1 6 Q (F0 m 17 ls []) := by
    intro fu
    induction fu with
    | zero => intro i T17 hi17 hacc17  hm; exact absurd hm (Nat.not_lt_zero _)
    | succ fu ih17 =>
      intro i T17 hi17 hacc17  hm H locs ls hP hS hl
      refine lv_iload_n cx.1 cx.2.1 dX6_pass_17 rfl (lv_at hl 0 rfl) ?_
      refine lv_iload_n cx.1 cx.2.1 dX6_pass_18 rfl (lv_at hl 3 rfl) ?_
      refine lv_icmp_ge (tgt := 32) cx.1 cx.2.1 dX6_pass_19 (by decide) (fun c3 => ?_) (fun c3 => ?_)
      · have nc3 : xm.toNatClampNeg ≤ i := (nI_leC (x := xm) (i := i) (by omega)).mp c3
        obtain rfl : i = xm.toNatClampNeg := by omega
        subst hacc17
        refine lv_aload_n cx.1 cx.2.1 dX6_pass_32 rfl (lv_at hl 2 rfl) ?_
        refine zGet (v := .ref (ad 5)) (own := RX6) cx hinX6 hK hP 0 rfl rfl 4 (by decide) (by decide +kernel) rfl rfl dX6_pass_33 ?_
        refine zThenIx (v := f_X2_cashNow (lp_X6_pass_17 S xm S xm.toNatClampNeg)) (S' := (lp_X6_pass_17 S xm S xm.toNatClampNeg)) hS (zRunV (As := []) (rest := []) _ 0 cx (c_X2_cashNow l dC dI cyI ad hI (lp_X6_pass_17 S xm S xm.toNatClampNeg) ) gX6_pass_X2_cashNow rfl ⟨rfl, rfl⟩ (by decide +kernel) ⟨Nat.le_of_ble_eq_true rfl, Nat.le_of_ble_eq_true rfl⟩ (xN_X ad 36) hXs.1 hK hP hS 5 rfl rfl rfl rfl hl.1 rfl (Nat.le_of_ble_eq_true rfl) dX6_pass_36 ⟨Nat.le_of_ble_eq_true rfl, Nat.le_of_ble_eq_true rfl⟩) (fun H locs hP hS => ?_)
        refine lv_iload_n cx.1 cx.2.1 dX6_pass_39 rfl (lv_at hl 1 rfl) ?_
        refine lv_isub cx.1 cx.2.1 dX6_pass_40 ?_
        rw [hQ]
        refine vx_ret (W.widen (k := 4) (n := 24) (Nat.le_of_ble_eq_true rfl) (Nat.le_of_ble_eq_true rfl) ?_)
        exact zRetI cx hrt hlk rfl hS hP ⟨(by unfold f_X6_pass; rfl), (by unfold g_X6_pass; rfl), (by unfold t_X6_pass; rw [tOr_n t1])⟩ dX6_pass_41
      · have nc3 : ¬ xm.toNatClampNeg ≤ i := fun z => c3 ((nI_leC (x := xm) (i := i) (by omega)).mpr z)
        refine lv_aload_n cx.1 cx.2.1 dX6_pass_22 rfl (lv_at hl 2 rfl) ?_
        refine zThenVx (S' := g_X6_passMonth T17) hS (zRunV (As := []) (rest := []) _ 0 cx (c_X6_passMonth l dC dI cyI ad hI T17 ) gX6_pass_X6_passMonth rfl ⟨rfl, rfl⟩ (by decide +kernel) ⟨Nat.le_of_ble_eq_true rfl, Nat.le_of_ble_eq_true rfl⟩ (xN_X ad 36) hXs.1 hK hP hS 0 rfl rfl rfl rfl hl.1 rfl (Nat.le_of_ble_eq_true rfl) dX6_pass_23 ⟨Nat.le_of_ble_eq_true rfl, Nat.le_of_ble_eq_true rfl⟩) (fun H locs hP hS => ?_)
        refine lv_iinc (v := nI (i + 1)) (lv' := [(3, .int (nI (i + 1))), (2, .int (f_X2_cashNow S)), (0, .ref (ad 0)), (1, .int xm)]) cx.1 cx.2.1 dX6_pass_26 hl (k := 0) rfl (nI_1 i) (by decide) rfl (fun ls hl => ?_)
        refine lv_goto (tgt := 17) cx.1 cx.2.1 dX6_pass_29 (by decide) ?_
        have ha17 : lp_X6_pass_17 S xm S (i + 1) = g_X6_passMonth T17 := by
          show bd_X6_pass_17 S xm i (lp_X6_pass_17 S xm S i) = _
          rw [hacc17]
          unfold bd_X6_pass_17
          rfl
        exact ih17 (i + 1) (g_X6_passMonth T17) (by omega) ha17  (by omega) _ _ ls hP hS (lv_sub hl [0, 1, 2, 3] rfl)
  exact lp17 (xm.toNatClampNeg - 0 + 1) 0 S (by omega) rfl  (Nat.lt_succ_self _) _ _ ls hP hS (lv_sub hl [0, 1, 2, 3] rfl)

def f_X6_cash (S : zS)  : Int32 := f_X2_cashNow S
set_option maxHeartbeats 4000000 in
set_option maxRecDepth 100000 in
theorem c_X6_cash (l : Launch) (dC : Nat → ClassId) (dI : Nat → Nat → Nat) (cyI : ClassId) (ad : Nat → Nat) (hI : zI ad 36) (S : zS)  : zMi l (dC, dI) [(cyI, .int)] ad 36 xN (cw cyI ad) yX6_cash wsX6_cash ({ frames := 1, cells := 0, slots := 0, locals := 20 } : Room) [.ref (ad 0)] S (fun v T => v = f_X6_cash S ∧ T = S) := by
  refine zStartI (by decide) rfl (Nat.le_of_ble_eq_true rfl) ?_
  intro p e s m args below meth c ls cx hrt hlk hP hK hXs hl
  have hl : lv_has ls 1 [(0, .ref (ad 0))] := hl
  have hS : va_S (zA ad 36 s.heap.size) s.heap s.heap [] := va_S.rf
  have hinX6 : ∀ w ∈ u_ws RX6 TX6 5, w ∈ wsX6_cash := by decide +kernel
  refine lv_aload_n cx.1 cx.2.1 dX6_cash_0 rfl (lv_at hl 0 rfl) ?_
  refine zGet (v := .ref (ad 5)) (own := RX6) cx hinX6 hK hP 0 rfl rfl 4 (by decide) (by decide +kernel) rfl rfl dX6_cash_1 ?_
  refine zThenIx (v := f_X2_cashNow S) (S' := S) hS (zRunV (As := []) (rest := []) _ 0 cx (c_X2_cashNow l dC dI cyI ad hI S ) gX6_cash_X2_cashNow rfl ⟨rfl, rfl⟩ (by decide +kernel) ⟨Nat.le_of_ble_eq_true rfl, Nat.le_of_ble_eq_true rfl⟩ (xN_X ad 36) hXs hK hP hS 5 rfl rfl rfl rfl hl.1 rfl (Nat.le_of_ble_eq_true rfl) dX6_cash_4 ⟨Nat.zero_le _, Nat.zero_le _⟩) (fun H locs hP hS => ?_)
  exact zRetI cx hrt hlk rfl hS hP ⟨(by unfold f_X6_cash; rfl), rfl⟩ dX6_cash_7

def f_X6_debt (S : zS)  : Int32 := f_X2_debtNow S
set_option maxHeartbeats 4000000 in
set_option maxRecDepth 100000 in
theorem c_X6_debt (l : Launch) (dC : Nat → ClassId) (dI : Nat → Nat → Nat) (cyI : ClassId) (ad : Nat → Nat) (hI : zI ad 36) (S : zS)  : zMi l (dC, dI) [(cyI, .int)] ad 36 xN (cw cyI ad) yX6_debt wsX6_debt ({ frames := 1, cells := 0, slots := 0, locals := 20 } : Room) [.ref (ad 0)] S (fun v T => v = f_X6_debt S ∧ T = S) := by
  refine zStartI (by decide) rfl (Nat.le_of_ble_eq_true rfl) ?_
  intro p e s m args below meth c ls cx hrt hlk hP hK hXs hl
  have hl : lv_has ls 1 [(0, .ref (ad 0))] := hl
  have hS : va_S (zA ad 36 s.heap.size) s.heap s.heap [] := va_S.rf
  have hinX6 : ∀ w ∈ u_ws RX6 TX6 5, w ∈ wsX6_debt := by decide +kernel
  refine lv_aload_n cx.1 cx.2.1 dX6_debt_0 rfl (lv_at hl 0 rfl) ?_
  refine zGet (v := .ref (ad 5)) (own := RX6) cx hinX6 hK hP 0 rfl rfl 4 (by decide) (by decide +kernel) rfl rfl dX6_debt_1 ?_
  refine zThenIx (v := f_X2_debtNow S) (S' := S) hS (zRunV (As := []) (rest := []) _ 0 cx (c_X2_debtNow l dC dI cyI ad hI S ) gX6_debt_X2_debtNow rfl ⟨rfl, rfl⟩ (by decide +kernel) ⟨Nat.le_of_ble_eq_true rfl, Nat.le_of_ble_eq_true rfl⟩ (xN_X ad 36) hXs hK hP hS 5 rfl rfl rfl rfl hl.1 rfl (Nat.le_of_ble_eq_true rfl) dX6_debt_4 ⟨Nat.zero_le _, Nat.zero_le _⟩) (fun H locs hP hS => ?_)
  exact zRetI cx hrt hlk rfl hS hP ⟨(by unfold f_X6_debt; rfl), rfl⟩ dX6_debt_7

def f_X6_earned (S : zS)  : Int32 := f_X2_earnedNow S
set_option maxHeartbeats 4000000 in
set_option maxRecDepth 100000 in
theorem c_X6_earned (l : Launch) (dC : Nat → ClassId) (dI : Nat → Nat → Nat) (cyI : ClassId) (ad : Nat → Nat) (hI : zI ad 36) (S : zS)  : zMi l (dC, dI) [(cyI, .int)] ad 36 xN (cw cyI ad) yX6_earned wsX6_earned ({ frames := 1, cells := 0, slots := 0, locals := 20 } : Room) [.ref (ad 0)] S (fun v T => v = f_X6_earned S ∧ T = S) := by
  refine zStartI (by decide) rfl (Nat.le_of_ble_eq_true rfl) ?_
  intro p e s m args below meth c ls cx hrt hlk hP hK hXs hl
  have hl : lv_has ls 1 [(0, .ref (ad 0))] := hl
  have hS : va_S (zA ad 36 s.heap.size) s.heap s.heap [] := va_S.rf
  have hinX6 : ∀ w ∈ u_ws RX6 TX6 5, w ∈ wsX6_earned := by decide +kernel
  refine lv_aload_n cx.1 cx.2.1 dX6_earned_0 rfl (lv_at hl 0 rfl) ?_
  refine zGet (v := .ref (ad 5)) (own := RX6) cx hinX6 hK hP 0 rfl rfl 4 (by decide) (by decide +kernel) rfl rfl dX6_earned_1 ?_
  refine zThenIx (v := f_X2_earnedNow S) (S' := S) hS (zRunV (As := []) (rest := []) _ 0 cx (c_X2_earnedNow l dC dI cyI ad hI S ) gX6_earned_X2_earnedNow rfl ⟨rfl, rfl⟩ (by decide +kernel) ⟨Nat.le_of_ble_eq_true rfl, Nat.le_of_ble_eq_true rfl⟩ (xN_X ad 36) hXs hK hP hS 5 rfl rfl rfl rfl hl.1 rfl (Nat.le_of_ble_eq_true rfl) dX6_earned_4 ⟨Nat.zero_le _, Nat.zero_le _⟩) (fun H locs hP hS => ?_)
  exact zRetI cx hrt hlk rfl hS hP ⟨(by unfold f_X6_earned; rfl), rfl⟩ dX6_earned_7

def f_X6_kind (S : zS) (xc : Int32) : Int32 := f_X0_kindOf S xc
def t_X6_kind (S : zS) (xc : Int32) : Option String := tOr (t_X6_requireCell xc) (none)
set_option maxHeartbeats 4000000 in
set_option maxRecDepth 100000 in
theorem c_X6_kind (l : Launch) (dC : Nat → ClassId) (dI : Nat → Nat → Nat) (cyI : ClassId) (ad : Nat → Nat) (hI : zI ad 36) (hlf : l.stackTraces = false) (S : zS) (xc : Int32) : xMi l (dC, dI) [(cyI, .int)] ad 36 (cw cyI ad) yX6_kind wsX6_kind ({ frames := 7, cells := 4, slots := 24, locals := 110 } : Room) [.ref (ad 0), .int xc] S 4 24 (fun v T => v = f_X6_kind S xc ∧ T = S ∧ t_X6_kind S xc = none) (t_X6_kind S xc) := by
  refine xStartI (by decide) rfl (Nat.le_of_ble_eq_true rfl) ?_
  intro p e s m args below meth c ls cx hrt hlk hex hP hK hXs hl
  have hl : lv_has ls 2 [(0, .ref (ad 0)), (1, .int xc)] := hl
  have hS : va_S (zA ad 36 s.heap.size) s.heap s.heap [] := va_S.rf
  have hinX6 : ∀ w ∈ u_ws RX6 TX6 5, w ∈ wsX6_kind := by decide +kernel
  refine lv_iload_n cx.1 cx.2.1 dX6_kind_0 rfl (lv_at hl 1 rfl) ?_
  refine xThenV hex hlk hS ⟨Nat.le_of_ble_eq_true rfl, Nat.le_of_ble_eq_true rfl⟩ (fun E h => by unfold t_X6_kind; exact tOr_s h) (xRunS (As := [.int xc]) (rest := []) _ _ 1 cx (c_X6_requireCell l dC dI cyI ad hI hlf S xc) gX6_kind_X6_requireCell rfl ⟨rfl, rfl⟩ (by decide +kernel) ⟨Nat.le_of_ble_eq_true rfl, Nat.le_of_ble_eq_true rfl⟩ hXs hK hP hS rfl hl.1 rfl (Nat.le_of_ble_eq_true rfl) dX6_kind_1 ⟨Nat.le_of_ble_eq_true rfl, Nat.le_of_ble_eq_true rfl⟩) (fun T2 H locs hp hP hS => ?_)
  obtain ⟨hT2, t1⟩ := hp
  rw [hT2] at hP
  refine lv_aload_n cx.1 cx.2.1 dX6_kind_4 rfl (lv_at hl 0 rfl) ?_
  refine zGet (v := .ref (ad 1)) (own := RX6) cx hinX6 hK hP 0 rfl rfl 0 (by decide) (by decide +kernel) rfl rfl dX6_kind_5 ?_
  refine lv_iload_n cx.1 cx.2.1 dX6_kind_8 rfl (lv_at hl 1 rfl) ?_
  refine zThenIx (v := f_X0_kindOf S xc) (S' := S) hS (zRunV (As := [.int xc]) (rest := []) _ 1 cx (c_X0_kindOf l dC dI cyI ad hI S xc) gX6_kind_X0_kindOf rfl ⟨rfl, rfl⟩ (by decide +kernel) ⟨Nat.le_of_ble_eq_true rfl, Nat.le_of_ble_eq_true rfl⟩ (xN_X ad 36) hXs.1 hK hP hS 1 rfl rfl rfl rfl hl.1 rfl (Nat.le_of_ble_eq_true rfl) dX6_kind_9 ⟨Nat.le_of_ble_eq_true rfl, Nat.le_of_ble_eq_true rfl⟩) (fun H locs hP hS => ?_)
  refine vx_ret (W.widen (k := 4) (n := 24) (Nat.le_of_ble_eq_true rfl) (Nat.le_of_ble_eq_true rfl) ?_)
  exact zRetI cx hrt hlk rfl hS hP ⟨(by unfold f_X6_kind; rfl), rfl, (by unfold t_X6_kind; rw [tOr_n t1])⟩ dX6_kind_12

def f_X6_level (S : zS) (xc : Int32) : Int32 := f_X0_levelOf S xc
def t_X6_level (S : zS) (xc : Int32) : Option String := tOr (t_X6_requireCell xc) (none)
set_option maxHeartbeats 4000000 in
set_option maxRecDepth 100000 in
theorem c_X6_level (l : Launch) (dC : Nat → ClassId) (dI : Nat → Nat → Nat) (cyI : ClassId) (ad : Nat → Nat) (hI : zI ad 36) (hlf : l.stackTraces = false) (S : zS) (xc : Int32) : xMi l (dC, dI) [(cyI, .int)] ad 36 (cw cyI ad) yX6_level wsX6_level ({ frames := 7, cells := 4, slots := 24, locals := 110 } : Room) [.ref (ad 0), .int xc] S 4 24 (fun v T => v = f_X6_level S xc ∧ T = S ∧ t_X6_level S xc = none) (t_X6_level S xc) := by
  refine xStartI (by decide) rfl (Nat.le_of_ble_eq_true rfl) ?_
  intro p e s m args below meth c ls cx hrt hlk hex hP hK hXs hl
  have hl : lv_has ls 2 [(0, .ref (ad 0)), (1, .int xc)] := hl
  have hS : va_S (zA ad 36 s.heap.size) s.heap s.heap [] := va_S.rf
  have hinX6 : ∀ w ∈ u_ws RX6 TX6 5, w ∈ wsX6_level := by decide +kernel
  refine lv_iload_n cx.1 cx.2.1 dX6_level_0 rfl (lv_at hl 1 rfl) ?_
  refine xThenV hex hlk hS ⟨Nat.le_of_ble_eq_true rfl, Nat.le_of_ble_eq_true rfl⟩ (fun E h => by unfold t_X6_level; exact tOr_s h) (xRunS (As := [.int xc]) (rest := []) _ _ 1 cx (c_X6_requireCell l dC dI cyI ad hI hlf S xc) gX6_level_X6_requireCell rfl ⟨rfl, rfl⟩ (by decide +kernel) ⟨Nat.le_of_ble_eq_true rfl, Nat.le_of_ble_eq_true rfl⟩ hXs hK hP hS rfl hl.1 rfl (Nat.le_of_ble_eq_true rfl) dX6_level_1 ⟨Nat.le_of_ble_eq_true rfl, Nat.le_of_ble_eq_true rfl⟩) (fun T2 H locs hp hP hS => ?_)
  obtain ⟨hT2, t1⟩ := hp
  rw [hT2] at hP
  refine lv_aload_n cx.1 cx.2.1 dX6_level_4 rfl (lv_at hl 0 rfl) ?_
  refine zGet (v := .ref (ad 1)) (own := RX6) cx hinX6 hK hP 0 rfl rfl 0 (by decide) (by decide +kernel) rfl rfl dX6_level_5 ?_
  refine lv_iload_n cx.1 cx.2.1 dX6_level_8 rfl (lv_at hl 1 rfl) ?_
  refine zThenIx (v := f_X0_levelOf S xc) (S' := S) hS (zRunV (As := [.int xc]) (rest := []) _ 1 cx (c_X0_levelOf l dC dI cyI ad hI S xc) gX6_level_X0_levelOf rfl ⟨rfl, rfl⟩ (by decide +kernel) ⟨Nat.le_of_ble_eq_true rfl, Nat.le_of_ble_eq_true rfl⟩ (xN_X ad 36) hXs.1 hK hP hS 1 rfl rfl rfl rfl hl.1 rfl (Nat.le_of_ble_eq_true rfl) dX6_level_9 ⟨Nat.le_of_ble_eq_true rfl, Nat.le_of_ble_eq_true rfl⟩) (fun H locs hP hS => ?_)
  refine vx_ret (W.widen (k := 4) (n := 24) (Nat.le_of_ble_eq_true rfl) (Nat.le_of_ble_eq_true rfl) ?_)
  exact zRetI cx hrt hlk rfl hS hP ⟨(by unfold f_X6_level; rfl), rfl, (by unfold t_X6_level; rw [tOr_n t1])⟩ dX6_level_12

def f_X6_net (S : zS) (xc : Int32) : Int32 := f_X3_netOf S xc
def t_X6_net (S : zS) (xc : Int32) : Option String := tOr (t_X6_requireCell xc) (none)
set_option maxHeartbeats 4000000 in
set_option maxRecDepth 100000 in
theorem c_X6_net (l : Launch) (dC : Nat → ClassId) (dI : Nat → Nat → Nat) (cyI : ClassId) (ad : Nat → Nat) (hI : zI ad 36) (hlf : l.stackTraces = false) (S : zS) (xc : Int32) : xMi l (dC, dI) [(cyI, .int)] ad 36 (cw cyI ad) yX6_net wsX6_net ({ frames := 7, cells := 4, slots := 24, locals := 110 } : Room) [.ref (ad 0), .int xc] S 4 24 (fun v T => v = f_X6_net S xc ∧ T = S ∧ t_X6_net S xc = none) (t_X6_net S xc) := by
  refine xStartI (by decide) rfl (Nat.le_of_ble_eq_true rfl) ?_
  intro p e s m args below meth c ls cx hrt hlk hex hP hK hXs hl
  have hl : lv_has ls 2 [(0, .ref (ad 0)), (1, .int xc)] := hl
  have hS : va_S (zA ad 36 s.heap.size) s.heap s.heap [] := va_S.rf
  have hinX6 : ∀ w ∈ u_ws RX6 TX6 5, w ∈ wsX6_net := by decide +kernel
  refine lv_iload_n cx.1 cx.2.1 dX6_net_0 rfl (lv_at hl 1 rfl) ?_
  refine xThenV hex hlk hS ⟨Nat.le_of_ble_eq_true rfl, Nat.le_of_ble_eq_true rfl⟩ (fun E h => by unfold t_X6_net; exact tOr_s h) (xRunS (As := [.int xc]) (rest := []) _ _ 1 cx (c_X6_requireCell l dC dI cyI ad hI hlf S xc) gX6_net_X6_requireCell rfl ⟨rfl, rfl⟩ (by decide +kernel) ⟨Nat.le_of_ble_eq_true rfl, Nat.le_of_ble_eq_true rfl⟩ hXs hK hP hS rfl hl.1 rfl (Nat.le_of_ble_eq_true rfl) dX6_net_1 ⟨Nat.le_of_ble_eq_true rfl, Nat.le_of_ble_eq_true rfl⟩) (fun T2 H locs hp hP hS => ?_)
  obtain ⟨hT2, t1⟩ := hp
  rw [hT2] at hP
  refine lv_aload_n cx.1 cx.2.1 dX6_net_4 rfl (lv_at hl 0 rfl) ?_
  refine zGet (v := .ref (ad 2)) (own := RX6) cx hinX6 hK hP 0 rfl rfl 1 (by decide) (by decide +kernel) rfl rfl dX6_net_5 ?_
  refine lv_iload_n cx.1 cx.2.1 dX6_net_8 rfl (lv_at hl 1 rfl) ?_
  refine zThenIx (v := f_X3_netOf S xc) (S' := S) hS (zRunV (As := [.int xc]) (rest := []) _ 1 cx (c_X3_netOf l dC dI cyI ad hI S xc) gX6_net_X3_netOf rfl ⟨rfl, rfl⟩ (by decide +kernel) ⟨Nat.le_of_ble_eq_true rfl, Nat.le_of_ble_eq_true rfl⟩ (xN_X ad 36) hXs.1 hK hP hS 2 rfl rfl rfl rfl hl.1 rfl (Nat.le_of_ble_eq_true rfl) dX6_net_9 ⟨Nat.le_of_ble_eq_true rfl, Nat.le_of_ble_eq_true rfl⟩) (fun H locs hP hS => ?_)
  refine vx_ret (W.widen (k := 4) (n := 24) (Nat.le_of_ble_eq_true rfl) (Nat.le_of_ble_eq_true rfl) ?_)
  exact zRetI cx hrt hlk rfl hS hP ⟨(by unfold f_X6_net; rfl), rfl, (by unfold t_X6_net; rw [tOr_n t1])⟩ dX6_net_12

def f_X6_steps (S : zS) (xa : Int32) (xb : Int32) : Int32 := f_X3_between S xa xb
def t_X6_steps (S : zS) (xa : Int32) (xb : Int32) : Option String := tOr (t_X6_requireCell xa) (tOr (t_X6_requireCell xb) (none))
set_option maxHeartbeats 4000000 in
set_option maxRecDepth 100000 in
theorem c_X6_steps (l : Launch) (dC : Nat → ClassId) (dI : Nat → Nat → Nat) (cyI : ClassId) (ad : Nat → Nat) (hI : zI ad 36) (hlf : l.stackTraces = false) (S : zS) (xa : Int32) (xb : Int32) : xMi l (dC, dI) [(cyI, .int)] ad 36 (cw cyI ad) yX6_steps wsX6_steps ({ frames := 7, cells := 4, slots := 24, locals := 110 } : Room) [.ref (ad 0), .int xa, .int xb] S 4 24 (fun v T => v = f_X6_steps S xa xb ∧ T = S ∧ t_X6_steps S xa xb = none) (t_X6_steps S xa xb) := by
  refine xStartI (by decide) rfl (Nat.le_of_ble_eq_true rfl) ?_
  intro p e s m args below meth c ls cx hrt hlk hex hP hK hXs hl
  have hl : lv_has ls 3 [(0, .ref (ad 0)), (1, .int xa), (2, .int xb)] := hl
  have hS : va_S (zA ad 36 s.heap.size) s.heap s.heap [] := va_S.rf
  have hinX6 : ∀ w ∈ u_ws RX6 TX6 5, w ∈ wsX6_steps := by decide +kernel
  refine lv_iload_n cx.1 cx.2.1 dX6_steps_0 rfl (lv_at hl 1 rfl) ?_
  refine xThenV hex hlk hS ⟨Nat.le_of_ble_eq_true rfl, Nat.le_of_ble_eq_true rfl⟩ (fun E h => by unfold t_X6_steps; exact tOr_s h) (xRunS (As := [.int xa]) (rest := []) _ _ 1 cx (c_X6_requireCell l dC dI cyI ad hI hlf S xa) gX6_steps_X6_requireCell rfl ⟨rfl, rfl⟩ (by decide +kernel) ⟨Nat.le_of_ble_eq_true rfl, Nat.le_of_ble_eq_true rfl⟩ hXs hK hP hS rfl hl.1 rfl (Nat.le_of_ble_eq_true rfl) dX6_steps_1 ⟨Nat.le_of_ble_eq_true rfl, Nat.le_of_ble_eq_true rfl⟩) (fun T2 H locs hp hP hS => ?_)
  obtain ⟨hT2, t1⟩ := hp
  rw [hT2] at hP
  refine lv_iload_n cx.1 cx.2.1 dX6_steps_4 rfl (lv_at hl 2 rfl) ?_
  refine xThenV hex hlk hS ⟨Nat.le_of_ble_eq_true rfl, Nat.le_of_ble_eq_true rfl⟩ (fun E h => by unfold t_X6_steps; rw [tOr_n t1]; exact tOr_s h) (xRunS (As := [.int xb]) (rest := []) _ _ 1 cx (c_X6_requireCell l dC dI cyI ad hI hlf S xb) gX6_steps_X6_requireCell rfl ⟨rfl, rfl⟩ (by decide +kernel) ⟨Nat.le_of_ble_eq_true rfl, Nat.le_of_ble_eq_true rfl⟩ hXs hK hP hS rfl hl.1 rfl (Nat.le_of_ble_eq_true rfl) dX6_steps_5 ⟨Nat.le_of_ble_eq_true rfl, Nat.le_of_ble_eq_true rfl⟩) (fun T4 H locs hp hP hS => ?_)
  obtain ⟨hT4, t3⟩ := hp
  rw [hT4] at hP
  refine lv_aload_n cx.1 cx.2.1 dX6_steps_8 rfl (lv_at hl 0 rfl) ?_
  refine zGet (v := .ref (ad 2)) (own := RX6) cx hinX6 hK hP 0 rfl rfl 1 (by decide) (by decide +kernel) rfl rfl dX6_steps_9 ?_
  refine lv_iload_n cx.1 cx.2.1 dX6_steps_12 rfl (lv_at hl 1 rfl) ?_
  refine lv_iload_n cx.1 cx.2.1 dX6_steps_13 rfl (lv_at hl 2 rfl) ?_
  refine zThenIx (v := f_X3_between S xa xb) (S' := S) hS (zRunV (As := [.int xa, .int xb]) (rest := []) _ 2 cx (c_X3_between l dC dI cyI ad hI S xa xb) gX6_steps_X3_between rfl ⟨rfl, rfl⟩ (by decide +kernel) ⟨Nat.le_of_ble_eq_true rfl, Nat.le_of_ble_eq_true rfl⟩ (xN_X ad 36) hXs.1 hK hP hS 2 rfl rfl rfl rfl hl.1 rfl (Nat.le_of_ble_eq_true rfl) dX6_steps_14 ⟨Nat.le_of_ble_eq_true rfl, Nat.le_of_ble_eq_true rfl⟩) (fun H locs hP hS => ?_)
  refine vx_ret (W.widen (k := 4) (n := 24) (Nat.le_of_ble_eq_true rfl) (Nat.le_of_ble_eq_true rfl) ?_)
  exact zRetI cx hrt hlk rfl hS hP ⟨(by unfold f_X6_steps; rfl), rfl, (by unfold t_X6_steps; rw [tOr_n t1, tOr_n t3])⟩ dX6_steps_17

def f_X6_isServed (S : zS) (xc : Int32) : Int32 := f_X5_serves S xc
def t_X6_isServed (S : zS) (xc : Int32) : Option String := tOr (t_X6_requireCell xc) (none)
set_option maxHeartbeats 4000000 in
set_option maxRecDepth 100000 in
theorem c_X6_isServed (l : Launch) (dC : Nat → ClassId) (dI : Nat → Nat → Nat) (cyI : ClassId) (ad : Nat → Nat) (hI : zI ad 36) (hlf : l.stackTraces = false) (S : zS) (xc : Int32) : xMi l (dC, dI) [(cyI, .int)] ad 36 (cw cyI ad) yX6_isServed wsX6_isServed ({ frames := 7, cells := 4, slots := 24, locals := 110 } : Room) [.ref (ad 0), .int xc] S 4 24 (fun v T => v = f_X6_isServed S xc ∧ T = S ∧ t_X6_isServed S xc = none) (t_X6_isServed S xc) := by
  refine xStartI (by decide) rfl (Nat.le_of_ble_eq_true rfl) ?_
  intro p e s m args below meth c ls cx hrt hlk hex hP hK hXs hl
  have hl : lv_has ls 2 [(0, .ref (ad 0)), (1, .int xc)] := hl
  have hS : va_S (zA ad 36 s.heap.size) s.heap s.heap [] := va_S.rf
  have hinX6 : ∀ w ∈ u_ws RX6 TX6 5, w ∈ wsX6_isServed := by decide +kernel
  refine lv_iload_n cx.1 cx.2.1 dX6_isServed_0 rfl (lv_at hl 1 rfl) ?_
  refine xThenV hex hlk hS ⟨Nat.le_of_ble_eq_true rfl, Nat.le_of_ble_eq_true rfl⟩ (fun E h => by unfold t_X6_isServed; exact tOr_s h) (xRunS (As := [.int xc]) (rest := []) _ _ 1 cx (c_X6_requireCell l dC dI cyI ad hI hlf S xc) gX6_isServed_X6_requireCell rfl ⟨rfl, rfl⟩ (by decide +kernel) ⟨Nat.le_of_ble_eq_true rfl, Nat.le_of_ble_eq_true rfl⟩ hXs hK hP hS rfl hl.1 rfl (Nat.le_of_ble_eq_true rfl) dX6_isServed_1 ⟨Nat.le_of_ble_eq_true rfl, Nat.le_of_ble_eq_true rfl⟩) (fun T2 H locs hp hP hS => ?_)
  obtain ⟨hT2, t1⟩ := hp
  rw [hT2] at hP
  refine lv_aload_n cx.1 cx.2.1 dX6_isServed_4 rfl (lv_at hl 0 rfl) ?_
  refine zGet (v := .ref (ad 3)) (own := RX6) cx hinX6 hK hP 0 rfl rfl 2 (by decide) (by decide +kernel) rfl rfl dX6_isServed_5 ?_
  refine lv_iload_n cx.1 cx.2.1 dX6_isServed_8 rfl (lv_at hl 1 rfl) ?_
  refine zThenIx (v := f_X5_serves S xc) (S' := S) hS (zRunV (As := [.int xc]) (rest := []) _ 1 cx (c_X5_serves l dC dI cyI ad hI S xc) gX6_isServed_X5_serves rfl ⟨rfl, rfl⟩ (by decide +kernel) ⟨Nat.le_of_ble_eq_true rfl, Nat.le_of_ble_eq_true rfl⟩ (xN_X ad 36) hXs.1 hK hP hS 3 rfl rfl rfl rfl hl.1 rfl (Nat.le_of_ble_eq_true rfl) dX6_isServed_9 ⟨Nat.le_of_ble_eq_true rfl, Nat.le_of_ble_eq_true rfl⟩) (fun H locs hP hS => ?_)
  refine vx_ret (W.widen (k := 4) (n := 24) (Nat.le_of_ble_eq_true rfl) (Nat.le_of_ble_eq_true rfl) ?_)
  exact zRetI cx hrt hlk (by unfold f_X5_serves; (repeat' split) <;> rfl) hS hP ⟨(by unfold f_X6_isServed; rfl), rfl, (by unfold t_X6_isServed; rw [tOr_n t1])⟩ dX6_isServed_12

def f_X6_placed (S : zS) (xc : Int32) : Int32 := f_X1_placedAt S xc
def t_X6_placed (S : zS) (xc : Int32) : Option String := tOr (t_X6_requireCell xc) (none)
set_option maxHeartbeats 4000000 in
set_option maxRecDepth 100000 in
theorem c_X6_placed (l : Launch) (dC : Nat → ClassId) (dI : Nat → Nat → Nat) (cyI : ClassId) (ad : Nat → Nat) (hI : zI ad 36) (hlf : l.stackTraces = false) (S : zS) (xc : Int32) : xMi l (dC, dI) [(cyI, .int)] ad 36 (cw cyI ad) yX6_placed wsX6_placed ({ frames := 7, cells := 4, slots := 24, locals := 110 } : Room) [.ref (ad 0), .int xc] S 4 24 (fun v T => v = f_X6_placed S xc ∧ T = S ∧ t_X6_placed S xc = none) (t_X6_placed S xc) := by
  refine xStartI (by decide) rfl (Nat.le_of_ble_eq_true rfl) ?_
  intro p e s m args below meth c ls cx hrt hlk hex hP hK hXs hl
  have hl : lv_has ls 2 [(0, .ref (ad 0)), (1, .int xc)] := hl
  have hS : va_S (zA ad 36 s.heap.size) s.heap s.heap [] := va_S.rf
  have hinX6 : ∀ w ∈ u_ws RX6 TX6 5, w ∈ wsX6_placed := by decide +kernel
  refine lv_iload_n cx.1 cx.2.1 dX6_placed_0 rfl (lv_at hl 1 rfl) ?_
  refine xThenV hex hlk hS ⟨Nat.le_of_ble_eq_true rfl, Nat.le_of_ble_eq_true rfl⟩ (fun E h => by unfold t_X6_placed; exact tOr_s h) (xRunS (As := [.int xc]) (rest := []) _ _ 1 cx (c_X6_requireCell l dC dI cyI ad hI hlf S xc) gX6_placed_X6_requireCell rfl ⟨rfl, rfl⟩ (by decide +kernel) ⟨Nat.le_of_ble_eq_true rfl, Nat.le_of_ble_eq_true rfl⟩ hXs hK hP hS rfl hl.1 rfl (Nat.le_of_ble_eq_true rfl) dX6_placed_1 ⟨Nat.le_of_ble_eq_true rfl, Nat.le_of_ble_eq_true rfl⟩) (fun T2 H locs hp hP hS => ?_)
  obtain ⟨hT2, t1⟩ := hp
  rw [hT2] at hP
  refine lv_aload_n cx.1 cx.2.1 dX6_placed_4 rfl (lv_at hl 0 rfl) ?_
  refine zGet (v := .ref (ad 4)) (own := RX6) cx hinX6 hK hP 0 rfl rfl 3 (by decide) (by decide +kernel) rfl rfl dX6_placed_5 ?_
  refine lv_iload_n cx.1 cx.2.1 dX6_placed_8 rfl (lv_at hl 1 rfl) ?_
  refine zThenIx (v := f_X1_placedAt S xc) (S' := S) hS (zRunV (As := [.int xc]) (rest := []) _ 1 cx (c_X1_placedAt l dC dI cyI ad hI S xc) gX6_placed_X1_placedAt rfl ⟨rfl, rfl⟩ (by decide +kernel) ⟨Nat.le_of_ble_eq_true rfl, Nat.le_of_ble_eq_true rfl⟩ (xN_X ad 36) hXs.1 hK hP hS 4 rfl rfl rfl rfl hl.1 rfl (Nat.le_of_ble_eq_true rfl) dX6_placed_9 ⟨Nat.le_of_ble_eq_true rfl, Nat.le_of_ble_eq_true rfl⟩) (fun H locs hP hS => ?_)
  refine vx_ret (W.widen (k := 4) (n := 24) (Nat.le_of_ble_eq_true rfl) (Nat.le_of_ble_eq_true rfl) ?_)
  exact zRetI cx hrt hlk rfl hS hP ⟨(by unfold f_X6_placed; rfl), rfl, (by unfold t_X6_placed; rw [tOr_n t1])⟩ dX6_placed_12

def f_X6_traffic (S : zS) (xc : Int32) : Int32 := f_X1_trafficOn S xc
def t_X6_traffic (S : zS) (xc : Int32) : Option String := tOr (t_X6_requireCell xc) (none)
set_option maxHeartbeats 4000000 in
set_option maxRecDepth 100000 in
theorem c_X6_traffic (l : Launch) (dC : Nat → ClassId) (dI : Nat → Nat → Nat) (cyI : ClassId) (ad : Nat → Nat) (hI : zI ad 36) (hlf : l.stackTraces = false) (S : zS) (xc : Int32) : xMi l (dC, dI) [(cyI, .int)] ad 36 (cw cyI ad) yX6_traffic wsX6_traffic ({ frames := 7, cells := 4, slots := 24, locals := 110 } : Room) [.ref (ad 0), .int xc] S 4 24 (fun v T => v = f_X6_traffic S xc ∧ T = S ∧ t_X6_traffic S xc = none) (t_X6_traffic S xc) := by
  refine xStartI (by decide) rfl (Nat.le_of_ble_eq_true rfl) ?_
  intro p e s m args below meth c ls cx hrt hlk hex hP hK hXs hl
  have hl : lv_has ls 2 [(0, .ref (ad 0)), (1, .int xc)] := hl
  have hS : va_S (zA ad 36 s.heap.size) s.heap s.heap [] := va_S.rf
  have hinX6 : ∀ w ∈ u_ws RX6 TX6 5, w ∈ wsX6_traffic := by decide +kernel
  refine lv_iload_n cx.1 cx.2.1 dX6_traffic_0 rfl (lv_at hl 1 rfl) ?_
  refine xThenV hex hlk hS ⟨Nat.le_of_ble_eq_true rfl, Nat.le_of_ble_eq_true rfl⟩ (fun E h => by unfold t_X6_traffic; exact tOr_s h) (xRunS (As := [.int xc]) (rest := []) _ _ 1 cx (c_X6_requireCell l dC dI cyI ad hI hlf S xc) gX6_traffic_X6_requireCell rfl ⟨rfl, rfl⟩ (by decide +kernel) ⟨Nat.le_of_ble_eq_true rfl, Nat.le_of_ble_eq_true rfl⟩ hXs hK hP hS rfl hl.1 rfl (Nat.le_of_ble_eq_true rfl) dX6_traffic_1 ⟨Nat.le_of_ble_eq_true rfl, Nat.le_of_ble_eq_true rfl⟩) (fun T2 H locs hp hP hS => ?_)
  obtain ⟨hT2, t1⟩ := hp
  rw [hT2] at hP
  refine lv_aload_n cx.1 cx.2.1 dX6_traffic_4 rfl (lv_at hl 0 rfl) ?_
  refine zGet (v := .ref (ad 4)) (own := RX6) cx hinX6 hK hP 0 rfl rfl 3 (by decide) (by decide +kernel) rfl rfl dX6_traffic_5 ?_
  refine lv_iload_n cx.1 cx.2.1 dX6_traffic_8 rfl (lv_at hl 1 rfl) ?_
  refine zThenIx (v := f_X1_trafficOn S xc) (S' := S) hS (zRunV (As := [.int xc]) (rest := []) _ 1 cx (c_X1_trafficOn l dC dI cyI ad hI S xc) gX6_traffic_X1_trafficOn rfl ⟨rfl, rfl⟩ (by decide +kernel) ⟨Nat.le_of_ble_eq_true rfl, Nat.le_of_ble_eq_true rfl⟩ (xN_X ad 36) hXs.1 hK hP hS 4 rfl rfl rfl rfl hl.1 rfl (Nat.le_of_ble_eq_true rfl) dX6_traffic_9 ⟨Nat.le_of_ble_eq_true rfl, Nat.le_of_ble_eq_true rfl⟩) (fun H locs hP hS => ?_)
  refine vx_ret (W.widen (k := 4) (n := 24) (Nat.le_of_ble_eq_true rfl) (Nat.le_of_ble_eq_true rfl) ?_)
  exact zRetI cx hrt hlk rfl hS hP ⟨(by unfold f_X6_traffic; rfl), rfl, (by unfold t_X6_traffic; rw [tOr_n t1])⟩ dX6_traffic_12

def f_X6_value (S : zS) (xc : Int32) : Int32 := f_X6_valueOf S xc
def t_X6_value (S : zS) (xc : Int32) : Option String := tOr (t_X6_requireCell xc) (none)
set_option maxHeartbeats 4000000 in
set_option maxRecDepth 100000 in
theorem c_X6_value (l : Launch) (dC : Nat → ClassId) (dI : Nat → Nat → Nat) (cyI : ClassId) (ad : Nat → Nat) (hI : zI ad 36) (hlf : l.stackTraces = false) (S : zS) (xc : Int32) : xMi l (dC, dI) [(cyI, .int)] ad 36 (cw cyI ad) yX6_value wsX6_value ({ frames := 7, cells := 4, slots := 24, locals := 110 } : Room) [.ref (ad 0), .int xc] S 4 24 (fun v T => v = f_X6_value S xc ∧ T = S ∧ t_X6_value S xc = none) (t_X6_value S xc) := by
  refine xStartI (by decide) rfl (Nat.le_of_ble_eq_true rfl) ?_
  intro p e s m args below meth c ls cx hrt hlk hex hP hK hXs hl
  have hl : lv_has ls 2 [(0, .ref (ad 0)), (1, .int xc)] := hl
  have hS : va_S (zA ad 36 s.heap.size) s.heap s.heap [] := va_S.rf
  refine lv_iload_n cx.1 cx.2.1 dX6_value_0 rfl (lv_at hl 1 rfl) ?_
  refine xThenV hex hlk hS ⟨Nat.le_of_ble_eq_true rfl, Nat.le_of_ble_eq_true rfl⟩ (fun E h => by unfold t_X6_value; exact tOr_s h) (xRunS (As := [.int xc]) (rest := []) _ _ 1 cx (c_X6_requireCell l dC dI cyI ad hI hlf S xc) gX6_value_X6_requireCell rfl ⟨rfl, rfl⟩ (by decide +kernel) ⟨Nat.le_of_ble_eq_true rfl, Nat.le_of_ble_eq_true rfl⟩ hXs hK hP hS rfl hl.1 rfl (Nat.le_of_ble_eq_true rfl) dX6_value_1 ⟨Nat.le_of_ble_eq_true rfl, Nat.le_of_ble_eq_true rfl⟩) (fun T2 H locs hp hP hS => ?_)
  obtain ⟨hT2, t1⟩ := hp
  rw [hT2] at hP
  refine lv_aload_n cx.1 cx.2.1 dX6_value_4 rfl (lv_at hl 0 rfl) ?_
  refine lv_iload_n cx.1 cx.2.1 dX6_value_5 rfl (lv_at hl 1 rfl) ?_
  refine zThenIx (v := f_X6_valueOf S xc) (S' := S) hS (zRunV (As := [.int xc]) (rest := []) _ 1 cx (c_X6_valueOf l dC dI cyI ad hI S xc) gX6_value_X6_valueOf rfl ⟨rfl, rfl⟩ (by decide +kernel) ⟨Nat.le_of_ble_eq_true rfl, Nat.le_of_ble_eq_true rfl⟩ (xN_X ad 36) hXs.1 hK hP hS 0 rfl rfl rfl rfl hl.1 rfl (Nat.le_of_ble_eq_true rfl) dX6_value_6 ⟨Nat.le_of_ble_eq_true rfl, Nat.le_of_ble_eq_true rfl⟩) (fun H locs hP hS => ?_)
  refine vx_ret (W.widen (k := 4) (n := 24) (Nat.le_of_ble_eq_true rfl) (Nat.le_of_ble_eq_true rfl) ?_)
  exact zRetI cx hrt hlk rfl hS hP ⟨(by unfold f_X6_value; rfl), rfl, (by unfold t_X6_value; rw [tOr_n t1])⟩ dX6_value_9

def f_X6_powerLeft (S : zS) (xc : Int32) : Int32 := if ¬ (f_X3_netOf S xc) = (-1) then f_X5_powerOf S (f_X3_netOf S xc) else (0)
def t_X6_powerLeft (S : zS) (xc : Int32) : Option String := tOr (t_X6_requireCell xc) (if ¬ (f_X3_netOf S xc) = (-1) then none else (none))
set_option maxHeartbeats 4000000 in
set_option maxRecDepth 100000 in
theorem c_X6_powerLeft (l : Launch) (dC : Nat → ClassId) (dI : Nat → Nat → Nat) (cyI : ClassId) (ad : Nat → Nat) (hI : zI ad 36) (hlf : l.stackTraces = false) (S : zS) (xc : Int32) : xMi l (dC, dI) [(cyI, .int)] ad 36 (cw cyI ad) yX6_powerLeft wsX6_powerLeft ({ frames := 7, cells := 4, slots := 24, locals := 110 } : Room) [.ref (ad 0), .int xc] S 4 24 (fun v T => v = f_X6_powerLeft S xc ∧ T = S ∧ t_X6_powerLeft S xc = none) (t_X6_powerLeft S xc) := by
  refine xStartI (by decide) rfl (Nat.le_of_ble_eq_true rfl) ?_
  intro p e s m args below meth c ls cx hrt hlk hex hP hK hXs hl
  have hl : lv_has ls 3 [(0, .ref (ad 0)), (1, .int xc)] := hl
  have hS : va_S (zA ad 36 s.heap.size) s.heap s.heap [] := va_S.rf
  have hinX6 : ∀ w ∈ u_ws RX6 TX6 5, w ∈ wsX6_powerLeft := by decide +kernel
  refine lv_iload_n cx.1 cx.2.1 dX6_powerLeft_0 rfl (lv_at hl 1 rfl) ?_
  refine xThenV hex hlk hS ⟨Nat.le_of_ble_eq_true rfl, Nat.le_of_ble_eq_true rfl⟩ (fun E h => by unfold t_X6_powerLeft; exact tOr_s h) (xRunS (As := [.int xc]) (rest := []) _ _ 1 cx (c_X6_requireCell l dC dI cyI ad hI hlf S xc) gX6_powerLeft_X6_requireCell rfl ⟨rfl, rfl⟩ (by decide +kernel) ⟨Nat.le_of_ble_eq_true rfl, Nat.le_of_ble_eq_true rfl⟩ hXs hK hP hS rfl hl.1 rfl (Nat.le_of_ble_eq_true rfl) dX6_powerLeft_1 ⟨Nat.le_of_ble_eq_true rfl, Nat.le_of_ble_eq_true rfl⟩) (fun T2 H locs hp hP hS => ?_)
  obtain ⟨hT2, t1⟩ := hp
  rw [hT2] at hP
  refine lv_aload_n cx.1 cx.2.1 dX6_powerLeft_4 rfl (lv_at hl 0 rfl) ?_
  refine zGet (v := .ref (ad 2)) (own := RX6) cx hinX6 hK hP 0 rfl rfl 1 (by decide) (by decide +kernel) rfl rfl dX6_powerLeft_5 ?_
  refine lv_iload_n cx.1 cx.2.1 dX6_powerLeft_8 rfl (lv_at hl 1 rfl) ?_
  refine zThenIx (v := f_X3_netOf S xc) (S' := S) hS (zRunV (As := [.int xc]) (rest := []) _ 1 cx (c_X3_netOf l dC dI cyI ad hI S xc) gX6_powerLeft_X3_netOf rfl ⟨rfl, rfl⟩ (by decide +kernel) ⟨Nat.le_of_ble_eq_true rfl, Nat.le_of_ble_eq_true rfl⟩ (xN_X ad 36) hXs.1 hK hP hS 2 rfl rfl rfl rfl hl.1 rfl (Nat.le_of_ble_eq_true rfl) dX6_powerLeft_9 ⟨Nat.le_of_ble_eq_true rfl, Nat.le_of_ble_eq_true rfl⟩) (fun H locs hP hS => ?_)
  refine lv_istore_n (lv' := [(2, .int (f_X3_netOf S xc)), (0, .ref (ad 0)), (1, .int xc)]) cx.1 cx.2.1 dX6_powerLeft_12 rfl hl (by decide) rfl (fun ls hl => ?_)
  refine lv_iload_n cx.1 cx.2.1 dX6_powerLeft_13 rfl (lv_at hl 0 rfl) ?_
  refine lv_iconst (v := (-1)) cx.1 cx.2.1 dX6_powerLeft_14 (by decide) ?_
  refine lv_icmp_ne (tgt := 22) cx.1 cx.2.1 dX6_powerLeft_15 (by decide) (fun c3 => ?_) (fun c3 => ?_)
  · refine lv_aload_n cx.1 cx.2.1 dX6_powerLeft_22 rfl (lv_at hl 1 rfl) ?_
    refine zGet (v := .ref (ad 3)) (own := RX6) cx hinX6 hK hP 0 rfl rfl 2 (by decide) (by decide +kernel) rfl rfl dX6_powerLeft_23 ?_
    refine lv_iload_n cx.1 cx.2.1 dX6_powerLeft_26 rfl (lv_at hl 0 rfl) ?_
    refine zThenIx (v := f_X5_powerOf S (f_X3_netOf S xc)) (S' := S) hS (zRunV (As := [.int (f_X3_netOf S xc)]) (rest := []) _ 1 cx (c_X5_powerOf l dC dI cyI ad hI S (f_X3_netOf S xc)) gX6_powerLeft_X5_powerOf rfl ⟨rfl, rfl⟩ (by decide +kernel) ⟨Nat.le_of_ble_eq_true rfl, Nat.le_of_ble_eq_true rfl⟩ (xN_X ad 36) hXs.1 hK hP hS 3 rfl rfl rfl rfl hl.1 rfl (Nat.le_of_ble_eq_true rfl) dX6_powerLeft_27 ⟨Nat.le_of_ble_eq_true rfl, Nat.le_of_ble_eq_true rfl⟩) (fun H locs hP hS => ?_)
    refine vx_ret (W.widen (k := 4) (n := 24) (Nat.le_of_ble_eq_true rfl) (Nat.le_of_ble_eq_true rfl) ?_)
    exact zRetI cx hrt hlk rfl hS hP ⟨(by unfold f_X6_powerLeft; rw [if_pos c3]), rfl, (by unfold t_X6_powerLeft; rw [tOr_n t1, if_pos c3])⟩ dX6_powerLeft_30
  · refine lv_iconst (v := 0) cx.1 cx.2.1 dX6_powerLeft_18 (by decide) ?_
    refine lv_goto (tgt := 30) cx.1 cx.2.1 dX6_powerLeft_19 (by decide) ?_
    refine vx_ret (W.widen (k := 4) (n := 24) (Nat.le_of_ble_eq_true rfl) (Nat.le_of_ble_eq_true rfl) ?_)
    exact zRetI cx hrt hlk rfl hS hP ⟨(by unfold f_X6_powerLeft; rw [if_neg (not_not_intro c3)]), rfl, (by unfold t_X6_powerLeft; rw [tOr_n t1, if_neg (not_not_intro c3)])⟩ dX6_powerLeft_30

def f_X6_going (S : zS) (xh : Int32) (xt : Int32) : Int32 := f_X1_goingBetween S xh xt
def t_X6_going (S : zS) (xh : Int32) (xt : Int32) : Option String := tOr (t_X6_requireCell xh) (tOr (t_X6_requireCell xt) (none))
set_option maxHeartbeats 4000000 in
set_option maxRecDepth 100000 in
theorem c_X6_going (l : Launch) (dC : Nat → ClassId) (dI : Nat → Nat → Nat) (cyI : ClassId) (ad : Nat → Nat) (hI : zI ad 36) (hlf : l.stackTraces = false) (S : zS) (xh : Int32) (xt : Int32) : xMi l (dC, dI) [(cyI, .int)] ad 36 (cw cyI ad) yX6_going wsX6_going ({ frames := 7, cells := 4, slots := 24, locals := 110 } : Room) [.ref (ad 0), .int xh, .int xt] S 4 24 (fun v T => v = f_X6_going S xh xt ∧ T = S ∧ t_X6_going S xh xt = none) (t_X6_going S xh xt) := by
  refine xStartI (by decide) rfl (Nat.le_of_ble_eq_true rfl) ?_
  intro p e s m args below meth c ls cx hrt hlk hex hP hK hXs hl
  have hl : lv_has ls 3 [(0, .ref (ad 0)), (1, .int xh), (2, .int xt)] := hl
  have hS : va_S (zA ad 36 s.heap.size) s.heap s.heap [] := va_S.rf
  have hinX6 : ∀ w ∈ u_ws RX6 TX6 5, w ∈ wsX6_going := by decide +kernel
  refine lv_iload_n cx.1 cx.2.1 dX6_going_0 rfl (lv_at hl 1 rfl) ?_
  refine xThenV hex hlk hS ⟨Nat.le_of_ble_eq_true rfl, Nat.le_of_ble_eq_true rfl⟩ (fun E h => by unfold t_X6_going; exact tOr_s h) (xRunS (As := [.int xh]) (rest := []) _ _ 1 cx (c_X6_requireCell l dC dI cyI ad hI hlf S xh) gX6_going_X6_requireCell rfl ⟨rfl, rfl⟩ (by decide +kernel) ⟨Nat.le_of_ble_eq_true rfl, Nat.le_of_ble_eq_true rfl⟩ hXs hK hP hS rfl hl.1 rfl (Nat.le_of_ble_eq_true rfl) dX6_going_1 ⟨Nat.le_of_ble_eq_true rfl, Nat.le_of_ble_eq_true rfl⟩) (fun T2 H locs hp hP hS => ?_)
  obtain ⟨hT2, t1⟩ := hp
  rw [hT2] at hP
  refine lv_iload_n cx.1 cx.2.1 dX6_going_4 rfl (lv_at hl 2 rfl) ?_
  refine xThenV hex hlk hS ⟨Nat.le_of_ble_eq_true rfl, Nat.le_of_ble_eq_true rfl⟩ (fun E h => by unfold t_X6_going; rw [tOr_n t1]; exact tOr_s h) (xRunS (As := [.int xt]) (rest := []) _ _ 1 cx (c_X6_requireCell l dC dI cyI ad hI hlf S xt) gX6_going_X6_requireCell rfl ⟨rfl, rfl⟩ (by decide +kernel) ⟨Nat.le_of_ble_eq_true rfl, Nat.le_of_ble_eq_true rfl⟩ hXs hK hP hS rfl hl.1 rfl (Nat.le_of_ble_eq_true rfl) dX6_going_5 ⟨Nat.le_of_ble_eq_true rfl, Nat.le_of_ble_eq_true rfl⟩) (fun T4 H locs hp hP hS => ?_)
  obtain ⟨hT4, t3⟩ := hp
  rw [hT4] at hP
  refine lv_aload_n cx.1 cx.2.1 dX6_going_8 rfl (lv_at hl 0 rfl) ?_
  refine zGet (v := .ref (ad 4)) (own := RX6) cx hinX6 hK hP 0 rfl rfl 3 (by decide) (by decide +kernel) rfl rfl dX6_going_9 ?_
  refine lv_iload_n cx.1 cx.2.1 dX6_going_12 rfl (lv_at hl 1 rfl) ?_
  refine lv_iload_n cx.1 cx.2.1 dX6_going_13 rfl (lv_at hl 2 rfl) ?_
  refine zThenIx (v := f_X1_goingBetween S xh xt) (S' := S) hS (zRunV (As := [.int xh, .int xt]) (rest := []) _ 2 cx (c_X1_goingBetween l dC dI cyI ad hI S xh xt) gX6_going_X1_goingBetween rfl ⟨rfl, rfl⟩ (by decide +kernel) ⟨Nat.le_of_ble_eq_true rfl, Nat.le_of_ble_eq_true rfl⟩ (xN_X ad 36) hXs.1 hK hP hS 4 rfl rfl rfl rfl hl.1 rfl (Nat.le_of_ble_eq_true rfl) dX6_going_14 ⟨Nat.le_of_ble_eq_true rfl, Nat.le_of_ble_eq_true rfl⟩) (fun H locs hP hS => ?_)
  refine vx_ret (W.widen (k := 4) (n := 24) (Nat.le_of_ble_eq_true rfl) (Nat.le_of_ble_eq_true rfl) ?_)
  exact zRetI cx hrt hlk rfl hS hP ⟨(by unfold f_X6_going; rfl), rfl, (by unfold t_X6_going; rw [tOr_n t1, tOr_n t3])⟩ dX6_going_17
