def f_X7_net (S : zS) (xi : Int32) : Int32 := if (f_X7_misses S xi) = 0 then (g_X7_misses S xi) 3 xi.toNatClampNeg else (0)
def g_X7_net (S : zS) (xi : Int32) : zS := if (f_X7_misses S xi) = 0 then (g_X7_misses S xi) else ((g_X7_misses S xi))
theorem fr_X7_net (S : zS) (xi : Int32) (r : Nat) (h10 : r ≠ 10) (h11 : r ≠ 11) (h13 : r ≠ 13) (h2 : r ≠ 2) (h3 : r ≠ 3) (h4 : r ≠ 4) (h5 : r ≠ 5) (h6 : r ≠ 6) (h7 : r ≠ 7) (h8 : r ≠ 8) (h9 : r ≠ 9) : g_X7_net S xi r = S r := by
  unfold g_X7_net
  (repeat' split) <;> simp [zUp, h10, h11, h13, h2, h3, h4, h5, h6, h7, h8, h9, fr_X7_misses]
set_option maxHeartbeats 1000000 in
set_option maxRecDepth 100000 in
theorem c_X7_net (l : Launch) (dC : Nat → ClassId) (dI : Nat → Nat → Nat) (cyI cyZ : ClassId) (ad : Nat → Nat) (hI : zI ad 14) (S : zS) (xi : Int32) : zMi l (dC, dI) [(cyI, .int), (cyZ, .boolean)] ad 14 (fun _ _ => True) (mw cyI cyZ ad) yX7_net wsX7_net ({ frames := 5, cells := 0, slots := 0, locals := 117 } : Room) [.ref (ad 0), .int xi] S (fun v T => v = f_X7_net S xi ∧ T = g_X7_net S xi) := by
  refine zStartI (by decide) rfl (Nat.le_of_ble_eq_true rfl) ?_
  intro p e s m args below meth c ls cx hrt hlk hP hK hXs hl
  have hl : lv_has ls 2 [(0, .ref (ad 0)), (1, .int xi)] := hl
  have hS : va_S (zA ad 14 s.heap.size) s.heap s.heap [] := va_S.rf
  have hinX7 : ∀ w ∈ u_ws RX7 TX7 19, w ∈ wsX7_net := by decide +kernel
  refine lv_aload_n cx.1 cx.2.1 dX7_net_0 rfl (lv_at hl 0 rfl) ?_
  refine lv_iload_n cx.1 cx.2.1 dX7_net_1 rfl (lv_at hl 1 rfl) ?_
  refine zThenIx (v := f_X7_misses S xi) (S' := g_X7_misses S xi) hS (zRunV (As := [.int xi]) (rest := []) _ 1 cx (c_X7_misses l dC dI cyI cyZ ad hI S xi) gX7_net_X7_misses rfl ⟨rfl, rfl⟩ (by decide +kernel) ⟨Nat.le_of_ble_eq_true rfl, Nat.le_of_ble_eq_true rfl⟩ (zX_true) trivial hK hP hS 0 rfl rfl rfl rfl hl.1 rfl (Nat.le_of_ble_eq_true rfl) dX7_net_2 ⟨Nat.zero_le _, Nat.zero_le _⟩) (fun H locs hP hS => ?_)
  obtain ⟨N1, hN1⟩ : ∃ T : zS, g_X7_misses S xi = T := ⟨_, rfl⟩
  rw [hN1] at hP
  refine lv_if_eq (tgt := 12) cx.1 cx.2.1 dX7_net_5 (by decide) (fun c2 => ?_) (fun c2 => ?_)
  · refine lv_aload_n cx.1 cx.2.1 dX7_net_12 rfl (lv_at hl 0 rfl) ?_
    refine zGet (v := .ref (ad 4)) (own := RX7) cx hinX7 hK hP 0 rfl rfl 8 (by decide) (by decide +kernel) rfl rfl dX7_net_13 ?_
    refine lv_iload_n cx.1 cx.2.1 dX7_net_16 rfl (lv_at hl 1 rfl) ?_
    refine zIld cx hK hP 4 0 rfl rfl (miss_in (by assumption)) dX7_net_17 ?_
    subst hN1
    exact zRetI (v := (g_X7_misses S xi) 3 xi.toNatClampNeg) cx hrt hlk rfl hS hP ⟨(by unfold f_X7_net; rw [if_pos c2]), (by unfold g_X7_net; rw [if_pos c2])⟩ dX7_net_18
  · refine lv_iconst (v := 0) cx.1 cx.2.1 dX7_net_8 (by decide) ?_
    refine lv_goto (tgt := 18) cx.1 cx.2.1 dX7_net_9 (by decide) ?_
    subst hN1
    exact zRetI (v := 0) cx hrt hlk rfl hS hP ⟨(by unfold f_X7_net; rw [if_neg c2]), (by unfold g_X7_net; rw [if_neg c2])⟩ dX7_net_18

def f_X7_placed (S : zS) (xi : Int32) : Int32 := if (f_X7_misses S xi) = 0 then (g_X7_misses S xi) 9 xi.toNatClampNeg else (0)
def g_X7_placed (S : zS) (xi : Int32) : zS := if (f_X7_misses S xi) = 0 then (g_X7_misses S xi) else ((g_X7_misses S xi))
theorem fr_X7_placed (S : zS) (xi : Int32) (r : Nat) (h10 : r ≠ 10) (h11 : r ≠ 11) (h13 : r ≠ 13) (h2 : r ≠ 2) (h3 : r ≠ 3) (h4 : r ≠ 4) (h5 : r ≠ 5) (h6 : r ≠ 6) (h7 : r ≠ 7) (h8 : r ≠ 8) (h9 : r ≠ 9) : g_X7_placed S xi r = S r := by
  unfold g_X7_placed
  (repeat' split) <;> simp [zUp, h10, h11, h13, h2, h3, h4, h5, h6, h7, h8, h9, fr_X7_misses]
set_option maxHeartbeats 1000000 in
set_option maxRecDepth 100000 in
theorem c_X7_placed (l : Launch) (dC : Nat → ClassId) (dI : Nat → Nat → Nat) (cyI cyZ : ClassId) (ad : Nat → Nat) (hI : zI ad 14) (S : zS) (xi : Int32) : zMi l (dC, dI) [(cyI, .int), (cyZ, .boolean)] ad 14 (fun _ _ => True) (mw cyI cyZ ad) yX7_placed wsX7_placed ({ frames := 5, cells := 0, slots := 0, locals := 117 } : Room) [.ref (ad 0), .int xi] S (fun v T => v = f_X7_placed S xi ∧ T = g_X7_placed S xi) := by
  refine zStartI (by decide) rfl (Nat.le_of_ble_eq_true rfl) ?_
  intro p e s m args below meth c ls cx hrt hlk hP hK hXs hl
  have hl : lv_has ls 2 [(0, .ref (ad 0)), (1, .int xi)] := hl
  have hS : va_S (zA ad 14 s.heap.size) s.heap s.heap [] := va_S.rf
  have hinX7 : ∀ w ∈ u_ws RX7 TX7 19, w ∈ wsX7_placed := by decide +kernel
  refine lv_aload_n cx.1 cx.2.1 dX7_placed_0 rfl (lv_at hl 0 rfl) ?_
  refine lv_iload_n cx.1 cx.2.1 dX7_placed_1 rfl (lv_at hl 1 rfl) ?_
  refine zThenIx (v := f_X7_misses S xi) (S' := g_X7_misses S xi) hS (zRunV (As := [.int xi]) (rest := []) _ 1 cx (c_X7_misses l dC dI cyI cyZ ad hI S xi) gX7_placed_X7_misses rfl ⟨rfl, rfl⟩ (by decide +kernel) ⟨Nat.le_of_ble_eq_true rfl, Nat.le_of_ble_eq_true rfl⟩ (zX_true) trivial hK hP hS 0 rfl rfl rfl rfl hl.1 rfl (Nat.le_of_ble_eq_true rfl) dX7_placed_2 ⟨Nat.zero_le _, Nat.zero_le _⟩) (fun H locs hP hS => ?_)
  obtain ⟨N1, hN1⟩ : ∃ T : zS, g_X7_misses S xi = T := ⟨_, rfl⟩
  rw [hN1] at hP
  refine lv_if_eq (tgt := 12) cx.1 cx.2.1 dX7_placed_5 (by decide) (fun c2 => ?_) (fun c2 => ?_)
  · refine lv_aload_n cx.1 cx.2.1 dX7_placed_12 rfl (lv_at hl 0 rfl) ?_
    refine zGet (v := .ref (ad 10)) (own := RX7) cx hinX7 hK hP 0 rfl rfl 14 (by decide) (by decide +kernel) rfl rfl dX7_placed_13 ?_
    refine lv_iload_n cx.1 cx.2.1 dX7_placed_16 rfl (lv_at hl 1 rfl) ?_
    refine zIld cx hK hP 10 0 rfl rfl (miss_in (by assumption)) dX7_placed_17 ?_
    subst hN1
    exact zRetI (v := (g_X7_misses S xi) 9 xi.toNatClampNeg) cx hrt hlk rfl hS hP ⟨(by unfold f_X7_placed; rw [if_pos c2]), (by unfold g_X7_placed; rw [if_pos c2])⟩ dX7_placed_18
  · refine lv_iconst (v := 0) cx.1 cx.2.1 dX7_placed_8 (by decide) ?_
    refine lv_goto (tgt := 18) cx.1 cx.2.1 dX7_placed_9 (by decide) ?_
    subst hN1
    exact zRetI (v := 0) cx hrt hlk rfl hS hP ⟨(by unfold f_X7_placed; rw [if_neg c2]), (by unfold g_X7_placed; rw [if_neg c2])⟩ dX7_placed_18

def f_X7_traffic (S : zS) (xi : Int32) : Int32 := if (f_X7_misses S xi) = 0 then (g_X7_misses S xi) 11 xi.toNatClampNeg else (0)
def g_X7_traffic (S : zS) (xi : Int32) : zS := if (f_X7_misses S xi) = 0 then (g_X7_misses S xi) else ((g_X7_misses S xi))
theorem fr_X7_traffic (S : zS) (xi : Int32) (r : Nat) (h10 : r ≠ 10) (h11 : r ≠ 11) (h13 : r ≠ 13) (h2 : r ≠ 2) (h3 : r ≠ 3) (h4 : r ≠ 4) (h5 : r ≠ 5) (h6 : r ≠ 6) (h7 : r ≠ 7) (h8 : r ≠ 8) (h9 : r ≠ 9) : g_X7_traffic S xi r = S r := by
  unfold g_X7_traffic
  (repeat' split) <;> simp [zUp, h10, h11, h13, h2, h3, h4, h5, h6, h7, h8, h9, fr_X7_misses]
set_option maxHeartbeats 1000000 in
set_option maxRecDepth 100000 in
theorem c_X7_traffic (l : Launch) (dC : Nat → ClassId) (dI : Nat → Nat → Nat) (cyI cyZ : ClassId) (ad : Nat → Nat) (hI : zI ad 14) (S : zS) (xi : Int32) : zMi l (dC, dI) [(cyI, .int), (cyZ, .boolean)] ad 14 (fun _ _ => True) (mw cyI cyZ ad) yX7_traffic wsX7_traffic ({ frames := 5, cells := 0, slots := 0, locals := 117 } : Room) [.ref (ad 0), .int xi] S (fun v T => v = f_X7_traffic S xi ∧ T = g_X7_traffic S xi) := by
  refine zStartI (by decide) rfl (Nat.le_of_ble_eq_true rfl) ?_
  intro p e s m args below meth c ls cx hrt hlk hP hK hXs hl
  have hl : lv_has ls 2 [(0, .ref (ad 0)), (1, .int xi)] := hl
  have hS : va_S (zA ad 14 s.heap.size) s.heap s.heap [] := va_S.rf
  have hinX7 : ∀ w ∈ u_ws RX7 TX7 19, w ∈ wsX7_traffic := by decide +kernel
  refine lv_aload_n cx.1 cx.2.1 dX7_traffic_0 rfl (lv_at hl 0 rfl) ?_
  refine lv_iload_n cx.1 cx.2.1 dX7_traffic_1 rfl (lv_at hl 1 rfl) ?_
  refine zThenIx (v := f_X7_misses S xi) (S' := g_X7_misses S xi) hS (zRunV (As := [.int xi]) (rest := []) _ 1 cx (c_X7_misses l dC dI cyI cyZ ad hI S xi) gX7_traffic_X7_misses rfl ⟨rfl, rfl⟩ (by decide +kernel) ⟨Nat.le_of_ble_eq_true rfl, Nat.le_of_ble_eq_true rfl⟩ (zX_true) trivial hK hP hS 0 rfl rfl rfl rfl hl.1 rfl (Nat.le_of_ble_eq_true rfl) dX7_traffic_2 ⟨Nat.zero_le _, Nat.zero_le _⟩) (fun H locs hP hS => ?_)
  obtain ⟨N1, hN1⟩ : ∃ T : zS, g_X7_misses S xi = T := ⟨_, rfl⟩
  rw [hN1] at hP
  refine lv_if_eq (tgt := 12) cx.1 cx.2.1 dX7_traffic_5 (by decide) (fun c2 => ?_) (fun c2 => ?_)
  · refine lv_aload_n cx.1 cx.2.1 dX7_traffic_12 rfl (lv_at hl 0 rfl) ?_
    refine zGet (v := .ref (ad 12)) (own := RX7) cx hinX7 hK hP 0 rfl rfl 16 (by decide) (by decide +kernel) rfl rfl dX7_traffic_13 ?_
    refine lv_iload_n cx.1 cx.2.1 dX7_traffic_16 rfl (lv_at hl 1 rfl) ?_
    refine zIld cx hK hP 12 0 rfl rfl (miss_in (by assumption)) dX7_traffic_17 ?_
    subst hN1
    exact zRetI (v := (g_X7_misses S xi) 11 xi.toNatClampNeg) cx hrt hlk rfl hS hP ⟨(by unfold f_X7_traffic; rw [if_pos c2]), (by unfold g_X7_traffic; rw [if_pos c2])⟩ dX7_traffic_18
  · refine lv_iconst (v := 0) cx.1 cx.2.1 dX7_traffic_8 (by decide) ?_
    refine lv_goto (tgt := 18) cx.1 cx.2.1 dX7_traffic_9 (by decide) ?_
    subst hN1
    exact zRetI (v := 0) cx hrt hlk rfl hS hP ⟨(by unfold f_X7_traffic; rw [if_neg c2]), (by unfold g_X7_traffic; rw [if_neg c2])⟩ dX7_traffic_18

def f_X7_isServed (S : zS) (xi : Int32) : Int32 := if ¬ (f_X7_misses S xi) = 0 then 0 else (if ((g_X7_misses S xi) 8 xi.toNatClampNeg) = 0 then 0 else (1))
def g_X7_isServed (S : zS) (xi : Int32) : zS := if ¬ (f_X7_misses S xi) = 0 then (g_X7_misses S xi) else (if ((g_X7_misses S xi) 8 xi.toNatClampNeg) = 0 then (g_X7_misses S xi) else ((g_X7_misses S xi)))
theorem fr_X7_isServed (S : zS) (xi : Int32) (r : Nat) (h10 : r ≠ 10) (h11 : r ≠ 11) (h13 : r ≠ 13) (h2 : r ≠ 2) (h3 : r ≠ 3) (h4 : r ≠ 4) (h5 : r ≠ 5) (h6 : r ≠ 6) (h7 : r ≠ 7) (h8 : r ≠ 8) (h9 : r ≠ 9) : g_X7_isServed S xi r = S r := by
  unfold g_X7_isServed
  (repeat' split) <;> simp [zUp, h10, h11, h13, h2, h3, h4, h5, h6, h7, h8, h9, fr_X7_misses]
set_option maxHeartbeats 1000000 in
set_option maxRecDepth 100000 in
theorem c_X7_isServed (l : Launch) (dC : Nat → ClassId) (dI : Nat → Nat → Nat) (cyI cyZ : ClassId) (ad : Nat → Nat) (hI : zI ad 14) (S : zS) (xi : Int32) : zMi l (dC, dI) [(cyI, .int), (cyZ, .boolean)] ad 14 (fun _ _ => True) (mw cyI cyZ ad) yX7_isServed wsX7_isServed ({ frames := 5, cells := 0, slots := 0, locals := 117 } : Room) [.ref (ad 0), .int xi] S (fun v T => v = f_X7_isServed S xi ∧ T = g_X7_isServed S xi) := by
  refine zStartI (by decide) rfl (Nat.le_of_ble_eq_true rfl) ?_
  intro p e s m args below meth c ls cx hrt hlk hP hK hXs hl
  have hl : lv_has ls 2 [(0, .ref (ad 0)), (1, .int xi)] := hl
  have hS : va_S (zA ad 14 s.heap.size) s.heap s.heap [] := va_S.rf
  have hinX7 : ∀ w ∈ u_ws RX7 TX7 19, w ∈ wsX7_isServed := by decide +kernel
  refine lv_aload_n cx.1 cx.2.1 dX7_isServed_0 rfl (lv_at hl 0 rfl) ?_
  refine lv_iload_n cx.1 cx.2.1 dX7_isServed_1 rfl (lv_at hl 1 rfl) ?_
  refine zThenIx (v := f_X7_misses S xi) (S' := g_X7_misses S xi) hS (zRunV (As := [.int xi]) (rest := []) _ 1 cx (c_X7_misses l dC dI cyI cyZ ad hI S xi) gX7_isServed_X7_misses rfl ⟨rfl, rfl⟩ (by decide +kernel) ⟨Nat.le_of_ble_eq_true rfl, Nat.le_of_ble_eq_true rfl⟩ (zX_true) trivial hK hP hS 0 rfl rfl rfl rfl hl.1 rfl (Nat.le_of_ble_eq_true rfl) dX7_isServed_2 ⟨Nat.zero_le _, Nat.zero_le _⟩) (fun H locs hP hS => ?_)
  obtain ⟨N1, hN1⟩ : ∃ T : zS, g_X7_misses S xi = T := ⟨_, rfl⟩
  rw [hN1] at hP
  refine lv_if_ne (tgt := 21) cx.1 cx.2.1 dX7_isServed_5 (by decide) (fun c2 => ?_) (fun c2 => ?_)
  · refine lv_iconst (v := 0) cx.1 cx.2.1 dX7_isServed_21 (by decide) ?_
    subst hN1
    exact zRetI (v := 0) cx hrt hlk (by first | rfl | decide) hS hP ⟨(by unfold f_X7_isServed; rw [if_pos c2]), (by unfold g_X7_isServed; rw [if_pos c2])⟩ dX7_isServed_22
  · refine lv_aload_n cx.1 cx.2.1 dX7_isServed_8 rfl (lv_at hl 0 rfl) ?_
    refine zGet (v := .ref (ad 9)) (own := RX7) cx hinX7 hK hP 0 rfl rfl 13 (by decide) (by decide +kernel) rfl rfl dX7_isServed_9 ?_
    refine lv_iload_n cx.1 cx.2.1 dX7_isServed_12 rfl (lv_at hl 1 rfl) ?_
    refine zZldN cx hK hP 9 1 rfl rfl (xi.toNatClampNeg) (vp_lt (miss_in (by assumption))) (by decide) ((cell_nI (miss_in (by assumption))).symm) dX7_isServed_13 ?_
    refine lv_if_eq (tgt := 21) cx.1 cx.2.1 dX7_isServed_14 (by decide) (fun c3 => ?_) (fun c3 => ?_)
    · refine lv_iconst (v := 0) cx.1 cx.2.1 dX7_isServed_21 (by decide) ?_
      subst hN1
      exact zRetI (v := 0) cx hrt hlk (by first | rfl | decide) hS hP ⟨(by unfold f_X7_isServed; rw [if_neg (not_not_intro c2), if_pos c3]), (by unfold g_X7_isServed; rw [if_neg (not_not_intro c2), if_pos c3])⟩ dX7_isServed_22
    · refine lv_iconst (v := 1) cx.1 cx.2.1 dX7_isServed_17 (by decide) ?_
      refine lv_goto (tgt := 22) cx.1 cx.2.1 dX7_isServed_18 (by decide) ?_
      subst hN1
      exact zRetI (v := 1) cx hrt hlk (by first | rfl | decide) hS hP ⟨(by unfold f_X7_isServed; rw [if_neg (not_not_intro c2), if_neg c3]), (by unfold g_X7_isServed; rw [if_neg (not_not_intro c2), if_neg c3])⟩ dX7_isServed_22

def f_X7_value (S : zS) (xi : Int32) : Int32 := if (f_X7_misses S xi) = 0 then f_X7_valueOf (g_X7_misses S xi) xi.toNatClampNeg else (0)
def g_X7_value (S : zS) (xi : Int32) : zS := if (f_X7_misses S xi) = 0 then (g_X7_misses S xi) else ((g_X7_misses S xi))
theorem fr_X7_value (S : zS) (xi : Int32) (r : Nat) (h10 : r ≠ 10) (h11 : r ≠ 11) (h13 : r ≠ 13) (h2 : r ≠ 2) (h3 : r ≠ 3) (h4 : r ≠ 4) (h5 : r ≠ 5) (h6 : r ≠ 6) (h7 : r ≠ 7) (h8 : r ≠ 8) (h9 : r ≠ 9) : g_X7_value S xi r = S r := by
  unfold g_X7_value
  (repeat' split) <;> simp [zUp, h10, h11, h13, h2, h3, h4, h5, h6, h7, h8, h9, fr_X7_misses]
set_option maxHeartbeats 1000000 in
set_option maxRecDepth 100000 in
theorem c_X7_value (l : Launch) (dC : Nat → ClassId) (dI : Nat → Nat → Nat) (cyI cyZ : ClassId) (ad : Nat → Nat) (hI : zI ad 14) (S : zS) (xi : Int32) : zMi l (dC, dI) [(cyI, .int), (cyZ, .boolean)] ad 14 (fun _ _ => True) (mw cyI cyZ ad) yX7_value wsX7_value ({ frames := 5, cells := 0, slots := 0, locals := 117 } : Room) [.ref (ad 0), .int xi] S (fun v T => v = f_X7_value S xi ∧ T = g_X7_value S xi) := by
  refine zStartI (by decide) rfl (Nat.le_of_ble_eq_true rfl) ?_
  intro p e s m args below meth c ls cx hrt hlk hP hK hXs hl
  have hl : lv_has ls 2 [(0, .ref (ad 0)), (1, .int xi)] := hl
  have hS : va_S (zA ad 14 s.heap.size) s.heap s.heap [] := va_S.rf
  refine lv_aload_n cx.1 cx.2.1 dX7_value_0 rfl (lv_at hl 0 rfl) ?_
  refine lv_iload_n cx.1 cx.2.1 dX7_value_1 rfl (lv_at hl 1 rfl) ?_
  refine zThenIx (v := f_X7_misses S xi) (S' := g_X7_misses S xi) hS (zRunV (As := [.int xi]) (rest := []) _ 1 cx (c_X7_misses l dC dI cyI cyZ ad hI S xi) gX7_value_X7_misses rfl ⟨rfl, rfl⟩ (by decide +kernel) ⟨Nat.le_of_ble_eq_true rfl, Nat.le_of_ble_eq_true rfl⟩ (zX_true) trivial hK hP hS 0 rfl rfl rfl rfl hl.1 rfl (Nat.le_of_ble_eq_true rfl) dX7_value_2 ⟨Nat.zero_le _, Nat.zero_le _⟩) (fun H locs hP hS => ?_)
  obtain ⟨N1, hN1⟩ : ∃ T : zS, g_X7_misses S xi = T := ⟨_, rfl⟩
  rw [hN1] at hP
  refine lv_if_eq (tgt := 12) cx.1 cx.2.1 dX7_value_5 (by decide) (fun c2 => ?_) (fun c2 => ?_)
  · refine lv_aload_n cx.1 cx.2.1 dX7_value_12 rfl (lv_at hl 0 rfl) ?_
    refine lv_iload_n cx.1 cx.2.1 dX7_value_13 rfl (lv_at hl 1 rfl) ?_
    refine zThenIx (v := f_X7_valueOf N1 xi.toNatClampNeg) (S' := N1) hS (zRunV (As := [.int xi]) (rest := []) _ 1 cx (by have z := c_X7_valueOf l dC dI cyI cyZ ad hI N1 xi.toNatClampNeg (vp_lt (miss_in (by assumption))) (by rw [← hN1]; exact miss_r (by assumption)); rw [cell_nI (miss_in (by assumption))] at z; exact z) gX7_value_X7_valueOf rfl ⟨rfl, rfl⟩ (by decide +kernel) ⟨Nat.le_of_ble_eq_true rfl, Nat.le_of_ble_eq_true rfl⟩ (zX_true) trivial hK hP hS 0 rfl rfl rfl rfl hl.1 rfl (Nat.le_of_ble_eq_true rfl) dX7_value_14 ⟨Nat.zero_le _, Nat.zero_le _⟩) (fun H locs hP hS => ?_)
    subst hN1
    exact zRetI (v := f_X7_valueOf (g_X7_misses S xi) xi.toNatClampNeg) cx hrt hlk rfl hS hP ⟨(by unfold f_X7_value; rw [if_pos c2]), (by unfold g_X7_value; rw [if_pos c2])⟩ dX7_value_17
  · refine lv_iconst (v := 0) cx.1 cx.2.1 dX7_value_8 (by decide) ?_
    refine lv_goto (tgt := 17) cx.1 cx.2.1 dX7_value_9 (by decide) ?_
    subst hN1
    exact zRetI (v := 0) cx hrt hlk rfl hS hP ⟨(by unfold f_X7_value; rw [if_neg c2]), (by unfold g_X7_value; rw [if_neg c2])⟩ dX7_value_17

def f_X7_powerLeft (S : zS) (xi : Int32) : Int32 := if ¬ (f_X7_misses S xi) = 0 then 0 else (if ¬ ((g_X7_misses S xi) 3 xi.toNatClampNeg) = (-1) then (g_X7_misses S xi) 6 ((g_X7_misses S xi) 3 xi.toNatClampNeg).toNatClampNeg else (0))
def g_X7_powerLeft (S : zS) (xi : Int32) : zS := if ¬ (f_X7_misses S xi) = 0 then (g_X7_misses S xi) else (if ¬ ((g_X7_misses S xi) 3 xi.toNatClampNeg) = (-1) then (g_X7_misses S xi) else ((g_X7_misses S xi)))
theorem fr_X7_powerLeft (S : zS) (xi : Int32) (r : Nat) (h10 : r ≠ 10) (h11 : r ≠ 11) (h13 : r ≠ 13) (h2 : r ≠ 2) (h3 : r ≠ 3) (h4 : r ≠ 4) (h5 : r ≠ 5) (h6 : r ≠ 6) (h7 : r ≠ 7) (h8 : r ≠ 8) (h9 : r ≠ 9) : g_X7_powerLeft S xi r = S r := by
  unfold g_X7_powerLeft
  (repeat' split) <;> simp [zUp, h10, h11, h13, h2, h3, h4, h5, h6, h7, h8, h9, fr_X7_misses]
set_option maxHeartbeats 1000000 in
set_option maxRecDepth 100000 in
theorem c_X7_powerLeft (l : Launch) (dC : Nat → ClassId) (dI : Nat → Nat → Nat) (cyI cyZ : ClassId) (ad : Nat → Nat) (hI : zI ad 14) (S : zS) (xi : Int32) : zMi l (dC, dI) [(cyI, .int), (cyZ, .boolean)] ad 14 (fun _ _ => True) (mw cyI cyZ ad) yX7_powerLeft wsX7_powerLeft ({ frames := 5, cells := 0, slots := 0, locals := 117 } : Room) [.ref (ad 0), .int xi] S (fun v T => v = f_X7_powerLeft S xi ∧ T = g_X7_powerLeft S xi) := by
  refine zStartI (by decide) rfl (Nat.le_of_ble_eq_true rfl) ?_
  intro p e s m args below meth c ls cx hrt hlk hP hK hXs hl
  have hl : lv_has ls 2 [(0, .ref (ad 0)), (1, .int xi)] := hl
  have hS : va_S (zA ad 14 s.heap.size) s.heap s.heap [] := va_S.rf
  have hinX7 : ∀ w ∈ u_ws RX7 TX7 19, w ∈ wsX7_powerLeft := by decide +kernel
  refine lv_aload_n cx.1 cx.2.1 dX7_powerLeft_0 rfl (lv_at hl 0 rfl) ?_
  refine lv_iload_n cx.1 cx.2.1 dX7_powerLeft_1 rfl (lv_at hl 1 rfl) ?_
  refine zThenIx (v := f_X7_misses S xi) (S' := g_X7_misses S xi) hS (zRunV (As := [.int xi]) (rest := []) _ 1 cx (c_X7_misses l dC dI cyI cyZ ad hI S xi) gX7_powerLeft_X7_misses rfl ⟨rfl, rfl⟩ (by decide +kernel) ⟨Nat.le_of_ble_eq_true rfl, Nat.le_of_ble_eq_true rfl⟩ (zX_true) trivial hK hP hS 0 rfl rfl rfl rfl hl.1 rfl (Nat.le_of_ble_eq_true rfl) dX7_powerLeft_2 ⟨Nat.zero_le _, Nat.zero_le _⟩) (fun H locs hP hS => ?_)
  obtain ⟨N1, hN1⟩ : ∃ T : zS, g_X7_misses S xi = T := ⟨_, rfl⟩
  rw [hN1] at hP
  refine lv_if_ne (tgt := 18) cx.1 cx.2.1 dX7_powerLeft_5 (by decide) (fun c2 => ?_) (fun c2 => ?_)
  · refine lv_iconst (v := 0) cx.1 cx.2.1 dX7_powerLeft_18 (by decide) ?_
    refine lv_goto (tgt := 33) cx.1 cx.2.1 dX7_powerLeft_19 (by decide) ?_
    subst hN1
    exact zRetI (v := 0) cx hrt hlk rfl hS hP ⟨(by unfold f_X7_powerLeft; rw [if_pos c2]), (by unfold g_X7_powerLeft; rw [if_pos c2])⟩ dX7_powerLeft_33
  · refine lv_aload_n cx.1 cx.2.1 dX7_powerLeft_8 rfl (lv_at hl 0 rfl) ?_
    refine zGet (v := .ref (ad 4)) (own := RX7) cx hinX7 hK hP 0 rfl rfl 8 (by decide) (by decide +kernel) rfl rfl dX7_powerLeft_9 ?_
    refine lv_iload_n cx.1 cx.2.1 dX7_powerLeft_12 rfl (lv_at hl 1 rfl) ?_
    refine zIld cx hK hP 4 0 rfl rfl (miss_in (by assumption)) dX7_powerLeft_13 ?_
    refine lv_iconst (v := (-1)) cx.1 cx.2.1 dX7_powerLeft_14 (by decide) ?_
    refine lv_icmp_ne (tgt := 22) cx.1 cx.2.1 dX7_powerLeft_15 (by decide) (fun c3 => ?_) (fun c3 => ?_)
    · refine lv_aload_n cx.1 cx.2.1 dX7_powerLeft_22 rfl (lv_at hl 0 rfl) ?_
      refine zGet (v := .ref (ad 7)) (own := RX7) cx hinX7 hK hP 0 rfl rfl 11 (by decide) (by decide +kernel) rfl rfl dX7_powerLeft_23 ?_
      refine lv_aload_n cx.1 cx.2.1 dX7_powerLeft_26 rfl (lv_at hl 0 rfl) ?_
      refine zGet (v := .ref (ad 4)) (own := RX7) cx hinX7 hK hP 0 rfl rfl 8 (by decide) (by decide +kernel) rfl rfl dX7_powerLeft_27 ?_
      refine lv_iload_n cx.1 cx.2.1 dX7_powerLeft_30 rfl (lv_at hl 1 rfl) ?_
      refine zIld cx hK hP 4 0 rfl rfl (miss_in (by assumption)) dX7_powerLeft_31 ?_
      refine zIld cx hK hP 7 0 rfl rfl ((show rOK (N1 3) xi.toNatClampNeg by rw [← hN1]; exact miss_n (by assumption) _ (vp_lt (miss_in (by assumption)))).resolve_left (by assumption)) dX7_powerLeft_32 ?_
      subst hN1
      exact zRetI (v := (g_X7_misses S xi) 6 ((g_X7_misses S xi) 3 xi.toNatClampNeg).toNatClampNeg) cx hrt hlk rfl hS hP ⟨(by unfold f_X7_powerLeft; rw [if_neg (not_not_intro c2), if_pos c3]), (by unfold g_X7_powerLeft; rw [if_neg (not_not_intro c2), if_pos c3])⟩ dX7_powerLeft_33
    · refine lv_iconst (v := 0) cx.1 cx.2.1 dX7_powerLeft_18 (by decide) ?_
      refine lv_goto (tgt := 33) cx.1 cx.2.1 dX7_powerLeft_19 (by decide) ?_
      subst hN1
      exact zRetI (v := 0) cx hrt hlk rfl hS hP ⟨(by unfold f_X7_powerLeft; rw [if_neg (not_not_intro c2), if_neg (not_not_intro c3)]), (by unfold g_X7_powerLeft; rw [if_neg (not_not_intro c2), if_neg (not_not_intro c3)])⟩ dX7_powerLeft_33

def f_X7_steps (S : zS) (xa : Int32) (xb : Int32) : Int32 := if (f_X7_isCell xa) = 0 then 0 else (if (f_X7_isCell xb) = 0 then 0 else (if ((g_X7_finds (zUp S 13 (upd (S 13) 5 0))) 2 xa.toNatClampNeg) = (-1) then (-1) else (if ¬ ((g_X7_finds (zUp S 13 (upd (S 13) 5 0))) 2 xb.toNatClampNeg) = (-1) then (g_X7_finds (zUp S 13 (upd (S 13) 5 0))) 4 (64 * ((g_X7_finds (zUp S 13 (upd (S 13) 5 0))) 2 xa.toNatClampNeg).toNatClampNeg + ((g_X7_finds (zUp S 13 (upd (S 13) 5 0))) 2 xb.toNatClampNeg).toNatClampNeg) else ((-1)))))
def g_X7_steps (S : zS) (xa : Int32) (xb : Int32) : zS := if (f_X7_isCell xa) = 0 then zUp S 13 (upd (S 13) 5 1) else (if (f_X7_isCell xb) = 0 then zUp S 13 (upd (S 13) 5 1) else (if ((g_X7_finds (zUp S 13 (upd (S 13) 5 0))) 2 xa.toNatClampNeg) = (-1) then (g_X7_finds (zUp S 13 (upd (S 13) 5 0))) else (if ¬ ((g_X7_finds (zUp S 13 (upd (S 13) 5 0))) 2 xb.toNatClampNeg) = (-1) then (g_X7_finds (zUp S 13 (upd (S 13) 5 0))) else ((g_X7_finds (zUp S 13 (upd (S 13) 5 0)))))))
theorem fr_X7_steps (S : zS) (xa : Int32) (xb : Int32) (r : Nat) (h10 : r ≠ 10) (h11 : r ≠ 11) (h13 : r ≠ 13) (h2 : r ≠ 2) (h3 : r ≠ 3) (h4 : r ≠ 4) (h5 : r ≠ 5) (h6 : r ≠ 6) (h7 : r ≠ 7) (h8 : r ≠ 8) (h9 : r ≠ 9) : g_X7_steps S xa xb r = S r := by
  unfold g_X7_steps
  (repeat' split) <;> simp [zUp, h10, h11, h13, h2, h3, h4, h5, h6, h7, h8, h9, fr_X7_finds]
set_option maxHeartbeats 1000000 in
set_option maxRecDepth 100000 in
theorem c_X7_steps (l : Launch) (dC : Nat → ClassId) (dI : Nat → Nat → Nat) (cyI cyZ : ClassId) (ad : Nat → Nat) (hI : zI ad 14) (S : zS) (xa : Int32) (xb : Int32) : zMi l (dC, dI) [(cyI, .int), (cyZ, .boolean)] ad 14 (fun _ _ => True) (mw cyI cyZ ad) yX7_steps wsX7_steps ({ frames := 4, cells := 0, slots := 0, locals := 95 } : Room) [.ref (ad 0), .int xa, .int xb] S (fun v T => v = f_X7_steps S xa xb ∧ T = g_X7_steps S xa xb) := by
  refine zStartI (by decide) rfl (Nat.le_of_ble_eq_true rfl) ?_
  intro p e s m args below meth c ls cx hrt hlk hP hK hXs hl
  have hl : lv_has ls 4 [(0, .ref (ad 0)), (1, .int xa), (2, .int xb)] := hl
  have hS : va_S (zA ad 14 s.heap.size) s.heap s.heap [] := va_S.rf
  have hinX7 : ∀ w ∈ u_ws RX7 TX7 19, w ∈ wsX7_steps := by decide +kernel
  refine lv_iload_n cx.1 cx.2.1 dX7_steps_0 rfl (lv_at hl 1 rfl) ?_
  refine zThenIx (v := f_X7_isCell xa) (S' := S) hS (zRunS (As := [.int xa]) (rest := []) _ 1 cx (c_X7_isCell l dC dI cyI cyZ ad hI S xa) gX7_steps_X7_isCell rfl ⟨rfl, rfl⟩ (by decide +kernel) ⟨Nat.le_of_ble_eq_true rfl, Nat.le_of_ble_eq_true rfl⟩ (zX_true) trivial hK hP hS rfl hl.1 rfl (Nat.le_of_ble_eq_true rfl) dX7_steps_1 ⟨Nat.zero_le _, Nat.zero_le _⟩) (fun H locs hP hS => ?_)
  refine lv_if_eq (tgt := 18) cx.1 cx.2.1 dX7_steps_4 (by decide) (fun c1 => ?_) (fun c1 => ?_)
  · refine lv_iconst (v := 0) cx.1 cx.2.1 dX7_steps_18 (by decide) ?_
    refine lv_istore_n (lv' := [(3, .int 0), (0, .ref (ad 0)), (1, .int xa), (2, .int xb)]) cx.1 cx.2.1 dX7_steps_19 rfl hl (by decide) rfl (fun ls hl => ?_)
    refine lv_aload_n cx.1 cx.2.1 dX7_steps_20 rfl (lv_at hl 1 rfl) ?_
    refine lv_iload_n cx.1 cx.2.1 dX7_steps_21 rfl (lv_at hl 0 rfl) ?_
    refine lv_if_eq (tgt := 29) cx.1 cx.2.1 dX7_steps_22 (by decide) (fun c2 => ?_) (fun c2 => ?_)
    rotate_left
    · exact absurd c2 (by decide)
    refine lv_iconst (v := 1) cx.1 cx.2.1 dX7_steps_29 (by decide) ?_
    refine zThenIx (v := f_X7_fails S 1) (S' := zUp S 13 (upd (S 13) 5 1)) hS (zRunV (As := [.int 1]) (rest := []) _ 1 cx (c_X7_fails l dC dI cyI cyZ ad hI S 1) gX7_steps_X7_fails rfl ⟨rfl, rfl⟩ (by decide +kernel) ⟨Nat.le_of_ble_eq_true rfl, Nat.le_of_ble_eq_true rfl⟩ (zX_true) trivial hK hP hS 0 rfl rfl rfl rfl hl.1 rfl (Nat.le_of_ble_eq_true rfl) dX7_steps_30 ⟨Nat.zero_le _, Nat.zero_le _⟩) (fun H locs hP hS => ?_)
    rw [fails_1]
    refine lv_if_eq (tgt := 38) cx.1 cx.2.1 dX7_steps_33 (by decide) (fun c3 => ?_) (fun c3 => ?_)
    · exact absurd c3 (by decide)
    refine lv_iconst (v := 0) cx.1 cx.2.1 dX7_steps_36 (by decide) ?_
    exact zRetI (v := 0) cx hrt hlk rfl hS hP ⟨(by unfold f_X7_steps; rw [if_pos c1]), (by unfold g_X7_steps; rw [if_pos c1])⟩ dX7_steps_37
  · refine lv_iload_n cx.1 cx.2.1 dX7_steps_7 rfl (lv_at hl 2 rfl) ?_
    refine zThenIx (v := f_X7_isCell xb) (S' := S) hS (zRunS (As := [.int xb]) (rest := []) _ 1 cx (c_X7_isCell l dC dI cyI cyZ ad hI S xb) gX7_steps_X7_isCell rfl ⟨rfl, rfl⟩ (by decide +kernel) ⟨Nat.le_of_ble_eq_true rfl, Nat.le_of_ble_eq_true rfl⟩ (zX_true) trivial hK hP hS rfl hl.1 rfl (Nat.le_of_ble_eq_true rfl) dX7_steps_8 ⟨Nat.zero_le _, Nat.zero_le _⟩) (fun H locs hP hS => ?_)
    refine lv_if_eq (tgt := 18) cx.1 cx.2.1 dX7_steps_11 (by decide) (fun c4 => ?_) (fun c4 => ?_)
    · refine lv_iconst (v := 0) cx.1 cx.2.1 dX7_steps_18 (by decide) ?_
      refine lv_istore_n (lv' := [(3, .int 0), (0, .ref (ad 0)), (1, .int xa), (2, .int xb)]) cx.1 cx.2.1 dX7_steps_19 rfl hl (by decide) rfl (fun ls hl => ?_)
      refine lv_aload_n cx.1 cx.2.1 dX7_steps_20 rfl (lv_at hl 1 rfl) ?_
      refine lv_iload_n cx.1 cx.2.1 dX7_steps_21 rfl (lv_at hl 0 rfl) ?_
      refine lv_if_eq (tgt := 29) cx.1 cx.2.1 dX7_steps_22 (by decide) (fun c5 => ?_) (fun c5 => ?_)
      rotate_left
      · exact absurd c5 (by decide)
      refine lv_iconst (v := 1) cx.1 cx.2.1 dX7_steps_29 (by decide) ?_
      refine zThenIx (v := f_X7_fails S 1) (S' := zUp S 13 (upd (S 13) 5 1)) hS (zRunV (As := [.int 1]) (rest := []) _ 1 cx (c_X7_fails l dC dI cyI cyZ ad hI S 1) gX7_steps_X7_fails rfl ⟨rfl, rfl⟩ (by decide +kernel) ⟨Nat.le_of_ble_eq_true rfl, Nat.le_of_ble_eq_true rfl⟩ (zX_true) trivial hK hP hS 0 rfl rfl rfl rfl hl.1 rfl (Nat.le_of_ble_eq_true rfl) dX7_steps_30 ⟨Nat.zero_le _, Nat.zero_le _⟩) (fun H locs hP hS => ?_)
      rw [fails_1]
      refine lv_if_eq (tgt := 38) cx.1 cx.2.1 dX7_steps_33 (by decide) (fun c6 => ?_) (fun c6 => ?_)
      · exact absurd c6 (by decide)
      refine lv_iconst (v := 0) cx.1 cx.2.1 dX7_steps_36 (by decide) ?_
      exact zRetI (v := 0) cx hrt hlk rfl hS hP ⟨(by unfold f_X7_steps; rw [if_neg c1, if_pos c4]), (by unfold g_X7_steps; rw [if_neg c1, if_pos c4])⟩ dX7_steps_37
    · refine lv_iconst (v := 1) cx.1 cx.2.1 dX7_steps_14 (by decide) ?_
      refine lv_goto (tgt := 19) cx.1 cx.2.1 dX7_steps_15 (by decide) ?_
      refine lv_istore_n (lv' := [(3, .int 1), (0, .ref (ad 0)), (1, .int xa), (2, .int xb)]) cx.1 cx.2.1 dX7_steps_19 rfl hl (by decide) rfl (fun ls hl => ?_)
      refine lv_aload_n cx.1 cx.2.1 dX7_steps_20 rfl (lv_at hl 1 rfl) ?_
      refine lv_iload_n cx.1 cx.2.1 dX7_steps_21 rfl (lv_at hl 0 rfl) ?_
      refine lv_if_eq (tgt := 29) cx.1 cx.2.1 dX7_steps_22 (by decide) (fun c7 => ?_) (fun c7 => ?_)
      · exact absurd c7 (by decide)
      refine lv_iconst (v := 0) cx.1 cx.2.1 dX7_steps_25 (by decide) ?_
      refine lv_goto (tgt := 30) cx.1 cx.2.1 dX7_steps_26 (by decide) ?_
      refine zThenIx (v := f_X7_fails S 0) (S' := zUp S 13 (upd (S 13) 5 0)) hS (zRunV (As := [.int 0]) (rest := []) _ 1 cx (c_X7_fails l dC dI cyI cyZ ad hI S 0) gX7_steps_X7_fails rfl ⟨rfl, rfl⟩ (by decide +kernel) ⟨Nat.le_of_ble_eq_true rfl, Nat.le_of_ble_eq_true rfl⟩ (zX_true) trivial hK hP hS 0 rfl rfl rfl rfl hl.1 rfl (Nat.le_of_ble_eq_true rfl) dX7_steps_30 ⟨Nat.zero_le _, Nat.zero_le _⟩) (fun H locs hP hS => ?_)
      rw [fails_0]
      refine lv_if_eq (tgt := 38) cx.1 cx.2.1 dX7_steps_33 (by decide) (fun c8 => ?_) (fun c8 => ?_)
      rotate_left
      · exact absurd c8 (by decide)
      refine lv_aload_n cx.1 cx.2.1 dX7_steps_38 rfl (lv_at hl 1 rfl) ?_
      refine zThenVx (S' := g_X7_finds (zUp S 13 (upd (S 13) 5 0))) hS (zRunV (As := []) (rest := []) _ 0 cx (c_X7_finds l dC dI cyI cyZ ad hI (zUp S 13 (upd (S 13) 5 0)) ) gX7_steps_X7_finds rfl ⟨rfl, rfl⟩ (by decide +kernel) ⟨Nat.le_of_ble_eq_true rfl, Nat.le_of_ble_eq_true rfl⟩ (zX_true) trivial hK hP hS 0 rfl rfl rfl rfl hl.1 rfl (Nat.le_of_ble_eq_true rfl) dX7_steps_39 ⟨Nat.zero_le _, Nat.zero_le _⟩) (fun H locs hP hS => ?_)
      obtain ⟨N9, hN9⟩ : ∃ T : zS, g_X7_finds (zUp S 13 (upd (S 13) 5 0)) = T := ⟨_, rfl⟩
      rw [hN9] at hP
      refine lv_aload_n cx.1 cx.2.1 dX7_steps_42 rfl (lv_at hl 1 rfl) ?_
      refine zGet (v := .ref (ad 3)) (own := RX7) cx hinX7 hK hP 0 rfl rfl 7 (by decide) (by decide +kernel) rfl rfl dX7_steps_43 ?_
      refine lv_iload_n cx.1 cx.2.1 dX7_steps_46 rfl (lv_at hl 2 rfl) ?_
      refine zIld cx hK hP 3 0 rfl rfl (cell_in (by assumption)) dX7_steps_47 ?_
      refine lv_iconst (v := (-1)) cx.1 cx.2.1 dX7_steps_48 (by decide) ?_
      refine lv_icmp_eq (tgt := 62) cx.1 cx.2.1 dX7_steps_49 (by decide) (fun c10 => ?_) (fun c10 => ?_)
      · refine lv_iconst (v := (-1)) cx.1 cx.2.1 dX7_steps_62 (by decide) ?_
        refine lv_goto (tgt := 87) cx.1 cx.2.1 dX7_steps_63 (by decide) ?_
        subst hN9
        exact zRetI (v := (-1)) cx hrt hlk rfl hS hP ⟨(by unfold f_X7_steps; rw [if_neg c1, if_neg c4, if_pos c10]), (by unfold g_X7_steps; rw [if_neg c1, if_neg c4, if_pos c10])⟩ dX7_steps_87
      · refine lv_aload_n cx.1 cx.2.1 dX7_steps_52 rfl (lv_at hl 1 rfl) ?_
        refine zGet (v := .ref (ad 3)) (own := RX7) cx hinX7 hK hP 0 rfl rfl 7 (by decide) (by decide +kernel) rfl rfl dX7_steps_53 ?_
        refine lv_iload_n cx.1 cx.2.1 dX7_steps_56 rfl (lv_at hl 3 rfl) ?_
        refine zIld cx hK hP 3 0 rfl rfl (cell_in (by assumption)) dX7_steps_57 ?_
        refine lv_iconst (v := (-1)) cx.1 cx.2.1 dX7_steps_58 (by decide) ?_
        refine lv_icmp_ne (tgt := 66) cx.1 cx.2.1 dX7_steps_59 (by decide) (fun c11 => ?_) (fun c11 => ?_)
        · refine lv_aload_n cx.1 cx.2.1 dX7_steps_66 rfl (lv_at hl 1 rfl) ?_
          refine zGet (v := .ref (ad 5)) (own := RX7) cx hinX7 hK hP 0 rfl rfl 9 (by decide) (by decide +kernel) rfl rfl dX7_steps_67 ?_
          refine lv_bipush (v := 64) cx.1 cx.2.1 dX7_steps_70 (by decide) ?_
          refine lv_aload_n cx.1 cx.2.1 dX7_steps_72 rfl (lv_at hl 1 rfl) ?_
          refine zGet (v := .ref (ad 3)) (own := RX7) cx hinX7 hK hP 0 rfl rfl 7 (by decide) (by decide +kernel) rfl rfl dX7_steps_73 ?_
          refine lv_iload_n cx.1 cx.2.1 dX7_steps_76 rfl (lv_at hl 2 rfl) ?_
          refine zIld cx hK hP 3 0 rfl rfl (cell_in (by assumption)) dX7_steps_77 ?_
          refine lv_imul cx.1 cx.2.1 dX7_steps_78 ?_
          refine lv_aload_n cx.1 cx.2.1 dX7_steps_79 rfl (lv_at hl 1 rfl) ?_
          refine zGet (v := .ref (ad 3)) (own := RX7) cx hinX7 hK hP 0 rfl rfl 7 (by decide) (by decide +kernel) rfl rfl dX7_steps_80 ?_
          refine lv_iload_n cx.1 cx.2.1 dX7_steps_83 rfl (lv_at hl 3 rfl) ?_
          refine zIld cx hK hP 3 0 rfl rfl (cell_in (by assumption)) dX7_steps_84 ?_
          refine lv_iadd cx.1 cx.2.1 dX7_steps_85 ?_
          refine zIldN cx hK hP 5 0 rfl rfl (64 * (N9 2 xa.toNatClampNeg).toNatClampNeg + (N9 2 xb.toNatClampNeg).toNatClampNeg) (at_b3 ((show rOK (N9 2) xa.toNatClampNeg by rw [← hN9]; exact finds_r _ _ (vp_lt (cell_in (by assumption)))).resolve_left (by assumption)) ((show rOK (N9 2) xb.toNatClampNeg by rw [← hN9]; exact finds_r _ _ (vp_lt (cell_in (by assumption)))).resolve_left (by assumption))) (by decide) (at_ix3 ((show rOK (N9 2) xa.toNatClampNeg by rw [← hN9]; exact finds_r _ _ (vp_lt (cell_in (by assumption)))).resolve_left (by assumption)) ((show rOK (N9 2) xb.toNatClampNeg by rw [← hN9]; exact finds_r _ _ (vp_lt (cell_in (by assumption)))).resolve_left (by assumption))) dX7_steps_86 ?_
          subst hN9
          exact zRetI (v := (g_X7_finds (zUp S 13 (upd (S 13) 5 0))) 4 (64 * ((g_X7_finds (zUp S 13 (upd (S 13) 5 0))) 2 xa.toNatClampNeg).toNatClampNeg + ((g_X7_finds (zUp S 13 (upd (S 13) 5 0))) 2 xb.toNatClampNeg).toNatClampNeg)) cx hrt hlk rfl hS hP ⟨(by unfold f_X7_steps; rw [if_neg c1, if_neg c4, if_neg c10, if_pos c11]), (by unfold g_X7_steps; rw [if_neg c1, if_neg c4, if_neg c10, if_pos c11])⟩ dX7_steps_87
        · refine lv_iconst (v := (-1)) cx.1 cx.2.1 dX7_steps_62 (by decide) ?_
          refine lv_goto (tgt := 87) cx.1 cx.2.1 dX7_steps_63 (by decide) ?_
          subst hN9
          exact zRetI (v := (-1)) cx hrt hlk rfl hS hP ⟨(by unfold f_X7_steps; rw [if_neg c1, if_neg c4, if_neg c10, if_neg (not_not_intro c11)]), (by unfold g_X7_steps; rw [if_neg c1, if_neg c4, if_neg c10, if_neg (not_not_intro c11)])⟩ dX7_steps_87

def f_X7_going (S : zS) (xh : Int32) (xt : Int32) : Int32 := if (f_X7_isCell xh) = 0 then 0 else (if (f_X7_isCell xt) = 0 then 0 else ((g_X7_finds (zUp S 13 (upd (S 13) 5 0))) 10 (64 * xh.toNatClampNeg + xt.toNatClampNeg)))
def g_X7_going (S : zS) (xh : Int32) (xt : Int32) : zS := if (f_X7_isCell xh) = 0 then zUp S 13 (upd (S 13) 5 1) else (if (f_X7_isCell xt) = 0 then zUp S 13 (upd (S 13) 5 1) else ((g_X7_finds (zUp S 13 (upd (S 13) 5 0)))))
theorem fr_X7_going (S : zS) (xh : Int32) (xt : Int32) (r : Nat) (h10 : r ≠ 10) (h11 : r ≠ 11) (h13 : r ≠ 13) (h2 : r ≠ 2) (h3 : r ≠ 3) (h4 : r ≠ 4) (h5 : r ≠ 5) (h6 : r ≠ 6) (h7 : r ≠ 7) (h8 : r ≠ 8) (h9 : r ≠ 9) : g_X7_going S xh xt r = S r := by
  unfold g_X7_going
  (repeat' split) <;> simp [zUp, h10, h11, h13, h2, h3, h4, h5, h6, h7, h8, h9, fr_X7_finds]
set_option maxHeartbeats 1000000 in
set_option maxRecDepth 100000 in
theorem c_X7_going (l : Launch) (dC : Nat → ClassId) (dI : Nat → Nat → Nat) (cyI cyZ : ClassId) (ad : Nat → Nat) (hI : zI ad 14) (S : zS) (xh : Int32) (xt : Int32) : zMi l (dC, dI) [(cyI, .int), (cyZ, .boolean)] ad 14 (fun _ _ => True) (mw cyI cyZ ad) yX7_going wsX7_going ({ frames := 4, cells := 0, slots := 0, locals := 95 } : Room) [.ref (ad 0), .int xh, .int xt] S (fun v T => v = f_X7_going S xh xt ∧ T = g_X7_going S xh xt) := by
  refine zStartI (by decide) rfl (Nat.le_of_ble_eq_true rfl) ?_
  intro p e s m args below meth c ls cx hrt hlk hP hK hXs hl
  have hl : lv_has ls 4 [(0, .ref (ad 0)), (1, .int xh), (2, .int xt)] := hl
  have hS : va_S (zA ad 14 s.heap.size) s.heap s.heap [] := va_S.rf
  have hinX7 : ∀ w ∈ u_ws RX7 TX7 19, w ∈ wsX7_going := by decide +kernel
  refine lv_iload_n cx.1 cx.2.1 dX7_going_0 rfl (lv_at hl 1 rfl) ?_
  refine zThenIx (v := f_X7_isCell xh) (S' := S) hS (zRunS (As := [.int xh]) (rest := []) _ 1 cx (c_X7_isCell l dC dI cyI cyZ ad hI S xh) gX7_going_X7_isCell rfl ⟨rfl, rfl⟩ (by decide +kernel) ⟨Nat.le_of_ble_eq_true rfl, Nat.le_of_ble_eq_true rfl⟩ (zX_true) trivial hK hP hS rfl hl.1 rfl (Nat.le_of_ble_eq_true rfl) dX7_going_1 ⟨Nat.zero_le _, Nat.zero_le _⟩) (fun H locs hP hS => ?_)
  refine lv_if_eq (tgt := 18) cx.1 cx.2.1 dX7_going_4 (by decide) (fun c1 => ?_) (fun c1 => ?_)
  · refine lv_iconst (v := 0) cx.1 cx.2.1 dX7_going_18 (by decide) ?_
    refine lv_istore_n (lv' := [(3, .int 0), (0, .ref (ad 0)), (1, .int xh), (2, .int xt)]) cx.1 cx.2.1 dX7_going_19 rfl hl (by decide) rfl (fun ls hl => ?_)
    refine lv_aload_n cx.1 cx.2.1 dX7_going_20 rfl (lv_at hl 1 rfl) ?_
    refine lv_iload_n cx.1 cx.2.1 dX7_going_21 rfl (lv_at hl 0 rfl) ?_
    refine lv_if_eq (tgt := 29) cx.1 cx.2.1 dX7_going_22 (by decide) (fun c2 => ?_) (fun c2 => ?_)
    rotate_left
    · exact absurd c2 (by decide)
    refine lv_iconst (v := 1) cx.1 cx.2.1 dX7_going_29 (by decide) ?_
    refine zThenIx (v := f_X7_fails S 1) (S' := zUp S 13 (upd (S 13) 5 1)) hS (zRunV (As := [.int 1]) (rest := []) _ 1 cx (c_X7_fails l dC dI cyI cyZ ad hI S 1) gX7_going_X7_fails rfl ⟨rfl, rfl⟩ (by decide +kernel) ⟨Nat.le_of_ble_eq_true rfl, Nat.le_of_ble_eq_true rfl⟩ (zX_true) trivial hK hP hS 0 rfl rfl rfl rfl hl.1 rfl (Nat.le_of_ble_eq_true rfl) dX7_going_30 ⟨Nat.zero_le _, Nat.zero_le _⟩) (fun H locs hP hS => ?_)
    rw [fails_1]
    refine lv_if_eq (tgt := 38) cx.1 cx.2.1 dX7_going_33 (by decide) (fun c3 => ?_) (fun c3 => ?_)
    · exact absurd c3 (by decide)
    refine lv_iconst (v := 0) cx.1 cx.2.1 dX7_going_36 (by decide) ?_
    exact zRetI (v := 0) cx hrt hlk rfl hS hP ⟨(by unfold f_X7_going; rw [if_pos c1]), (by unfold g_X7_going; rw [if_pos c1])⟩ dX7_going_37
  · refine lv_iload_n cx.1 cx.2.1 dX7_going_7 rfl (lv_at hl 2 rfl) ?_
    refine zThenIx (v := f_X7_isCell xt) (S' := S) hS (zRunS (As := [.int xt]) (rest := []) _ 1 cx (c_X7_isCell l dC dI cyI cyZ ad hI S xt) gX7_going_X7_isCell rfl ⟨rfl, rfl⟩ (by decide +kernel) ⟨Nat.le_of_ble_eq_true rfl, Nat.le_of_ble_eq_true rfl⟩ (zX_true) trivial hK hP hS rfl hl.1 rfl (Nat.le_of_ble_eq_true rfl) dX7_going_8 ⟨Nat.zero_le _, Nat.zero_le _⟩) (fun H locs hP hS => ?_)
    refine lv_if_eq (tgt := 18) cx.1 cx.2.1 dX7_going_11 (by decide) (fun c4 => ?_) (fun c4 => ?_)
    · refine lv_iconst (v := 0) cx.1 cx.2.1 dX7_going_18 (by decide) ?_
      refine lv_istore_n (lv' := [(3, .int 0), (0, .ref (ad 0)), (1, .int xh), (2, .int xt)]) cx.1 cx.2.1 dX7_going_19 rfl hl (by decide) rfl (fun ls hl => ?_)
      refine lv_aload_n cx.1 cx.2.1 dX7_going_20 rfl (lv_at hl 1 rfl) ?_
      refine lv_iload_n cx.1 cx.2.1 dX7_going_21 rfl (lv_at hl 0 rfl) ?_
      refine lv_if_eq (tgt := 29) cx.1 cx.2.1 dX7_going_22 (by decide) (fun c5 => ?_) (fun c5 => ?_)
      rotate_left
      · exact absurd c5 (by decide)
      refine lv_iconst (v := 1) cx.1 cx.2.1 dX7_going_29 (by decide) ?_
      refine zThenIx (v := f_X7_fails S 1) (S' := zUp S 13 (upd (S 13) 5 1)) hS (zRunV (As := [.int 1]) (rest := []) _ 1 cx (c_X7_fails l dC dI cyI cyZ ad hI S 1) gX7_going_X7_fails rfl ⟨rfl, rfl⟩ (by decide +kernel) ⟨Nat.le_of_ble_eq_true rfl, Nat.le_of_ble_eq_true rfl⟩ (zX_true) trivial hK hP hS 0 rfl rfl rfl rfl hl.1 rfl (Nat.le_of_ble_eq_true rfl) dX7_going_30 ⟨Nat.zero_le _, Nat.zero_le _⟩) (fun H locs hP hS => ?_)
      rw [fails_1]
      refine lv_if_eq (tgt := 38) cx.1 cx.2.1 dX7_going_33 (by decide) (fun c6 => ?_) (fun c6 => ?_)
      · exact absurd c6 (by decide)
      refine lv_iconst (v := 0) cx.1 cx.2.1 dX7_going_36 (by decide) ?_
      exact zRetI (v := 0) cx hrt hlk rfl hS hP ⟨(by unfold f_X7_going; rw [if_neg c1, if_pos c4]), (by unfold g_X7_going; rw [if_neg c1, if_pos c4])⟩ dX7_going_37
    · refine lv_iconst (v := 1) cx.1 cx.2.1 dX7_going_14 (by decide) ?_
      refine lv_goto (tgt := 19) cx.1 cx.2.1 dX7_going_15 (by decide) ?_
      refine lv_istore_n (lv' := [(3, .int 1), (0, .ref (ad 0)), (1, .int xh), (2, .int xt)]) cx.1 cx.2.1 dX7_going_19 rfl hl (by decide) rfl (fun ls hl => ?_)
      refine lv_aload_n cx.1 cx.2.1 dX7_going_20 rfl (lv_at hl 1 rfl) ?_
      refine lv_iload_n cx.1 cx.2.1 dX7_going_21 rfl (lv_at hl 0 rfl) ?_
      refine lv_if_eq (tgt := 29) cx.1 cx.2.1 dX7_going_22 (by decide) (fun c7 => ?_) (fun c7 => ?_)
      · exact absurd c7 (by decide)
      refine lv_iconst (v := 0) cx.1 cx.2.1 dX7_going_25 (by decide) ?_
      refine lv_goto (tgt := 30) cx.1 cx.2.1 dX7_going_26 (by decide) ?_
      refine zThenIx (v := f_X7_fails S 0) (S' := zUp S 13 (upd (S 13) 5 0)) hS (zRunV (As := [.int 0]) (rest := []) _ 1 cx (c_X7_fails l dC dI cyI cyZ ad hI S 0) gX7_going_X7_fails rfl ⟨rfl, rfl⟩ (by decide +kernel) ⟨Nat.le_of_ble_eq_true rfl, Nat.le_of_ble_eq_true rfl⟩ (zX_true) trivial hK hP hS 0 rfl rfl rfl rfl hl.1 rfl (Nat.le_of_ble_eq_true rfl) dX7_going_30 ⟨Nat.zero_le _, Nat.zero_le _⟩) (fun H locs hP hS => ?_)
      rw [fails_0]
      refine lv_if_eq (tgt := 38) cx.1 cx.2.1 dX7_going_33 (by decide) (fun c8 => ?_) (fun c8 => ?_)
      rotate_left
      · exact absurd c8 (by decide)
      refine lv_aload_n cx.1 cx.2.1 dX7_going_38 rfl (lv_at hl 1 rfl) ?_
      refine zThenVx (S' := g_X7_finds (zUp S 13 (upd (S 13) 5 0))) hS (zRunV (As := []) (rest := []) _ 0 cx (c_X7_finds l dC dI cyI cyZ ad hI (zUp S 13 (upd (S 13) 5 0)) ) gX7_going_X7_finds rfl ⟨rfl, rfl⟩ (by decide +kernel) ⟨Nat.le_of_ble_eq_true rfl, Nat.le_of_ble_eq_true rfl⟩ (zX_true) trivial hK hP hS 0 rfl rfl rfl rfl hl.1 rfl (Nat.le_of_ble_eq_true rfl) dX7_going_39 ⟨Nat.zero_le _, Nat.zero_le _⟩) (fun H locs hP hS => ?_)
      obtain ⟨N9, hN9⟩ : ∃ T : zS, g_X7_finds (zUp S 13 (upd (S 13) 5 0)) = T := ⟨_, rfl⟩
      rw [hN9] at hP
      refine lv_aload_n cx.1 cx.2.1 dX7_going_42 rfl (lv_at hl 1 rfl) ?_
      refine zGet (v := .ref (ad 11)) (own := RX7) cx hinX7 hK hP 0 rfl rfl 15 (by decide) (by decide +kernel) rfl rfl dX7_going_43 ?_
      refine lv_bipush (v := 64) cx.1 cx.2.1 dX7_going_46 (by decide) ?_
      refine lv_iload_n cx.1 cx.2.1 dX7_going_48 rfl (lv_at hl 2 rfl) ?_
      refine lv_imul cx.1 cx.2.1 dX7_going_49 ?_
      refine lv_iload_n cx.1 cx.2.1 dX7_going_50 rfl (lv_at hl 3 rfl) ?_
      refine lv_iadd cx.1 cx.2.1 dX7_going_51 ?_
      refine zIldN cx hK hP 11 0 rfl rfl (64 * xh.toNatClampNeg + xt.toNatClampNeg) (at_b3 (cell_in (by assumption)) (cell_in (by assumption))) (by decide) (at_ix3 (cell_in (by assumption)) (cell_in (by assumption))) dX7_going_52 ?_
      subst hN9
      exact zRetI (v := (g_X7_finds (zUp S 13 (upd (S 13) 5 0))) 10 (64 * xh.toNatClampNeg + xt.toNatClampNeg)) cx hrt hlk rfl hS hP ⟨(by unfold f_X7_going; rw [if_neg c1, if_neg c4]), (by unfold g_X7_going; rw [if_neg c1, if_neg c4])⟩ dX7_going_53

def f_X7_sign (S : zS) (xi : Int32) (xp : Int32) : Int32 := if (f_X7_isCell xi) = 0 then 32 else (if (f_X7_signOf S xi.toNatClampNeg xp) = 32 then 32 else (f_X7_signOf (zUp S 13 (upd (S 13) 5 0)) xi.toNatClampNeg xp))
def g_X7_sign (S : zS) (xi : Int32) (xp : Int32) : zS := if (f_X7_isCell xi) = 0 then zUp S 13 (upd (S 13) 5 1) else (if (f_X7_signOf S xi.toNatClampNeg xp) = 32 then zUp S 13 (upd (S 13) 5 1) else (zUp S 13 (upd (S 13) 5 0)))
theorem fr_X7_sign (S : zS) (xi : Int32) (xp : Int32) (r : Nat) (h13 : r ≠ 13) : g_X7_sign S xi xp r = S r := by
  unfold g_X7_sign
  (repeat' split) <;> simp [zUp, h13]
set_option maxHeartbeats 1000000 in
set_option maxRecDepth 100000 in
theorem c_X7_sign (l : Launch) (dC : Nat → ClassId) (dI : Nat → Nat → Nat) (cyI cyZ : ClassId) (ad : Nat → Nat) (hI : zI ad 14) (S : zS) (xi : Int32) (xp : Int32) : zMi l (dC, dI) [(cyI, .int), (cyZ, .boolean)] ad 14 (fun _ _ => True) (mw cyI cyZ ad) yX7_sign wsX7_sign ({ frames := 2, cells := 0, slots := 0, locals := 44 } : Room) [.ref (ad 0), .int xi, .int xp] S (fun v T => v = f_X7_sign S xi xp ∧ T = g_X7_sign S xi xp) := by
  refine zStartI (by decide) rfl (Nat.le_of_ble_eq_true rfl) ?_
  intro p e s m args below meth c ls cx hrt hlk hP hK hXs hl
  have hl : lv_has ls 4 [(0, .ref (ad 0)), (1, .int xi), (2, .int xp)] := hl
  have hS : va_S (zA ad 14 s.heap.size) s.heap s.heap [] := va_S.rf
  refine lv_iload_n cx.1 cx.2.1 dX7_sign_0 rfl (lv_at hl 1 rfl) ?_
  refine zThenIx (v := f_X7_isCell xi) (S' := S) hS (zRunS (As := [.int xi]) (rest := []) _ 1 cx (c_X7_isCell l dC dI cyI cyZ ad hI S xi) gX7_sign_X7_isCell rfl ⟨rfl, rfl⟩ (by decide +kernel) ⟨Nat.le_of_ble_eq_true rfl, Nat.le_of_ble_eq_true rfl⟩ (zX_true) trivial hK hP hS rfl hl.1 rfl (Nat.le_of_ble_eq_true rfl) dX7_sign_1 ⟨Nat.zero_le _, Nat.zero_le _⟩) (fun H locs hP hS => ?_)
  refine lv_if_eq (tgt := 22) cx.1 cx.2.1 dX7_sign_4 (by decide) (fun c1 => ?_) (fun c1 => ?_)
  · refine lv_iconst (v := 0) cx.1 cx.2.1 dX7_sign_22 (by decide) ?_
    refine lv_istore_n (lv' := [(3, .int 0), (0, .ref (ad 0)), (1, .int xi), (2, .int xp)]) cx.1 cx.2.1 dX7_sign_23 rfl hl (by decide) rfl (fun ls hl => ?_)
    refine lv_aload_n cx.1 cx.2.1 dX7_sign_24 rfl (lv_at hl 1 rfl) ?_
    refine lv_iload_n cx.1 cx.2.1 dX7_sign_25 rfl (lv_at hl 0 rfl) ?_
    refine lv_if_eq (tgt := 33) cx.1 cx.2.1 dX7_sign_26 (by decide) (fun c2 => ?_) (fun c2 => ?_)
    rotate_left
    · exact absurd c2 (by decide)
    refine lv_iconst (v := 1) cx.1 cx.2.1 dX7_sign_33 (by decide) ?_
    refine zThenIx (v := f_X7_fails S 1) (S' := zUp S 13 (upd (S 13) 5 1)) hS (zRunV (As := [.int 1]) (rest := []) _ 1 cx (c_X7_fails l dC dI cyI cyZ ad hI S 1) gX7_sign_X7_fails rfl ⟨rfl, rfl⟩ (by decide +kernel) ⟨Nat.le_of_ble_eq_true rfl, Nat.le_of_ble_eq_true rfl⟩ (zX_true) trivial hK hP hS 0 rfl rfl rfl rfl hl.1 rfl (Nat.le_of_ble_eq_true rfl) dX7_sign_34 ⟨Nat.zero_le _, Nat.zero_le _⟩) (fun H locs hP hS => ?_)
    rw [fails_1]
    refine lv_if_eq (tgt := 45) cx.1 cx.2.1 dX7_sign_37 (by decide) (fun c3 => ?_) (fun c3 => ?_)
    · exact absurd c3 (by decide)
    refine lv_bipush (v := 32) cx.1 cx.2.1 dX7_sign_40 (by decide) ?_
    refine lv_goto (tgt := 51) cx.1 cx.2.1 dX7_sign_42 (by decide) ?_
    exact zRetI (v := 32) cx hrt hlk (by first | rfl | exact signOf_nar _ _ _) hS hP ⟨(by unfold f_X7_sign; rw [if_pos c1]), (by unfold g_X7_sign; rw [if_pos c1])⟩ dX7_sign_51
  · refine lv_aload_n cx.1 cx.2.1 dX7_sign_7 rfl (lv_at hl 0 rfl) ?_
    refine lv_iload_n cx.1 cx.2.1 dX7_sign_8 rfl (lv_at hl 1 rfl) ?_
    refine lv_iload_n cx.1 cx.2.1 dX7_sign_9 rfl (lv_at hl 2 rfl) ?_
    refine zThenIx (v := f_X7_signOf S xi.toNatClampNeg xp) (S' := S) hS (zRunV (As := [.int xi, .int xp]) (rest := []) _ 2 cx (by have z := c_X7_signOf l dC dI cyI cyZ ad hI S xi.toNatClampNeg xp (vp_lt (cell_in (by assumption))); rw [cell_nI (cell_in (by assumption))] at z; exact z) gX7_sign_X7_signOf rfl ⟨rfl, rfl⟩ (by decide +kernel) ⟨Nat.le_of_ble_eq_true rfl, Nat.le_of_ble_eq_true rfl⟩ (zX_true) trivial hK hP hS 0 rfl rfl rfl rfl hl.1 rfl (Nat.le_of_ble_eq_true rfl) dX7_sign_10 ⟨Nat.zero_le _, Nat.zero_le _⟩) (fun H locs hP hS => ?_)
    refine lv_bipush (v := 32) cx.1 cx.2.1 dX7_sign_13 (by decide) ?_
    refine lv_icmp_eq (tgt := 22) cx.1 cx.2.1 dX7_sign_15 (by decide) (fun c4 => ?_) (fun c4 => ?_)
    · refine lv_iconst (v := 0) cx.1 cx.2.1 dX7_sign_22 (by decide) ?_
      refine lv_istore_n (lv' := [(3, .int 0), (0, .ref (ad 0)), (1, .int xi), (2, .int xp)]) cx.1 cx.2.1 dX7_sign_23 rfl hl (by decide) rfl (fun ls hl => ?_)
      refine lv_aload_n cx.1 cx.2.1 dX7_sign_24 rfl (lv_at hl 1 rfl) ?_
      refine lv_iload_n cx.1 cx.2.1 dX7_sign_25 rfl (lv_at hl 0 rfl) ?_
      refine lv_if_eq (tgt := 33) cx.1 cx.2.1 dX7_sign_26 (by decide) (fun c5 => ?_) (fun c5 => ?_)
      rotate_left
      · exact absurd c5 (by decide)
      refine lv_iconst (v := 1) cx.1 cx.2.1 dX7_sign_33 (by decide) ?_
      refine zThenIx (v := f_X7_fails S 1) (S' := zUp S 13 (upd (S 13) 5 1)) hS (zRunV (As := [.int 1]) (rest := []) _ 1 cx (c_X7_fails l dC dI cyI cyZ ad hI S 1) gX7_sign_X7_fails rfl ⟨rfl, rfl⟩ (by decide +kernel) ⟨Nat.le_of_ble_eq_true rfl, Nat.le_of_ble_eq_true rfl⟩ (zX_true) trivial hK hP hS 0 rfl rfl rfl rfl hl.1 rfl (Nat.le_of_ble_eq_true rfl) dX7_sign_34 ⟨Nat.zero_le _, Nat.zero_le _⟩) (fun H locs hP hS => ?_)
      rw [fails_1]
      refine lv_if_eq (tgt := 45) cx.1 cx.2.1 dX7_sign_37 (by decide) (fun c6 => ?_) (fun c6 => ?_)
      · exact absurd c6 (by decide)
      refine lv_bipush (v := 32) cx.1 cx.2.1 dX7_sign_40 (by decide) ?_
      refine lv_goto (tgt := 51) cx.1 cx.2.1 dX7_sign_42 (by decide) ?_
      exact zRetI (v := 32) cx hrt hlk (by first | rfl | exact signOf_nar _ _ _) hS hP ⟨(by unfold f_X7_sign; rw [if_neg c1, if_pos c4]), (by unfold g_X7_sign; rw [if_neg c1, if_pos c4])⟩ dX7_sign_51
    · refine lv_iconst (v := 1) cx.1 cx.2.1 dX7_sign_18 (by decide) ?_
      refine lv_goto (tgt := 23) cx.1 cx.2.1 dX7_sign_19 (by decide) ?_
      refine lv_istore_n (lv' := [(3, .int 1), (0, .ref (ad 0)), (1, .int xi), (2, .int xp)]) cx.1 cx.2.1 dX7_sign_23 rfl hl (by decide) rfl (fun ls hl => ?_)
      refine lv_aload_n cx.1 cx.2.1 dX7_sign_24 rfl (lv_at hl 1 rfl) ?_
      refine lv_iload_n cx.1 cx.2.1 dX7_sign_25 rfl (lv_at hl 0 rfl) ?_
      refine lv_if_eq (tgt := 33) cx.1 cx.2.1 dX7_sign_26 (by decide) (fun c7 => ?_) (fun c7 => ?_)
      · exact absurd c7 (by decide)
      refine lv_iconst (v := 0) cx.1 cx.2.1 dX7_sign_29 (by decide) ?_
      refine lv_goto (tgt := 34) cx.1 cx.2.1 dX7_sign_30 (by decide) ?_
      refine zThenIx (v := f_X7_fails S 0) (S' := zUp S 13 (upd (S 13) 5 0)) hS (zRunV (As := [.int 0]) (rest := []) _ 1 cx (c_X7_fails l dC dI cyI cyZ ad hI S 0) gX7_sign_X7_fails rfl ⟨rfl, rfl⟩ (by decide +kernel) ⟨Nat.le_of_ble_eq_true rfl, Nat.le_of_ble_eq_true rfl⟩ (zX_true) trivial hK hP hS 0 rfl rfl rfl rfl hl.1 rfl (Nat.le_of_ble_eq_true rfl) dX7_sign_34 ⟨Nat.zero_le _, Nat.zero_le _⟩) (fun H locs hP hS => ?_)
      rw [fails_0]
      refine lv_if_eq (tgt := 45) cx.1 cx.2.1 dX7_sign_37 (by decide) (fun c8 => ?_) (fun c8 => ?_)
      rotate_left
      · exact absurd c8 (by decide)
      refine lv_aload_n cx.1 cx.2.1 dX7_sign_45 rfl (lv_at hl 1 rfl) ?_
      refine lv_iload_n cx.1 cx.2.1 dX7_sign_46 rfl (lv_at hl 2 rfl) ?_
      refine lv_iload_n cx.1 cx.2.1 dX7_sign_47 rfl (lv_at hl 3 rfl) ?_
      refine zThenIx (v := f_X7_signOf (zUp S 13 (upd (S 13) 5 0)) xi.toNatClampNeg xp) (S' := zUp S 13 (upd (S 13) 5 0)) hS (zRunV (As := [.int xi, .int xp]) (rest := []) _ 2 cx (by have z := c_X7_signOf l dC dI cyI cyZ ad hI (zUp S 13 (upd (S 13) 5 0)) xi.toNatClampNeg xp (vp_lt (cell_in (by assumption))); rw [cell_nI (cell_in (by assumption))] at z; exact z) gX7_sign_X7_signOf rfl ⟨rfl, rfl⟩ (by decide +kernel) ⟨Nat.le_of_ble_eq_true rfl, Nat.le_of_ble_eq_true rfl⟩ (zX_true) trivial hK hP hS 0 rfl rfl rfl rfl hl.1 rfl (Nat.le_of_ble_eq_true rfl) dX7_sign_48 ⟨Nat.zero_le _, Nat.zero_le _⟩) (fun H locs hP hS => ?_)
      exact zRetI (v := f_X7_signOf (zUp S 13 (upd (S 13) 5 0)) xi.toNatClampNeg xp) cx hrt hlk (by first | rfl | exact signOf_nar _ _ _) hS hP ⟨(by unfold f_X7_sign; rw [if_neg c1, if_neg c4]), (by unfold g_X7_sign; rw [if_neg c1, if_neg c4])⟩ dX7_sign_51
