def g_X5_give (S : zS) (xk : Int32) (xn : Int32) : zS := if ¬ xn = (-1) then (if ¬ xk = 5 then (if ¬ xk = 6 then S else (zUp S 7 (ra 64 (S 7) xn 20))) else (zUp S 6 (ra 64 (S 6) xn 20))) else (S)
theorem fr_X5_give (S : zS) (xk : Int32) (xn : Int32) (r : Nat) (h6 : r ≠ 6) (h7 : r ≠ 7) : g_X5_give S xk xn r = S r := by
  unfold g_X5_give
  (repeat' split) <;> simp [zUp, h6, h7]
set_option maxHeartbeats 4000000 in
set_option maxRecDepth 100000 in
theorem c_X5_give (l : Launch) (dC : Nat → ClassId) (dI : Nat → Nat → Nat) (cyI : ClassId) (ad : Nat → Nat) (hI : zI ad 36) (S : zS) (xk : Int32) (xn : Int32) : zMv l (dC, dI) [(cyI, .int)] ad 36 xN (cw cyI ad) yX5_give wsX5_give ({ frames := 1, cells := 0, slots := 0, locals := 22 } : Room) [.ref (ad 3), .int xk, .int xn] S (fun T => T = g_X5_give S xk xn) := by
  refine zStartV (by decide) rfl (Nat.le_of_ble_eq_true rfl) ?_
  intro p e s m args below meth c ls cx hrt hlk hP hK hXs hl
  have hl : lv_has ls 3 [(0, .ref (ad 3)), (1, .int xk), (2, .int xn)] := hl
  have hS : va_S (zA ad 36 s.heap.size) s.heap s.heap [] := va_S.rf
  have hinX5 : ∀ w ∈ u_ws RX5 TX5 3, w ∈ wsX5_give := by decide +kernel
  refine lv_iload_n cx.1 cx.2.1 dX5_give_0 rfl (lv_at hl 2 rfl) ?_
  refine lv_iconst (v := (-1)) cx.1 cx.2.1 dX5_give_1 (by decide) ?_
  refine lv_icmp_ne (tgt := 6) cx.1 cx.2.1 dX5_give_2 (by decide) (fun c1 => ?_) (fun c1 => ?_)
  · refine lv_iload_n cx.1 cx.2.1 dX5_give_6 rfl (lv_at hl 1 rfl) ?_
    refine lv_iconst (v := 5) cx.1 cx.2.1 dX5_give_7 (by decide) ?_
    refine lv_icmp_ne (tgt := 24) cx.1 cx.2.1 dX5_give_8 (by decide) (fun c2 => ?_) (fun c2 => ?_)
    · refine lv_iload_n cx.1 cx.2.1 dX5_give_24 rfl (lv_at hl 1 rfl) ?_
      refine lv_bipush (v := 6) cx.1 cx.2.1 dX5_give_25 (by decide) ?_
      refine lv_icmp_ne (tgt := 40) cx.1 cx.2.1 dX5_give_27 (by decide) (fun c3 => ?_) (fun c3 => ?_)
      · exact zRetV cx hrt hlk hS hP (by unfold g_X5_give; rw [if_pos c1, if_pos c2, if_pos c3]) dX5_give_40
      · refine lv_aload_n cx.1 cx.2.1 dX5_give_30 rfl (lv_at hl 0 rfl) ?_
        refine zGet (v := .ref (ad 20)) (own := RX5) cx hinX5 hK hP 3 rfl rfl 1 (by decide) (by decide +kernel) rfl rfl dX5_give_31 ?_
        refine lv_iload_n cx.1 cx.2.1 dX5_give_34 rfl (lv_at hl 2 rfl) ?_
        refine lv_bipush (v := 20) cx.1 cx.2.1 dX5_give_35 (by decide) ?_
        refine zThenVx (S' := zUp S 7 (ra 64 (S 7) xn 20)) hS (zRunV (As := [.int xn, .int 20]) (rest := []) _ 2 cx (c_X4_add l dC dI cyI ad hI S 7 (by decide) xn 20) gX5_give_X4_add rfl ⟨rfl, rfl⟩ (by decide +kernel) ⟨Nat.le_of_ble_eq_true rfl, Nat.le_of_ble_eq_true rfl⟩ (xN_X ad 36) hXs hK hP hS 20 rfl rfl rfl rfl hl.1 rfl (Nat.le_of_ble_eq_true rfl) dX5_give_37 ⟨Nat.zero_le _, Nat.zero_le _⟩) (fun H locs hP hS => ?_)
        exact zRetV cx hrt hlk hS hP (by unfold g_X5_give; rw [if_pos c1, if_pos c2, if_neg (not_not_intro c3)]) dX5_give_40
    · refine lv_aload_n cx.1 cx.2.1 dX5_give_11 rfl (lv_at hl 0 rfl) ?_
      refine zGet (v := .ref (ad 18)) (own := RX5) cx hinX5 hK hP 3 rfl rfl 0 (by decide) (by decide +kernel) rfl rfl dX5_give_12 ?_
      refine lv_iload_n cx.1 cx.2.1 dX5_give_15 rfl (lv_at hl 2 rfl) ?_
      refine lv_bipush (v := 20) cx.1 cx.2.1 dX5_give_16 (by decide) ?_
      refine zThenVx (S' := zUp S 6 (ra 64 (S 6) xn 20)) hS (zRunV (As := [.int xn, .int 20]) (rest := []) _ 2 cx (c_X4_add l dC dI cyI ad hI S 6 (by decide) xn 20) gX5_give_X4_add rfl ⟨rfl, rfl⟩ (by decide +kernel) ⟨Nat.le_of_ble_eq_true rfl, Nat.le_of_ble_eq_true rfl⟩ (xN_X ad 36) hXs hK hP hS 18 rfl rfl rfl rfl hl.1 rfl (Nat.le_of_ble_eq_true rfl) dX5_give_18 ⟨Nat.zero_le _, Nat.zero_le _⟩) (fun H locs hP hS => ?_)
      refine lv_goto (tgt := 40) cx.1 cx.2.1 dX5_give_21 (by decide) ?_
      exact zRetV cx hrt hlk hS hP (by unfold g_X5_give; rw [if_pos c1, if_neg (not_not_intro c2)]) dX5_give_40
  · exact zRetV cx hrt hlk hS hP (by unfold g_X5_give; rw [if_neg (not_not_intro c1)]) dX5_give_5

def g_X5_serve (S : zS) (xc : Int32) (xn : Int32) (xd : Int32) : zS := if xn = (-1) then S else (if (rg 64 (S 6) xn) < xd then S else (if (rg 64 (S 7) xn) < xd then S else ((zUp (zUp (zUp S 6 (ra 64 (S 6) xn (-xd))) 7 (ra 64 (S 7) xn (-xd))) 8 (rs 64 (S 8) xc 1)))))
theorem fr_X5_serve (S : zS) (xc : Int32) (xn : Int32) (xd : Int32) (r : Nat) (h6 : r ≠ 6) (h7 : r ≠ 7) (h8 : r ≠ 8) : g_X5_serve S xc xn xd r = S r := by
  unfold g_X5_serve
  (repeat' split) <;> simp [zUp, h6, h7, h8]
set_option maxHeartbeats 4000000 in
set_option maxRecDepth 100000 in
theorem c_X5_serve (l : Launch) (dC : Nat → ClassId) (dI : Nat → Nat → Nat) (cyI : ClassId) (ad : Nat → Nat) (hI : zI ad 36) (S : zS) (xc : Int32) (xn : Int32) (xd : Int32) : zMv l (dC, dI) [(cyI, .int)] ad 36 xN (cw cyI ad) yX5_serve wsX5_serve ({ frames := 1, cells := 0, slots := 0, locals := 22 } : Room) [.ref (ad 3), .int xc, .int xn, .int xd] S (fun T => T = g_X5_serve S xc xn xd) := by
  refine zStartV (by decide) rfl (Nat.le_of_ble_eq_true rfl) ?_
  intro p e s m args below meth c ls cx hrt hlk hP hK hXs hl
  have hl : lv_has ls 4 [(0, .ref (ad 3)), (1, .int xc), (2, .int xn), (3, .int xd)] := hl
  have hS : va_S (zA ad 36 s.heap.size) s.heap s.heap [] := va_S.rf
  have hinX5 : ∀ w ∈ u_ws RX5 TX5 3, w ∈ wsX5_serve := by decide +kernel
  refine lv_iload_n cx.1 cx.2.1 dX5_serve_0 rfl (lv_at hl 2 rfl) ?_
  refine lv_iconst (v := (-1)) cx.1 cx.2.1 dX5_serve_1 (by decide) ?_
  refine lv_icmp_eq (tgt := 58) cx.1 cx.2.1 dX5_serve_2 (by decide) (fun c1 => ?_) (fun c1 => ?_)
  · exact zRetV cx hrt hlk hS hP (by unfold g_X5_serve; rw [if_pos c1]) dX5_serve_58
  · refine lv_aload_n cx.1 cx.2.1 dX5_serve_5 rfl (lv_at hl 0 rfl) ?_
    refine zGet (v := .ref (ad 18)) (own := RX5) cx hinX5 hK hP 3 rfl rfl 0 (by decide) (by decide +kernel) rfl rfl dX5_serve_6 ?_
    refine lv_iload_n cx.1 cx.2.1 dX5_serve_9 rfl (lv_at hl 2 rfl) ?_
    refine zThenIx (v := rg 64 (S 6) xn) (S' := S) hS (zRunV (As := [.int xn]) (rest := []) _ 1 cx (c_X4_get l dC dI cyI ad hI S 6 (by decide) xn) gX5_serve_X4_get rfl ⟨rfl, rfl⟩ (by decide +kernel) ⟨Nat.le_of_ble_eq_true rfl, Nat.le_of_ble_eq_true rfl⟩ (xN_X ad 36) hXs hK hP hS 18 rfl rfl rfl rfl hl.1 rfl (Nat.le_of_ble_eq_true rfl) dX5_serve_10 ⟨Nat.zero_le _, Nat.zero_le _⟩) (fun H locs hP hS => ?_)
    refine lv_iload_n cx.1 cx.2.1 dX5_serve_13 rfl (lv_at hl 3 rfl) ?_
    refine lv_icmp_lt (tgt := 58) cx.1 cx.2.1 dX5_serve_14 (by decide) (fun c2 => ?_) (fun c2 => ?_)
    · exact zRetV cx hrt hlk hS hP (by unfold g_X5_serve; rw [if_neg c1, if_pos c2]) dX5_serve_58
    · refine lv_aload_n cx.1 cx.2.1 dX5_serve_17 rfl (lv_at hl 0 rfl) ?_
      refine zGet (v := .ref (ad 20)) (own := RX5) cx hinX5 hK hP 3 rfl rfl 1 (by decide) (by decide +kernel) rfl rfl dX5_serve_18 ?_
      refine lv_iload_n cx.1 cx.2.1 dX5_serve_21 rfl (lv_at hl 2 rfl) ?_
      refine zThenIx (v := rg 64 (S 7) xn) (S' := S) hS (zRunV (As := [.int xn]) (rest := []) _ 1 cx (c_X4_get l dC dI cyI ad hI S 7 (by decide) xn) gX5_serve_X4_get rfl ⟨rfl, rfl⟩ (by decide +kernel) ⟨Nat.le_of_ble_eq_true rfl, Nat.le_of_ble_eq_true rfl⟩ (xN_X ad 36) hXs hK hP hS 20 rfl rfl rfl rfl hl.1 rfl (Nat.le_of_ble_eq_true rfl) dX5_serve_22 ⟨Nat.zero_le _, Nat.zero_le _⟩) (fun H locs hP hS => ?_)
      refine lv_iload_n cx.1 cx.2.1 dX5_serve_25 rfl (lv_at hl 3 rfl) ?_
      refine lv_icmp_lt (tgt := 58) cx.1 cx.2.1 dX5_serve_26 (by decide) (fun c3 => ?_) (fun c3 => ?_)
      · exact zRetV cx hrt hlk hS hP (by unfold g_X5_serve; rw [if_neg c1, if_neg c2, if_pos c3]) dX5_serve_58
      · refine lv_aload_n cx.1 cx.2.1 dX5_serve_29 rfl (lv_at hl 0 rfl) ?_
        refine zGet (v := .ref (ad 18)) (own := RX5) cx hinX5 hK hP 3 rfl rfl 0 (by decide) (by decide +kernel) rfl rfl dX5_serve_30 ?_
        refine lv_iload_n cx.1 cx.2.1 dX5_serve_33 rfl (lv_at hl 2 rfl) ?_
        refine lv_iload_n cx.1 cx.2.1 dX5_serve_34 rfl (lv_at hl 3 rfl) ?_
        refine lv_ineg cx.1 cx.2.1 dX5_serve_35 ?_
        refine zThenVx (S' := zUp S 6 (ra 64 (S 6) xn (-xd))) hS (zRunV (As := [.int xn, .int (-xd)]) (rest := []) _ 2 cx (c_X4_add l dC dI cyI ad hI S 6 (by decide) xn (-xd)) gX5_serve_X4_add rfl ⟨rfl, rfl⟩ (by decide +kernel) ⟨Nat.le_of_ble_eq_true rfl, Nat.le_of_ble_eq_true rfl⟩ (xN_X ad 36) hXs hK hP hS 18 rfl rfl rfl rfl hl.1 rfl (Nat.le_of_ble_eq_true rfl) dX5_serve_36 ⟨Nat.zero_le _, Nat.zero_le _⟩) (fun H locs hP hS => ?_)
        refine lv_aload_n cx.1 cx.2.1 dX5_serve_39 rfl (lv_at hl 0 rfl) ?_
        refine zGet (v := .ref (ad 20)) (own := RX5) cx hinX5 hK hP 3 rfl rfl 1 (by decide) (by decide +kernel) rfl rfl dX5_serve_40 ?_
        refine lv_iload_n cx.1 cx.2.1 dX5_serve_43 rfl (lv_at hl 2 rfl) ?_
        refine lv_iload_n cx.1 cx.2.1 dX5_serve_44 rfl (lv_at hl 3 rfl) ?_
        refine lv_ineg cx.1 cx.2.1 dX5_serve_45 ?_
        refine zThenVx (S' := zUp (zUp S 6 (ra 64 (S 6) xn (-xd))) 7 (ra 64 (S 7) xn (-xd))) hS (zRunV (As := [.int xn, .int (-xd)]) (rest := []) _ 2 cx (c_X4_add l dC dI cyI ad hI (zUp S 6 (ra 64 (S 6) xn (-xd))) 7 (by decide) xn (-xd)) gX5_serve_X4_add rfl ⟨rfl, rfl⟩ (by decide +kernel) ⟨Nat.le_of_ble_eq_true rfl, Nat.le_of_ble_eq_true rfl⟩ (xN_X ad 36) hXs hK hP hS 20 rfl rfl rfl rfl hl.1 rfl (Nat.le_of_ble_eq_true rfl) dX5_serve_46 ⟨Nat.zero_le _, Nat.zero_le _⟩) (fun H locs hP hS => ?_)
        refine lv_aload_n cx.1 cx.2.1 dX5_serve_49 rfl (lv_at hl 0 rfl) ?_
        refine zGet (v := .ref (ad 22)) (own := RX5) cx hinX5 hK hP 3 rfl rfl 2 (by decide) (by decide +kernel) rfl rfl dX5_serve_50 ?_
        refine lv_iload_n cx.1 cx.2.1 dX5_serve_53 rfl (lv_at hl 1 rfl) ?_
        refine lv_iconst (v := 1) cx.1 cx.2.1 dX5_serve_54 (by decide) ?_
        refine zThenVx (S' := zUp (zUp (zUp S 6 (ra 64 (S 6) xn (-xd))) 7 (ra 64 (S 7) xn (-xd))) 8 (rs 64 (S 8) xc 1)) hS (zRunV (As := [.int xc, .int 1]) (rest := []) _ 2 cx (c_X4_set l dC dI cyI ad hI (zUp (zUp S 6 (ra 64 (S 6) xn (-xd))) 7 (ra 64 (S 7) xn (-xd))) 8 (by decide) xc 1) gX5_serve_X4_set rfl ⟨rfl, rfl⟩ (by decide +kernel) ⟨Nat.le_of_ble_eq_true rfl, Nat.le_of_ble_eq_true rfl⟩ (xN_X ad 36) hXs hK hP hS 22 rfl rfl rfl rfl hl.1 rfl (Nat.le_of_ble_eq_true rfl) dX5_serve_55 ⟨Nat.zero_le _, Nat.zero_le _⟩) (fun H locs hP hS => ?_)
        obtain ⟨N4, hN4⟩ : ∃ T : zS, T = zUp (zUp (zUp S 6 (ra 64 (S 6) xn (-xd))) 7 (ra 64 (S 7) xn (-xd))) 8 (rs 64 (S 8) xc 1) := ⟨_, rfl⟩
        rw [← hN4] at hP
        subst hN4
        exact zRetV cx hrt hlk hS hP (by unfold g_X5_serve; rw [if_neg c1, if_neg c2, if_neg c3]) dX5_serve_58

def bd_X5_find_26 (S : zS) (i : Nat) (T26 : zS) : zS := g_X5_give T26 (f_X0_kindOf T26 (nI i)) (f_X3_netOf T26 (nI i))
def lp_X5_find_26 (S : zS) (T260 : zS) : Nat → zS
  | 0 => (T260)
  | q + 1 => bd_X5_find_26 S q (lp_X5_find_26 S T260 q)
def bd_X5_find_54 (S : zS) (i : Nat) (T54 : zS) : zS := if (f_X0_isZone T54 (nI i)) = 0 then (T54) else (g_X5_serve T54 (nI i) (f_X3_netOf T54 (nI i)) (if (f_X0_levelOf T54 (nI i)) < 1 then 1 else f_X0_levelOf T54 (nI i)))
def lp_X5_find_54 (S : zS) (T540 : zS) : Nat → zS
  | 0 => (T540)
  | q + 1 => bd_X5_find_54 S q (lp_X5_find_54 S T540 q)
def g_X5_find (S : zS)  : zS := (lp_X5_find_54 S (lp_X5_find_26 S (zUp (zUp (zUp S 6 (rf 64 (S 6) 0)) 7 (rf 64 (S 7) 0)) 8 (rf 64 (S 8) 0)) 64) 64)
theorem fr_bd_X5_find_54 (S : zS) (i : Nat) (T54 : zS) (r : Nat) (h6 : r ≠ 6) (h7 : r ≠ 7) (h8 : r ≠ 8) : (bd_X5_find_54 S i T54) r = T54 r := by
  unfold bd_X5_find_54
  (repeat' split) <;> simp [zUp, h6, h7, h8, fr_X5_give, fr_X5_serve]
theorem fr_lp_X5_find_54 (S : zS) (T540 : zS) (r : Nat) (h6 : r ≠ 6) (h7 : r ≠ 7) (h8 : r ≠ 8) : ∀ n, (lp_X5_find_54 S T540 n) r = T540 r
  | 0 => rfl
  | n + 1 => by
    show (bd_X5_find_54 S n (lp_X5_find_54 S T540 n)) r = _
    rw [fr_bd_X5_find_54 _ _ _ r h6 h7 h8]
    exact fr_lp_X5_find_54 S T540 r h6 h7 h8 n
theorem fr_bd_X5_find_26 (S : zS) (i : Nat) (T26 : zS) (r : Nat) (h6 : r ≠ 6) (h7 : r ≠ 7) (h8 : r ≠ 8) : (bd_X5_find_26 S i T26) r = T26 r := by
  unfold bd_X5_find_26
  (repeat' split) <;> simp [zUp, h6, h7, h8, fr_X5_give, fr_X5_serve, fr_lp_X5_find_54]
theorem fr_lp_X5_find_26 (S : zS) (T260 : zS) (r : Nat) (h6 : r ≠ 6) (h7 : r ≠ 7) (h8 : r ≠ 8) : ∀ n, (lp_X5_find_26 S T260 n) r = T260 r
  | 0 => rfl
  | n + 1 => by
    show (bd_X5_find_26 S n (lp_X5_find_26 S T260 n)) r = _
    rw [fr_bd_X5_find_26 _ _ _ r h6 h7 h8]
    exact fr_lp_X5_find_26 S T260 r h6 h7 h8 n
theorem fr_X5_find (S : zS)  (r : Nat) (h6 : r ≠ 6) (h7 : r ≠ 7) (h8 : r ≠ 8) : g_X5_find S  r = S r := by
  unfold g_X5_find
  (repeat' split) <;> simp [zUp, h6, h7, h8, fr_X5_give, fr_X5_serve, fr_lp_X5_find_54, fr_lp_X5_find_26]
set_option maxHeartbeats 4000000 in
set_option maxRecDepth 100000 in
theorem c_X5_find (l : Launch) (dC : Nat → ClassId) (dI : Nat → Nat → Nat) (cyI : ClassId) (ad : Nat → Nat) (hI : zI ad 36) (S : zS)  : zMv l (dC, dI) [(cyI, .int)] ad 36 xN (cw cyI ad) yX5_find wsX5_find ({ frames := 2, cells := 0, slots := 0, locals := 45 } : Room) [.ref (ad 3), .ref (ad 1), .ref (ad 2)] S (fun T => T = g_X5_find S) := by
  refine zStartV (by decide) rfl (Nat.le_of_ble_eq_true rfl) ?_
  intro p e s m args below meth c ls cx hrt hlk hP hK hXs hl
  have hl : lv_has ls 4 [(0, .ref (ad 3)), (1, .ref (ad 1)), (2, .ref (ad 2))] := hl
  have hS : va_S (zA ad 36 s.heap.size) s.heap s.heap [] := va_S.rf
  have hinX5 : ∀ w ∈ u_ws RX5 TX5 3, w ∈ wsX5_find := by decide +kernel
  obtain ⟨Q, hQ⟩ : ∃ Q, Q = MQ below (zQv (dC, dI) (cw cyI ad) (fun T => T = g_X5_find S) (zA ad 36 s.heap.size)) args s 0 0 (zA ad 36 s.heap.size) := ⟨_, rfl⟩
  rw [← hQ]
  refine lv_aload_n cx.1 cx.2.1 dX5_find_0 rfl (lv_at hl 0 rfl) ?_
  refine zGet (v := .ref (ad 18)) (own := RX5) cx hinX5 hK hP 3 rfl rfl 0 (by decide) (by decide +kernel) rfl rfl dX5_find_1 ?_
  refine lv_iconst (v := 0) cx.1 cx.2.1 dX5_find_4 (by decide) ?_
  refine zThenVx (S' := zUp S 6 (rf 64 (S 6) 0)) hS (zRunV (As := [.int 0]) (rest := []) _ 1 cx (c_X4_fill l dC dI cyI ad hI S 6 (by decide) 0) gX5_find_X4_fill rfl ⟨rfl, rfl⟩ (by decide +kernel) ⟨Nat.le_of_ble_eq_true rfl, Nat.le_of_ble_eq_true rfl⟩ (xN_X ad 36) hXs hK hP hS 18 rfl rfl rfl rfl hl.1 rfl (Nat.le_of_ble_eq_true rfl) dX5_find_5 ⟨Nat.zero_le _, Nat.zero_le _⟩) (fun H locs hP hS => ?_)
  refine lv_aload_n cx.1 cx.2.1 dX5_find_8 rfl (lv_at hl 0 rfl) ?_
  refine zGet (v := .ref (ad 20)) (own := RX5) cx hinX5 hK hP 3 rfl rfl 1 (by decide) (by decide +kernel) rfl rfl dX5_find_9 ?_
  refine lv_iconst (v := 0) cx.1 cx.2.1 dX5_find_12 (by decide) ?_
  refine zThenVx (S' := zUp (zUp S 6 (rf 64 (S 6) 0)) 7 (rf 64 (S 7) 0)) hS (zRunV (As := [.int 0]) (rest := []) _ 1 cx (c_X4_fill l dC dI cyI ad hI (zUp S 6 (rf 64 (S 6) 0)) 7 (by decide) 0) gX5_find_X4_fill rfl ⟨rfl, rfl⟩ (by decide +kernel) ⟨Nat.le_of_ble_eq_true rfl, Nat.le_of_ble_eq_true rfl⟩ (xN_X ad 36) hXs hK hP hS 20 rfl rfl rfl rfl hl.1 rfl (Nat.le_of_ble_eq_true rfl) dX5_find_13 ⟨Nat.zero_le _, Nat.zero_le _⟩) (fun H locs hP hS => ?_)
  refine lv_aload_n cx.1 cx.2.1 dX5_find_16 rfl (lv_at hl 0 rfl) ?_
  refine zGet (v := .ref (ad 22)) (own := RX5) cx hinX5 hK hP 3 rfl rfl 2 (by decide) (by decide +kernel) rfl rfl dX5_find_17 ?_
  refine lv_iconst (v := 0) cx.1 cx.2.1 dX5_find_20 (by decide) ?_
  refine zThenVx (S' := zUp (zUp (zUp S 6 (rf 64 (S 6) 0)) 7 (rf 64 (S 7) 0)) 8 (rf 64 (S 8) 0)) hS (zRunV (As := [.int 0]) (rest := []) _ 1 cx (c_X4_fill l dC dI cyI ad hI (zUp (zUp S 6 (rf 64 (S 6) 0)) 7 (rf 64 (S 7) 0)) 8 (by decide) 0) gX5_find_X4_fill rfl ⟨rfl, rfl⟩ (by decide +kernel) ⟨Nat.le_of_ble_eq_true rfl, Nat.le_of_ble_eq_true rfl⟩ (xN_X ad 36) hXs hK hP hS 22 rfl rfl rfl rfl hl.1 rfl (Nat.le_of_ble_eq_true rfl) dX5_find_21 ⟨Nat.zero_le _, Nat.zero_le _⟩) (fun H locs hP hS => ?_)
  obtain ⟨N1, hN1⟩ : ∃ T : zS, T = zUp (zUp (zUp S 6 (rf 64 (S 6) 0)) 7 (rf 64 (S 7) 0)) 8 (rf 64 (S 8) 0) := ⟨_, rfl⟩
  rw [← hN1] at hP
  refine lv_iconst (v := 0) cx.1 cx.2.1 dX5_find_24 (by decide) ?_
  refine lv_istore_n (lv' := [(3, .int 0), (0, .ref (ad 3)), (1, .ref (ad 1)), (2, .ref (ad 2))]) cx.1 cx.2.1 dX5_find_25 rfl hl (by decide) rfl (fun ls hl => ?_)
  subst hN1
  have lp26 : ∀ (fu i : Nat) (T26 : zS) (hi26 : i ≤ 64) (hacc26 : lp_X5_find_26 S (zUp (zUp (zUp S 6 (rf 64 (S 6) 0)) 7 (rf 64 (S 7) 0)) 8 (rf 64 (S 8) 0)) i = T26)  (_ : 64 - i < fu) (H : Heap) (locs : List Loc) (ls : Array Slot), va_P (dC, dI) vwCl (cw cyI ad T26) H → va_S (zA ad 36 s.heap.size) s.heap H locs → lv_has ls 4 [(3, .int (nI i)), (0, .ref (ad 3)), (1, .ref (ad 1)), (2, .ref (ad 2))] → W p l e (headSpec wsX5_find ({ frames := 2, cells := 0, slots := 0, locals := 45 } : Room)).room s m args below meth c H locs 0 0 Q (F0 m 26 ls []) := by
    intro fu
    induction fu with
    | zero => intro i T26 hi26 hacc26  hm; exact absurd hm (Nat.not_lt_zero _)
    | succ fu ih26 =>
      intro i T26 hi26 hacc26  hm H locs ls hP hS hl
      refine lv_iload_n cx.1 cx.2.1 dX5_find_26 rfl (lv_at hl 0 rfl) ?_
      refine lv_bipush (v := 64) cx.1 cx.2.1 dX5_find_27 (by decide) ?_
      refine lv_icmp_ge (tgt := 52) cx.1 cx.2.1 dX5_find_29 (by decide) (fun c2 => ?_) (fun c2 => ?_)
      · have nc2 : 64 ≤ i := (nI_leI (a := 64) (b := i) (by first | decide | omega) (by first | decide | omega)).mp c2
        obtain rfl : i = 64 := by omega
        subst hacc26
        refine lv_iconst (v := 0) cx.1 cx.2.1 dX5_find_52 (by decide) ?_
        refine lv_istore_n (lv' := [(3, .int 0), (0, .ref (ad 3)), (1, .ref (ad 1)), (2, .ref (ad 2))]) cx.1 cx.2.1 dX5_find_53 rfl hl (by decide) rfl (fun ls hl => ?_)
        have lp54 : ∀ (fu i : Nat) (T54 : zS) (hi54 : i ≤ 64) (hacc54 : lp_X5_find_54 S (lp_X5_find_26 S (zUp (zUp (zUp S 6 (rf 64 (S 6) 0)) 7 (rf 64 (S 7) 0)) 8 (rf 64 (S 8) 0)) 64) i = T54)  (_ : 64 - i < fu) (H : Heap) (locs : List Loc) (ls : Array Slot), va_P (dC, dI) vwCl (cw cyI ad T54) H → va_S (zA ad 36 s.heap.size) s.heap H locs → lv_has ls 4 [(3, .int (nI i)), (0, .ref (ad 3)), (1, .ref (ad 1)), (2, .ref (ad 2))] → W p l e (headSpec wsX5_find ({ frames := 2, cells := 0, slots := 0, locals := 45 } : Room)).room s m args below meth c H locs 0 0 Q (F0 m 54 ls []) := by
          intro fu
          induction fu with
          | zero => intro i T54 hi54 hacc54  hm; exact absurd hm (Nat.not_lt_zero _)
          | succ fu ih54 =>
            intro i T54 hi54 hacc54  hm H locs ls hP hS hl
            refine lv_iload_n cx.1 cx.2.1 dX5_find_54 rfl (lv_at hl 0 rfl) ?_
            refine lv_bipush (v := 64) cx.1 cx.2.1 dX5_find_55 (by decide) ?_
            refine lv_icmp_ge (tgt := 93) cx.1 cx.2.1 dX5_find_57 (by decide) (fun c3 => ?_) (fun c3 => ?_)
            · have nc3 : 64 ≤ i := (nI_leI (a := 64) (b := i) (by first | decide | omega) (by first | decide | omega)).mp c3
              obtain rfl : i = 64 := by omega
              subst hacc54
              rw [hQ]
              exact zRetV cx hrt hlk hS hP (by unfold g_X5_find; rfl) dX5_find_93
            · have nc3 : ¬ 64 ≤ i := fun z => c3 ((nI_leI (a := 64) (b := i) (by first | decide | omega) (by first | decide | omega)).mpr z)
              refine lv_aload_n cx.1 cx.2.1 dX5_find_60 rfl (lv_at hl 2 rfl) ?_
              refine lv_iload_n cx.1 cx.2.1 dX5_find_61 rfl (lv_at hl 0 rfl) ?_
              refine zThenIx (v := f_X0_isZone T54 (nI i)) (S' := T54) hS (zRunV (As := [.int (nI i)]) (rest := []) _ 1 cx (c_X0_isZone l dC dI cyI ad hI T54 (nI i)) gX5_find_X0_isZone rfl ⟨rfl, rfl⟩ (by decide +kernel) ⟨Nat.le_of_ble_eq_true rfl, Nat.le_of_ble_eq_true rfl⟩ (xN_X ad 36) hXs hK hP hS 1 rfl rfl rfl rfl hl.1 rfl (Nat.le_of_ble_eq_true rfl) dX5_find_62 ⟨Nat.zero_le _, Nat.zero_le _⟩) (fun H locs hP hS => ?_)
              refine lv_if_eq (tgt := 87) cx.1 cx.2.1 dX5_find_65 (by decide) (fun c4 => ?_) (fun c4 => ?_)
              · refine lv_iinc (v := nI (i + 1)) (lv' := [(3, .int (nI (i + 1))), (0, .ref (ad 3)), (1, .ref (ad 1)), (2, .ref (ad 2))]) cx.1 cx.2.1 dX5_find_87 hl (k := 0) rfl (nI_1 i) (by decide) rfl (fun ls hl => ?_)
                refine lv_goto (tgt := 54) cx.1 cx.2.1 dX5_find_90 (by decide) ?_
                have ha54 : lp_X5_find_54 S (lp_X5_find_26 S (zUp (zUp (zUp S 6 (rf 64 (S 6) 0)) 7 (rf 64 (S 7) 0)) 8 (rf 64 (S 8) 0)) 64) (i + 1) = T54 := by
                  show bd_X5_find_54 S i (lp_X5_find_54 S (lp_X5_find_26 S (zUp (zUp (zUp S 6 (rf 64 (S 6) 0)) 7 (rf 64 (S 7) 0)) 8 (rf 64 (S 8) 0)) 64) i) = _
                  rw [hacc54]
                  unfold bd_X5_find_54
                  rw [if_pos c4]
                exact ih54 (i + 1) T54 (by omega) ha54  (by omega) _ _ ls hP hS (lv_sub hl [0, 1, 2, 3] rfl)
              · refine lv_aload_n cx.1 cx.2.1 dX5_find_68 rfl (lv_at hl 1 rfl) ?_
                refine lv_iload_n cx.1 cx.2.1 dX5_find_69 rfl (lv_at hl 0 rfl) ?_
                refine lv_aload_n cx.1 cx.2.1 dX5_find_70 rfl (lv_at hl 3 rfl) ?_
                refine lv_iload_n cx.1 cx.2.1 dX5_find_71 rfl (lv_at hl 0 rfl) ?_
                refine zThenIx (v := f_X3_netOf T54 (nI i)) (S' := T54) hS (zRunV (As := [.int (nI i)]) (rest := [.int (nI i), .ref (ad 3)]) _ 1 cx (c_X3_netOf l dC dI cyI ad hI T54 (nI i)) gX5_find_X3_netOf rfl ⟨rfl, rfl⟩ (by decide +kernel) ⟨Nat.le_of_ble_eq_true rfl, Nat.le_of_ble_eq_true rfl⟩ (xN_X ad 36) hXs hK hP hS 2 rfl rfl rfl rfl hl.1 rfl (Nat.le_of_ble_eq_true rfl) dX5_find_72 ⟨Nat.zero_le _, Nat.zero_le _⟩) (fun H locs hP hS => ?_)
                refine lv_aload_n cx.1 cx.2.1 dX5_find_75 rfl (lv_at hl 2 rfl) ?_
                refine lv_iload_n cx.1 cx.2.1 dX5_find_76 rfl (lv_at hl 0 rfl) ?_
                refine zThenIx (v := f_X0_levelOf T54 (nI i)) (S' := T54) hS (zRunV (As := [.int (nI i)]) (rest := [.int (f_X3_netOf T54 (nI i)), .int (nI i), .ref (ad 3)]) _ 1 cx (c_X0_levelOf l dC dI cyI ad hI T54 (nI i)) gX5_find_X0_levelOf rfl ⟨rfl, rfl⟩ (by decide +kernel) ⟨Nat.le_of_ble_eq_true rfl, Nat.le_of_ble_eq_true rfl⟩ (xN_X ad 36) hXs hK hP hS 1 rfl rfl rfl rfl hl.1 rfl (Nat.le_of_ble_eq_true rfl) dX5_find_77 ⟨Nat.zero_le _, Nat.zero_le _⟩) (fun H locs hP hS => ?_)
                refine lv_iconst (v := 1) cx.1 cx.2.1 dX5_find_80 (by decide) ?_
                refine va_mmax cx.1 cx.2.1 (cx.2.2.1.trans hl.1.symm) (own := RX5) cx.2.2.2.1 (cx.2.2.2.2 _ (by decide +kernel)) (cx.2.2.2.2 _ (by decide +kernel)) (cx.2.2.2.2 _ (by decide +kernel)) (cx.2.2.2.2 _ (by decide +kernel)) (Nat.le_of_ble_eq_true rfl) (Nat.le_of_ble_eq_true rfl) (Nat.zero_le _) (Nat.zero_le _) dX5_find_81 ?_
                refine zThenVx (S' := g_X5_serve T54 (nI i) (f_X3_netOf T54 (nI i)) (if (f_X0_levelOf T54 (nI i)) < 1 then 1 else f_X0_levelOf T54 (nI i))) hS (zRunV (As := [.int (nI i), .int (f_X3_netOf T54 (nI i)), .int (if (f_X0_levelOf T54 (nI i)) < 1 then 1 else f_X0_levelOf T54 (nI i))]) (rest := []) _ 3 cx (c_X5_serve l dC dI cyI ad hI T54 (nI i) (f_X3_netOf T54 (nI i)) (if (f_X0_levelOf T54 (nI i)) < 1 then 1 else f_X0_levelOf T54 (nI i))) gX5_find_X5_serve rfl ⟨rfl, rfl⟩ (by decide +kernel) ⟨Nat.le_of_ble_eq_true rfl, Nat.le_of_ble_eq_true rfl⟩ (xN_X ad 36) hXs hK hP hS 3 rfl rfl rfl rfl hl.1 rfl (Nat.le_of_ble_eq_true rfl) dX5_find_84 ⟨Nat.zero_le _, Nat.zero_le _⟩) (fun H locs hP hS => ?_)
                refine lv_iinc (v := nI (i + 1)) (lv' := [(3, .int (nI (i + 1))), (0, .ref (ad 3)), (1, .ref (ad 1)), (2, .ref (ad 2))]) cx.1 cx.2.1 dX5_find_87 hl (k := 0) rfl (nI_1 i) (by decide) rfl (fun ls hl => ?_)
                refine lv_goto (tgt := 54) cx.1 cx.2.1 dX5_find_90 (by decide) ?_
                have ha54 : lp_X5_find_54 S (lp_X5_find_26 S (zUp (zUp (zUp S 6 (rf 64 (S 6) 0)) 7 (rf 64 (S 7) 0)) 8 (rf 64 (S 8) 0)) 64) (i + 1) = g_X5_serve T54 (nI i) (f_X3_netOf T54 (nI i)) (if (f_X0_levelOf T54 (nI i)) < 1 then 1 else f_X0_levelOf T54 (nI i)) := by
                  show bd_X5_find_54 S i (lp_X5_find_54 S (lp_X5_find_26 S (zUp (zUp (zUp S 6 (rf 64 (S 6) 0)) 7 (rf 64 (S 7) 0)) 8 (rf 64 (S 8) 0)) 64) i) = _
                  rw [hacc54]
                  unfold bd_X5_find_54
                  rw [if_neg c4]
                exact ih54 (i + 1) (g_X5_serve T54 (nI i) (f_X3_netOf T54 (nI i)) (if (f_X0_levelOf T54 (nI i)) < 1 then 1 else f_X0_levelOf T54 (nI i))) (by omega) ha54  (by omega) _ _ ls hP hS (lv_sub hl [0, 1, 2, 3] rfl)
        exact lp54 (64 - 0 + 1) 0 (lp_X5_find_26 S (zUp (zUp (zUp S 6 (rf 64 (S 6) 0)) 7 (rf 64 (S 7) 0)) 8 (rf 64 (S 8) 0)) 64) (by omega) rfl  (Nat.lt_succ_self _) _ _ ls hP hS (lv_sub hl [0, 1, 2, 3] rfl)
      · have nc2 : ¬ 64 ≤ i := fun z => c2 ((nI_leI (a := 64) (b := i) (by first | decide | omega) (by first | decide | omega)).mpr z)
        refine lv_aload_n cx.1 cx.2.1 dX5_find_32 rfl (lv_at hl 1 rfl) ?_
        refine lv_aload_n cx.1 cx.2.1 dX5_find_33 rfl (lv_at hl 2 rfl) ?_
        refine lv_iload_n cx.1 cx.2.1 dX5_find_34 rfl (lv_at hl 0 rfl) ?_
        refine zThenIx (v := f_X0_kindOf T26 (nI i)) (S' := T26) hS (zRunV (As := [.int (nI i)]) (rest := [.ref (ad 3)]) _ 1 cx (c_X0_kindOf l dC dI cyI ad hI T26 (nI i)) gX5_find_X0_kindOf rfl ⟨rfl, rfl⟩ (by decide +kernel) ⟨Nat.le_of_ble_eq_true rfl, Nat.le_of_ble_eq_true rfl⟩ (xN_X ad 36) hXs hK hP hS 1 rfl rfl rfl rfl hl.1 rfl (Nat.le_of_ble_eq_true rfl) dX5_find_35 ⟨Nat.zero_le _, Nat.zero_le _⟩) (fun H locs hP hS => ?_)
        refine lv_aload_n cx.1 cx.2.1 dX5_find_38 rfl (lv_at hl 3 rfl) ?_
        refine lv_iload_n cx.1 cx.2.1 dX5_find_39 rfl (lv_at hl 0 rfl) ?_
        refine zThenIx (v := f_X3_netOf T26 (nI i)) (S' := T26) hS (zRunV (As := [.int (nI i)]) (rest := [.int (f_X0_kindOf T26 (nI i)), .ref (ad 3)]) _ 1 cx (c_X3_netOf l dC dI cyI ad hI T26 (nI i)) gX5_find_X3_netOf rfl ⟨rfl, rfl⟩ (by decide +kernel) ⟨Nat.le_of_ble_eq_true rfl, Nat.le_of_ble_eq_true rfl⟩ (xN_X ad 36) hXs hK hP hS 2 rfl rfl rfl rfl hl.1 rfl (Nat.le_of_ble_eq_true rfl) dX5_find_40 ⟨Nat.zero_le _, Nat.zero_le _⟩) (fun H locs hP hS => ?_)
        refine zThenVx (S' := g_X5_give T26 (f_X0_kindOf T26 (nI i)) (f_X3_netOf T26 (nI i))) hS (zRunV (As := [.int (f_X0_kindOf T26 (nI i)), .int (f_X3_netOf T26 (nI i))]) (rest := []) _ 2 cx (c_X5_give l dC dI cyI ad hI T26 (f_X0_kindOf T26 (nI i)) (f_X3_netOf T26 (nI i))) gX5_find_X5_give rfl ⟨rfl, rfl⟩ (by decide +kernel) ⟨Nat.le_of_ble_eq_true rfl, Nat.le_of_ble_eq_true rfl⟩ (xN_X ad 36) hXs hK hP hS 3 rfl rfl rfl rfl hl.1 rfl (Nat.le_of_ble_eq_true rfl) dX5_find_43 ⟨Nat.zero_le _, Nat.zero_le _⟩) (fun H locs hP hS => ?_)
        refine lv_iinc (v := nI (i + 1)) (lv' := [(3, .int (nI (i + 1))), (0, .ref (ad 3)), (1, .ref (ad 1)), (2, .ref (ad 2))]) cx.1 cx.2.1 dX5_find_46 hl (k := 0) rfl (nI_1 i) (by decide) rfl (fun ls hl => ?_)
        refine lv_goto (tgt := 26) cx.1 cx.2.1 dX5_find_49 (by decide) ?_
        have ha26 : lp_X5_find_26 S (zUp (zUp (zUp S 6 (rf 64 (S 6) 0)) 7 (rf 64 (S 7) 0)) 8 (rf 64 (S 8) 0)) (i + 1) = g_X5_give T26 (f_X0_kindOf T26 (nI i)) (f_X3_netOf T26 (nI i)) := by
          show bd_X5_find_26 S i (lp_X5_find_26 S (zUp (zUp (zUp S 6 (rf 64 (S 6) 0)) 7 (rf 64 (S 7) 0)) 8 (rf 64 (S 8) 0)) i) = _
          rw [hacc26]
          unfold bd_X5_find_26
          rfl
        exact ih26 (i + 1) (g_X5_give T26 (f_X0_kindOf T26 (nI i)) (f_X3_netOf T26 (nI i))) (by omega) ha26  (by omega) _ _ ls hP hS (lv_sub hl [0, 1, 2, 3] rfl)
  exact lp26 (64 - 0 + 1) 0 (zUp (zUp (zUp S 6 (rf 64 (S 6) 0)) 7 (rf 64 (S 7) 0)) 8 (rf 64 (S 8) 0)) (by omega) rfl  (Nat.lt_succ_self _) _ _ ls hP hS (lv_sub hl [0, 1, 2, 3] rfl)

def f_X5_serves (S : zS) (xc : Int32) : Int32 := if ¬ (rg 64 (S 8) xc) = 1 then 0 else (1)
set_option maxHeartbeats 4000000 in
set_option maxRecDepth 100000 in
theorem c_X5_serves (l : Launch) (dC : Nat → ClassId) (dI : Nat → Nat → Nat) (cyI : ClassId) (ad : Nat → Nat) (hI : zI ad 36) (S : zS) (xc : Int32) : zMi l (dC, dI) [(cyI, .int)] ad 36 xN (cw cyI ad) yX5_serves wsX5_serves ({ frames := 1, cells := 0, slots := 0, locals := 21 } : Room) [.ref (ad 3), .int xc] S (fun v T => v = f_X5_serves S xc ∧ T = S) := by
  refine zStartI (by decide) rfl (Nat.le_of_ble_eq_true rfl) ?_
  intro p e s m args below meth c ls cx hrt hlk hP hK hXs hl
  have hl : lv_has ls 2 [(0, .ref (ad 3)), (1, .int xc)] := hl
  have hS : va_S (zA ad 36 s.heap.size) s.heap s.heap [] := va_S.rf
  have hinX5 : ∀ w ∈ u_ws RX5 TX5 3, w ∈ wsX5_serves := by decide +kernel
  refine lv_aload_n cx.1 cx.2.1 dX5_serves_0 rfl (lv_at hl 0 rfl) ?_
  refine zGet (v := .ref (ad 22)) (own := RX5) cx hinX5 hK hP 3 rfl rfl 2 (by decide) (by decide +kernel) rfl rfl dX5_serves_1 ?_
  refine lv_iload_n cx.1 cx.2.1 dX5_serves_4 rfl (lv_at hl 1 rfl) ?_
  refine zThenIx (v := rg 64 (S 8) xc) (S' := S) hS (zRunV (As := [.int xc]) (rest := []) _ 1 cx (c_X4_get l dC dI cyI ad hI S 8 (by decide) xc) gX5_serves_X4_get rfl ⟨rfl, rfl⟩ (by decide +kernel) ⟨Nat.le_of_ble_eq_true rfl, Nat.le_of_ble_eq_true rfl⟩ (xN_X ad 36) hXs hK hP hS 22 rfl rfl rfl rfl hl.1 rfl (Nat.le_of_ble_eq_true rfl) dX5_serves_5 ⟨Nat.zero_le _, Nat.zero_le _⟩) (fun H locs hP hS => ?_)
  refine lv_iconst (v := 1) cx.1 cx.2.1 dX5_serves_8 (by decide) ?_
  refine lv_icmp_ne (tgt := 16) cx.1 cx.2.1 dX5_serves_9 (by decide) (fun c1 => ?_) (fun c1 => ?_)
  · refine lv_iconst (v := 0) cx.1 cx.2.1 dX5_serves_16 (by decide) ?_
    exact zRetI cx hrt hlk (by first | rfl | decide) hS hP ⟨(by unfold f_X5_serves; rw [if_pos c1]), rfl⟩ dX5_serves_17
  · refine lv_iconst (v := 1) cx.1 cx.2.1 dX5_serves_12 (by decide) ?_
    refine lv_goto (tgt := 17) cx.1 cx.2.1 dX5_serves_13 (by decide) ?_
    exact zRetI cx hrt hlk (by first | rfl | decide) hS hP ⟨(by unfold f_X5_serves; rw [if_neg (not_not_intro c1)]), rfl⟩ dX5_serves_17

def f_X5_powerOf (S : zS) (xn : Int32) : Int32 := rg 64 (S 6) xn
set_option maxHeartbeats 4000000 in
set_option maxRecDepth 100000 in
theorem c_X5_powerOf (l : Launch) (dC : Nat → ClassId) (dI : Nat → Nat → Nat) (cyI : ClassId) (ad : Nat → Nat) (hI : zI ad 36) (S : zS) (xn : Int32) : zMi l (dC, dI) [(cyI, .int)] ad 36 xN (cw cyI ad) yX5_powerOf wsX5_powerOf ({ frames := 1, cells := 0, slots := 0, locals := 21 } : Room) [.ref (ad 3), .int xn] S (fun v T => v = f_X5_powerOf S xn ∧ T = S) := by
  refine zStartI (by decide) rfl (Nat.le_of_ble_eq_true rfl) ?_
  intro p e s m args below meth c ls cx hrt hlk hP hK hXs hl
  have hl : lv_has ls 2 [(0, .ref (ad 3)), (1, .int xn)] := hl
  have hS : va_S (zA ad 36 s.heap.size) s.heap s.heap [] := va_S.rf
  have hinX5 : ∀ w ∈ u_ws RX5 TX5 3, w ∈ wsX5_powerOf := by decide +kernel
  refine lv_aload_n cx.1 cx.2.1 dX5_powerOf_0 rfl (lv_at hl 0 rfl) ?_
  refine zGet (v := .ref (ad 18)) (own := RX5) cx hinX5 hK hP 3 rfl rfl 0 (by decide) (by decide +kernel) rfl rfl dX5_powerOf_1 ?_
  refine lv_iload_n cx.1 cx.2.1 dX5_powerOf_4 rfl (lv_at hl 1 rfl) ?_
  refine zThenIx (v := rg 64 (S 6) xn) (S' := S) hS (zRunV (As := [.int xn]) (rest := []) _ 1 cx (c_X4_get l dC dI cyI ad hI S 6 (by decide) xn) gX5_powerOf_X4_get rfl ⟨rfl, rfl⟩ (by decide +kernel) ⟨Nat.le_of_ble_eq_true rfl, Nat.le_of_ble_eq_true rfl⟩ (xN_X ad 36) hXs hK hP hS 18 rfl rfl rfl rfl hl.1 rfl (Nat.le_of_ble_eq_true rfl) dX5_powerOf_5 ⟨Nat.zero_le _, Nat.zero_le _⟩) (fun H locs hP hS => ?_)
  exact zRetI cx hrt hlk rfl hS hP ⟨(by unfold f_X5_powerOf; rfl), rfl⟩ dX5_powerOf_8
