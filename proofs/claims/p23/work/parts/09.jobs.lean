def g_X1_take (S : zS) (xh : Int32) (xt : Int32) (xp : Int32) : zS := if xp ≤ 0 then S else (zUp (zUp (zUp (zUp (zUp (zUp (zUp (zUp S 9 (ra 64 (S 9) xh xp)) 9 (ra 64 (ra 64 (S 9) xh xp) xt xp)) 10 (ra 64 (S 10) xh (-xp))) 10 (ra 64 ((zUp (zUp (zUp S 9 (ra 64 (S 9) xh xp)) 9 (ra 64 (ra 64 (S 9) xh xp) xt xp)) 10 (ra 64 (S 10) xh (-xp))) 10) xt (-xp))) 12 (rs 64 ((zUp (zUp (zUp S 9 (ra 64 (S 9) xh xp)) 9 (ra 64 (ra 64 (S 9) xh xp) xt xp)) 10 (ra 64 (S 10) xh (-xp))) 12) ((zUp (zUp (zUp S 9 (ra 64 (S 9) xh xp)) 9 (ra 64 (ra 64 (S 9) xh xp) xt xp)) 10 (ra 64 (S 10) xh (-xp))) 16 0) xh)) 13 (rs 64 ((zUp (zUp (zUp S 9 (ra 64 (S 9) xh xp)) 9 (ra 64 (ra 64 (S 9) xh xp) xt xp)) 10 (ra 64 (S 10) xh (-xp))) 13) ((zUp (zUp (zUp S 9 (ra 64 (S 9) xh xp)) 9 (ra 64 (ra 64 (S 9) xh xp) xt xp)) 10 (ra 64 (S 10) xh (-xp))) 16 0) xt)) 14 (rs 64 ((zUp (zUp (zUp (zUp (zUp (zUp S 9 (ra 64 (S 9) xh xp)) 9 (ra 64 (ra 64 (S 9) xh xp) xt xp)) 10 (ra 64 (S 10) xh (-xp))) 10 (ra 64 ((zUp (zUp (zUp S 9 (ra 64 (S 9) xh xp)) 9 (ra 64 (ra 64 (S 9) xh xp) xt xp)) 10 (ra 64 (S 10) xh (-xp))) 10) xt (-xp))) 12 (rs 64 ((zUp (zUp (zUp S 9 (ra 64 (S 9) xh xp)) 9 (ra 64 (ra 64 (S 9) xh xp) xt xp)) 10 (ra 64 (S 10) xh (-xp))) 12) ((zUp (zUp (zUp S 9 (ra 64 (S 9) xh xp)) 9 (ra 64 (ra 64 (S 9) xh xp) xt xp)) 10 (ra 64 (S 10) xh (-xp))) 16 0) xh)) 13 (rs 64 ((zUp (zUp (zUp S 9 (ra 64 (S 9) xh xp)) 9 (ra 64 (ra 64 (S 9) xh xp) xt xp)) 10 (ra 64 (S 10) xh (-xp))) 13) ((zUp (zUp (zUp S 9 (ra 64 (S 9) xh xp)) 9 (ra 64 (ra 64 (S 9) xh xp) xt xp)) 10 (ra 64 (S 10) xh (-xp))) 16 0) xt)) 14) ((zUp (zUp (zUp (zUp (zUp (zUp S 9 (ra 64 (S 9) xh xp)) 9 (ra 64 (ra 64 (S 9) xh xp) xt xp)) 10 (ra 64 (S 10) xh (-xp))) 10 (ra 64 ((zUp (zUp (zUp S 9 (ra 64 (S 9) xh xp)) 9 (ra 64 (ra 64 (S 9) xh xp) xt xp)) 10 (ra 64 (S 10) xh (-xp))) 10) xt (-xp))) 12 (rs 64 ((zUp (zUp (zUp S 9 (ra 64 (S 9) xh xp)) 9 (ra 64 (ra 64 (S 9) xh xp) xt xp)) 10 (ra 64 (S 10) xh (-xp))) 12) ((zUp (zUp (zUp S 9 (ra 64 (S 9) xh xp)) 9 (ra 64 (ra 64 (S 9) xh xp) xt xp)) 10 (ra 64 (S 10) xh (-xp))) 16 0) xh)) 13 (rs 64 ((zUp (zUp (zUp S 9 (ra 64 (S 9) xh xp)) 9 (ra 64 (ra 64 (S 9) xh xp) xt xp)) 10 (ra 64 (S 10) xh (-xp))) 13) ((zUp (zUp (zUp S 9 (ra 64 (S 9) xh xp)) 9 (ra 64 (ra 64 (S 9) xh xp) xt xp)) 10 (ra 64 (S 10) xh (-xp))) 16 0) xt)) 16 0) xp)) 16 (upd ((zUp (zUp (zUp (zUp (zUp (zUp S 9 (ra 64 (S 9) xh xp)) 9 (ra 64 (ra 64 (S 9) xh xp) xt xp)) 10 (ra 64 (S 10) xh (-xp))) 10 (ra 64 ((zUp (zUp (zUp S 9 (ra 64 (S 9) xh xp)) 9 (ra 64 (ra 64 (S 9) xh xp) xt xp)) 10 (ra 64 (S 10) xh (-xp))) 10) xt (-xp))) 12 (rs 64 ((zUp (zUp (zUp S 9 (ra 64 (S 9) xh xp)) 9 (ra 64 (ra 64 (S 9) xh xp) xt xp)) 10 (ra 64 (S 10) xh (-xp))) 12) ((zUp (zUp (zUp S 9 (ra 64 (S 9) xh xp)) 9 (ra 64 (ra 64 (S 9) xh xp) xt xp)) 10 (ra 64 (S 10) xh (-xp))) 16 0) xh)) 13 (rs 64 ((zUp (zUp (zUp S 9 (ra 64 (S 9) xh xp)) 9 (ra 64 (ra 64 (S 9) xh xp) xt xp)) 10 (ra 64 (S 10) xh (-xp))) 13) ((zUp (zUp (zUp S 9 (ra 64 (S 9) xh xp)) 9 (ra 64 (ra 64 (S 9) xh xp) xt xp)) 10 (ra 64 (S 10) xh (-xp))) 16 0) xt)) 16) 0 (((zUp (zUp (zUp (zUp (zUp (zUp S 9 (ra 64 (S 9) xh xp)) 9 (ra 64 (ra 64 (S 9) xh xp) xt xp)) 10 (ra 64 (S 10) xh (-xp))) 10 (ra 64 ((zUp (zUp (zUp S 9 (ra 64 (S 9) xh xp)) 9 (ra 64 (ra 64 (S 9) xh xp) xt xp)) 10 (ra 64 (S 10) xh (-xp))) 10) xt (-xp))) 12 (rs 64 ((zUp (zUp (zUp S 9 (ra 64 (S 9) xh xp)) 9 (ra 64 (ra 64 (S 9) xh xp) xt xp)) 10 (ra 64 (S 10) xh (-xp))) 12) ((zUp (zUp (zUp S 9 (ra 64 (S 9) xh xp)) 9 (ra 64 (ra 64 (S 9) xh xp) xt xp)) 10 (ra 64 (S 10) xh (-xp))) 16 0) xh)) 13 (rs 64 ((zUp (zUp (zUp S 9 (ra 64 (S 9) xh xp)) 9 (ra 64 (ra 64 (S 9) xh xp) xt xp)) 10 (ra 64 (S 10) xh (-xp))) 13) ((zUp (zUp (zUp S 9 (ra 64 (S 9) xh xp)) 9 (ra 64 (ra 64 (S 9) xh xp) xt xp)) 10 (ra 64 (S 10) xh (-xp))) 16 0) xt)) 16 0) + 1)))
theorem fr_X1_take (S : zS) (xh : Int32) (xt : Int32) (xp : Int32) (r : Nat) (h10 : r ≠ 10) (h12 : r ≠ 12) (h13 : r ≠ 13) (h14 : r ≠ 14) (h16 : r ≠ 16) (h9 : r ≠ 9) : g_X1_take S xh xt xp r = S r := by
  unfold g_X1_take
  (repeat' split) <;> simp [zUp, h10, h12, h13, h14, h16, h9]
set_option maxHeartbeats 4000000 in
set_option maxRecDepth 100000 in
theorem c_X1_take (l : Launch) (dC : Nat → ClassId) (dI : Nat → Nat → Nat) (cyI : ClassId) (ad : Nat → Nat) (hI : zI ad 36) (S : zS) (xh : Int32) (xt : Int32) (xp : Int32) : zMv l (dC, dI) [(cyI, .int)] ad 36 xN (cw cyI ad) yX1_take wsX1_take ({ frames := 1, cells := 0, slots := 0, locals := 22 } : Room) [.ref (ad 4), .int xh, .int xt, .int xp] S (fun T => T = g_X1_take S xh xt xp) := by
  refine zStartV (by decide) rfl (Nat.le_of_ble_eq_true rfl) ?_
  intro p e s m args below meth c ls cx hrt hlk hP hK hXs hl
  have hl : lv_has ls 4 [(0, .ref (ad 4)), (1, .int xh), (2, .int xt), (3, .int xp)] := hl
  have hS : va_S (zA ad 36 s.heap.size) s.heap s.heap [] := va_S.rf
  have hinX1 : ∀ w ∈ u_ws RX1 TX1 7, w ∈ wsX1_take := by decide +kernel
  refine lv_iload_n cx.1 cx.2.1 dX1_take_0 rfl (lv_at hl 3 rfl) ?_
  refine lv_if_le (tgt := 88) cx.1 cx.2.1 dX1_take_1 (by decide) (fun c1 => ?_) (fun c1 => ?_)
  · exact zRetV cx hrt hlk hS hP (by unfold g_X1_take; rw [if_pos c1]) dX1_take_88
  · refine lv_aload_n cx.1 cx.2.1 dX1_take_4 rfl (lv_at hl 0 rfl) ?_
    refine zGet (v := .ref (ad 24)) (own := RX1) cx hinX1 hK hP 4 rfl rfl 0 (by decide) (by decide +kernel) rfl rfl dX1_take_5 ?_
    refine lv_iload_n cx.1 cx.2.1 dX1_take_8 rfl (lv_at hl 1 rfl) ?_
    refine lv_iload_n cx.1 cx.2.1 dX1_take_9 rfl (lv_at hl 3 rfl) ?_
    refine zThenVx (S' := zUp S 9 (ra 64 (S 9) xh xp)) hS (zRunV (As := [.int xh, .int xp]) (rest := []) _ 2 cx (c_X4_add l dC dI cyI ad hI S 9 (by decide) xh xp) gX1_take_X4_add rfl ⟨rfl, rfl⟩ (by decide +kernel) ⟨Nat.le_of_ble_eq_true rfl, Nat.le_of_ble_eq_true rfl⟩ (xN_X ad 36) hXs hK hP hS 24 rfl rfl rfl rfl hl.1 rfl (Nat.le_of_ble_eq_true rfl) dX1_take_10 ⟨Nat.zero_le _, Nat.zero_le _⟩) (fun H locs hP hS => ?_)
    refine lv_aload_n cx.1 cx.2.1 dX1_take_13 rfl (lv_at hl 0 rfl) ?_
    refine zGet (v := .ref (ad 24)) (own := RX1) cx hinX1 hK hP 4 rfl rfl 0 (by decide) (by decide +kernel) rfl rfl dX1_take_14 ?_
    refine lv_iload_n cx.1 cx.2.1 dX1_take_17 rfl (lv_at hl 2 rfl) ?_
    refine lv_iload_n cx.1 cx.2.1 dX1_take_18 rfl (lv_at hl 3 rfl) ?_
    refine zThenVx (S' := zUp (zUp S 9 (ra 64 (S 9) xh xp)) 9 (ra 64 (ra 64 (S 9) xh xp) xt xp)) hS (zRunV (As := [.int xt, .int xp]) (rest := []) _ 2 cx (c_X4_add l dC dI cyI ad hI (zUp S 9 (ra 64 (S 9) xh xp)) 9 (by decide) xt xp) gX1_take_X4_add rfl ⟨rfl, rfl⟩ (by decide +kernel) ⟨Nat.le_of_ble_eq_true rfl, Nat.le_of_ble_eq_true rfl⟩ (xN_X ad 36) hXs hK hP hS 24 rfl rfl rfl rfl hl.1 rfl (Nat.le_of_ble_eq_true rfl) dX1_take_19 ⟨Nat.zero_le _, Nat.zero_le _⟩) (fun H locs hP hS => ?_)
    refine lv_aload_n cx.1 cx.2.1 dX1_take_22 rfl (lv_at hl 0 rfl) ?_
    refine zGet (v := .ref (ad 26)) (own := RX1) cx hinX1 hK hP 4 rfl rfl 1 (by decide) (by decide +kernel) rfl rfl dX1_take_23 ?_
    refine lv_iload_n cx.1 cx.2.1 dX1_take_26 rfl (lv_at hl 1 rfl) ?_
    refine lv_iload_n cx.1 cx.2.1 dX1_take_27 rfl (lv_at hl 3 rfl) ?_
    refine lv_ineg cx.1 cx.2.1 dX1_take_28 ?_
    refine zThenVx (S' := zUp (zUp (zUp S 9 (ra 64 (S 9) xh xp)) 9 (ra 64 (ra 64 (S 9) xh xp) xt xp)) 10 (ra 64 (S 10) xh (-xp))) hS (zRunV (As := [.int xh, .int (-xp)]) (rest := []) _ 2 cx (c_X4_add l dC dI cyI ad hI (zUp (zUp S 9 (ra 64 (S 9) xh xp)) 9 (ra 64 (ra 64 (S 9) xh xp) xt xp)) 10 (by decide) xh (-xp)) gX1_take_X4_add rfl ⟨rfl, rfl⟩ (by decide +kernel) ⟨Nat.le_of_ble_eq_true rfl, Nat.le_of_ble_eq_true rfl⟩ (xN_X ad 36) hXs hK hP hS 26 rfl rfl rfl rfl hl.1 rfl (Nat.le_of_ble_eq_true rfl) dX1_take_29 ⟨Nat.zero_le _, Nat.zero_le _⟩) (fun H locs hP hS => ?_)
    obtain ⟨N2, hN2⟩ : ∃ T : zS, T = zUp (zUp (zUp S 9 (ra 64 (S 9) xh xp)) 9 (ra 64 (ra 64 (S 9) xh xp) xt xp)) 10 (ra 64 (S 10) xh (-xp)) := ⟨_, rfl⟩
    rw [← hN2] at hP
    refine lv_aload_n cx.1 cx.2.1 dX1_take_32 rfl (lv_at hl 0 rfl) ?_
    refine zGet (v := .ref (ad 26)) (own := RX1) cx hinX1 hK hP 4 rfl rfl 1 (by decide) (by decide +kernel) rfl rfl dX1_take_33 ?_
    refine lv_iload_n cx.1 cx.2.1 dX1_take_36 rfl (lv_at hl 2 rfl) ?_
    refine lv_iload_n cx.1 cx.2.1 dX1_take_37 rfl (lv_at hl 3 rfl) ?_
    refine lv_ineg cx.1 cx.2.1 dX1_take_38 ?_
    refine zThenVx (S' := zUp N2 10 (ra 64 (N2 10) xt (-xp))) hS (zRunV (As := [.int xt, .int (-xp)]) (rest := []) _ 2 cx (c_X4_add l dC dI cyI ad hI N2 10 (by decide) xt (-xp)) gX1_take_X4_add rfl ⟨rfl, rfl⟩ (by decide +kernel) ⟨Nat.le_of_ble_eq_true rfl, Nat.le_of_ble_eq_true rfl⟩ (xN_X ad 36) hXs hK hP hS 26 rfl rfl rfl rfl hl.1 rfl (Nat.le_of_ble_eq_true rfl) dX1_take_39 ⟨Nat.zero_le _, Nat.zero_le _⟩) (fun H locs hP hS => ?_)
    refine lv_aload_n cx.1 cx.2.1 dX1_take_42 rfl (lv_at hl 0 rfl) ?_
    refine zGet (v := .ref (ad 30)) (own := RX1) cx hinX1 hK hP 4 rfl rfl 3 (by decide) (by decide +kernel) rfl rfl dX1_take_43 ?_
    refine lv_aload_n cx.1 cx.2.1 dX1_take_46 rfl (lv_at hl 0 rfl) ?_
    refine zGet (v := .int (N2 16 0)) (own := RX1) cx hinX1 hK hP 4 rfl rfl 6 (by decide) (by decide +kernel) rfl rfl dX1_take_47 ?_
    refine lv_iload_n cx.1 cx.2.1 dX1_take_50 rfl (lv_at hl 1 rfl) ?_
    refine zThenVx (S' := zUp (zUp N2 10 (ra 64 (N2 10) xt (-xp))) 12 (rs 64 (N2 12) (N2 16 0) xh)) hS (zRunV (As := [.int (N2 16 0), .int xh]) (rest := []) _ 2 cx (c_X4_set l dC dI cyI ad hI (zUp N2 10 (ra 64 (N2 10) xt (-xp))) 12 (by decide) (N2 16 0) xh) gX1_take_X4_set rfl ⟨rfl, rfl⟩ (by decide +kernel) ⟨Nat.le_of_ble_eq_true rfl, Nat.le_of_ble_eq_true rfl⟩ (xN_X ad 36) hXs hK hP hS 30 rfl rfl rfl rfl hl.1 rfl (Nat.le_of_ble_eq_true rfl) dX1_take_51 ⟨Nat.zero_le _, Nat.zero_le _⟩) (fun H locs hP hS => ?_)
    refine lv_aload_n cx.1 cx.2.1 dX1_take_54 rfl (lv_at hl 0 rfl) ?_
    refine zGet (v := .ref (ad 32)) (own := RX1) cx hinX1 hK hP 4 rfl rfl 4 (by decide) (by decide +kernel) rfl rfl dX1_take_55 ?_
    refine lv_aload_n cx.1 cx.2.1 dX1_take_58 rfl (lv_at hl 0 rfl) ?_
    refine zGet (v := .int (N2 16 0)) (own := RX1) cx hinX1 hK hP 4 rfl rfl 6 (by decide) (by decide +kernel) rfl rfl dX1_take_59 ?_
    refine lv_iload_n cx.1 cx.2.1 dX1_take_62 rfl (lv_at hl 2 rfl) ?_
    refine zThenVx (S' := zUp (zUp (zUp N2 10 (ra 64 (N2 10) xt (-xp))) 12 (rs 64 (N2 12) (N2 16 0) xh)) 13 (rs 64 (N2 13) (N2 16 0) xt)) hS (zRunV (As := [.int (N2 16 0), .int xt]) (rest := []) _ 2 cx (c_X4_set l dC dI cyI ad hI (zUp (zUp N2 10 (ra 64 (N2 10) xt (-xp))) 12 (rs 64 (N2 12) (N2 16 0) xh)) 13 (by decide) (N2 16 0) xt) gX1_take_X4_set rfl ⟨rfl, rfl⟩ (by decide +kernel) ⟨Nat.le_of_ble_eq_true rfl, Nat.le_of_ble_eq_true rfl⟩ (xN_X ad 36) hXs hK hP hS 32 rfl rfl rfl rfl hl.1 rfl (Nat.le_of_ble_eq_true rfl) dX1_take_63 ⟨Nat.zero_le _, Nat.zero_le _⟩) (fun H locs hP hS => ?_)
    obtain ⟨N3, hN3⟩ : ∃ T : zS, T = zUp (zUp (zUp N2 10 (ra 64 (N2 10) xt (-xp))) 12 (rs 64 (N2 12) (N2 16 0) xh)) 13 (rs 64 (N2 13) (N2 16 0) xt) := ⟨_, rfl⟩
    rw [← hN3] at hP
    refine lv_aload_n cx.1 cx.2.1 dX1_take_66 rfl (lv_at hl 0 rfl) ?_
    refine zGet (v := .ref (ad 34)) (own := RX1) cx hinX1 hK hP 4 rfl rfl 5 (by decide) (by decide +kernel) rfl rfl dX1_take_67 ?_
    refine lv_aload_n cx.1 cx.2.1 dX1_take_70 rfl (lv_at hl 0 rfl) ?_
    refine zGet (v := .int (N3 16 0)) (own := RX1) cx hinX1 hK hP 4 rfl rfl 6 (by decide) (by decide +kernel) rfl rfl dX1_take_71 ?_
    refine lv_iload_n cx.1 cx.2.1 dX1_take_74 rfl (lv_at hl 3 rfl) ?_
    refine zThenVx (S' := zUp N3 14 (rs 64 (N3 14) (N3 16 0) xp)) hS (zRunV (As := [.int (N3 16 0), .int xp]) (rest := []) _ 2 cx (c_X4_set l dC dI cyI ad hI N3 14 (by decide) (N3 16 0) xp) gX1_take_X4_set rfl ⟨rfl, rfl⟩ (by decide +kernel) ⟨Nat.le_of_ble_eq_true rfl, Nat.le_of_ble_eq_true rfl⟩ (xN_X ad 36) hXs hK hP hS 34 rfl rfl rfl rfl hl.1 rfl (Nat.le_of_ble_eq_true rfl) dX1_take_75 ⟨Nat.zero_le _, Nat.zero_le _⟩) (fun H locs hP hS => ?_)
    refine lv_aload_n cx.1 cx.2.1 dX1_take_78 rfl (lv_at hl 0 rfl) ?_
    refine lv_dup cx.1 cx.2.1 dX1_take_79 rfl ?_
    refine zGet (v := .int (N3 16 0)) (own := RX1) cx hinX1 hK hP 4 rfl rfl 6 (by decide) (by decide +kernel) rfl rfl dX1_take_80 ?_
    refine lv_iconst (v := 1) cx.1 cx.2.1 dX1_take_83 (by decide) ?_
    refine lv_iadd cx.1 cx.2.1 dX1_take_84 ?_
    refine zPut (v := .int ((N3 16 0) + 1)) (own := RX1) (ty0 := tyX1) (ty := .int) cx hinX1 tyX1_ok nmX1 (cw_W cyI ad) hI hK hP hS 4 rfl rfl 6 (by decide) (by decide +kernel) rfl rfl (by decide +kernel) rfl rfl (Nat.le_of_ble_eq_true rfl) (zUp (zUp N3 14 (rs 64 (N3 14) (N3 16 0) xp)) 16 (upd (N3 16) 0 ((N3 16 0) + 1))) rfl dX1_take_85 (fun H locs hP hS => ?_)
    subst hN3
    subst hN2
    exact zRetV cx hrt hlk hS hP (by unfold g_X1_take; rw [if_neg c1]) dX1_take_88

def bd_X1_placeFrom_3 (S : zS) (xh : Int32) (xd : Int32) (i : Nat) (T3 : zS) : zS := if ¬ (f_X0_kindOf T3 (nI i)) = 3 then (T3) else (if ¬ (f_X3_between T3 xh (nI i)) = xd then (T3) else (g_X1_take T3 xh (nI i) (if (rg 64 (T3 10) (nI i)) < (rg 64 (T3 10) xh) then rg 64 (T3 10) (nI i) else rg 64 (T3 10) xh)))
def lp_X1_placeFrom_3 (S : zS) (xh : Int32) (xd : Int32) (T30 : zS) : Nat → zS
  | 0 => (T30)
  | q + 1 => bd_X1_placeFrom_3 S xh xd q (lp_X1_placeFrom_3 S xh xd T30 q)
def g_X1_placeFrom (S : zS) (xh : Int32) (xd : Int32) : zS := (lp_X1_placeFrom_3 S xh xd S 64)
theorem fr_bd_X1_placeFrom_3 (S : zS) (xh : Int32) (xd : Int32) (i : Nat) (T3 : zS) (r : Nat) (h10 : r ≠ 10) (h12 : r ≠ 12) (h13 : r ≠ 13) (h14 : r ≠ 14) (h16 : r ≠ 16) (h9 : r ≠ 9) : (bd_X1_placeFrom_3 S xh xd i T3) r = T3 r := by
  unfold bd_X1_placeFrom_3
  (repeat' split) <;> simp [zUp, h10, h12, h13, h14, h16, h9, fr_X1_take]
theorem fr_lp_X1_placeFrom_3 (S : zS) (xh : Int32) (xd : Int32) (T30 : zS) (r : Nat) (h10 : r ≠ 10) (h12 : r ≠ 12) (h13 : r ≠ 13) (h14 : r ≠ 14) (h16 : r ≠ 16) (h9 : r ≠ 9) : ∀ n, (lp_X1_placeFrom_3 S xh xd T30 n) r = T30 r
  | 0 => rfl
  | n + 1 => by
    show (bd_X1_placeFrom_3 S xh xd n (lp_X1_placeFrom_3 S xh xd T30 n)) r = _
    rw [fr_bd_X1_placeFrom_3 _ _ _ _ _ r h10 h12 h13 h14 h16 h9]
    exact fr_lp_X1_placeFrom_3 S xh xd T30 r h10 h12 h13 h14 h16 h9 n
theorem fr_X1_placeFrom (S : zS) (xh : Int32) (xd : Int32) (r : Nat) (h10 : r ≠ 10) (h12 : r ≠ 12) (h13 : r ≠ 13) (h14 : r ≠ 14) (h16 : r ≠ 16) (h9 : r ≠ 9) : g_X1_placeFrom S xh xd r = S r := by
  unfold g_X1_placeFrom
  (repeat' split) <;> simp [zUp, h10, h12, h13, h14, h16, h9, fr_X1_take, fr_lp_X1_placeFrom_3]
set_option maxHeartbeats 4000000 in
set_option maxRecDepth 100000 in
theorem c_X1_placeFrom (l : Launch) (dC : Nat → ClassId) (dI : Nat → Nat → Nat) (cyI : ClassId) (ad : Nat → Nat) (hI : zI ad 36) (S : zS) (xh : Int32) (xd : Int32) : zMv l (dC, dI) [(cyI, .int)] ad 36 xN (cw cyI ad) yX1_placeFrom wsX1_placeFrom ({ frames := 2, cells := 0, slots := 0, locals := 45 } : Room) [.ref (ad 4), .ref (ad 1), .ref (ad 2), .int xh, .int xd] S (fun T => T = g_X1_placeFrom S xh xd) := by
  refine zStartV (by decide) rfl (Nat.le_of_ble_eq_true rfl) ?_
  intro p e s m args below meth c ls cx hrt hlk hP hK hXs hl
  have hl : lv_has ls 6 [(0, .ref (ad 4)), (1, .ref (ad 1)), (2, .ref (ad 2)), (3, .int xh), (4, .int xd)] := hl
  have hS : va_S (zA ad 36 s.heap.size) s.heap s.heap [] := va_S.rf
  have hinX1 : ∀ w ∈ u_ws RX1 TX1 7, w ∈ wsX1_placeFrom := by decide +kernel
  obtain ⟨Q, hQ⟩ : ∃ Q, Q = MQ below (zQv (dC, dI) (cw cyI ad) (fun T => T = g_X1_placeFrom S xh xd) (zA ad 36 s.heap.size)) args s 0 0 (zA ad 36 s.heap.size) := ⟨_, rfl⟩
  rw [← hQ]
  refine lv_iconst (v := 0) cx.1 cx.2.1 dX1_placeFrom_0 (by decide) ?_
  refine lv_istore (lv' := [(5, .int 0), (0, .ref (ad 4)), (1, .ref (ad 1)), (2, .ref (ad 2)), (3, .int xh), (4, .int xd)]) cx.1 cx.2.1 dX1_placeFrom_1 hl (by decide) rfl (fun ls hl => ?_)
  have lp3 : ∀ (fu i : Nat) (T3 : zS) (hi3 : i ≤ 64) (hacc3 : lp_X1_placeFrom_3 S xh xd S i = T3)  (_ : 64 - i < fu) (H : Heap) (locs : List Loc) (ls : Array Slot), va_P (dC, dI) vwCl (cw cyI ad T3) H → va_S (zA ad 36 s.heap.size) s.heap H locs → lv_has ls 6 [(5, .int (nI i)), (0, .ref (ad 4)), (1, .ref (ad 1)), (2, .ref (ad 2)), (3, .int xh), (4, .int xd)] → W p l e (headSpec wsX1_placeFrom ({ frames := 2, cells := 0, slots := 0, locals := 45 } : Room)).room s m args below meth c H locs 0 0 Q (F0 m 3 ls []) := by
    intro fu
    induction fu with
    | zero => intro i T3 hi3 hacc3  hm; exact absurd hm (Nat.not_lt_zero _)
    | succ fu ih3 =>
      intro i T3 hi3 hacc3  hm H locs ls hP hS hl
      refine lv_iload cx.1 cx.2.1 dX1_placeFrom_3 (lv_at hl 0 rfl) ?_
      refine lv_bipush (v := 64) cx.1 cx.2.1 dX1_placeFrom_5 (by decide) ?_
      refine lv_icmp_ge (tgt := 65) cx.1 cx.2.1 dX1_placeFrom_7 (by decide) (fun c1 => ?_) (fun c1 => ?_)
      · have nc1 : 64 ≤ i := (nI_leI (a := 64) (b := i) (by first | decide | omega) (by first | decide | omega)).mp c1
        obtain rfl : i = 64 := by omega
        subst hacc3
        rw [hQ]
        exact zRetV cx hrt hlk hS hP (by unfold g_X1_placeFrom; rfl) dX1_placeFrom_65
      · have nc1 : ¬ 64 ≤ i := fun z => c1 ((nI_leI (a := 64) (b := i) (by first | decide | omega) (by first | decide | omega)).mpr z)
        refine lv_aload_n cx.1 cx.2.1 dX1_placeFrom_10 rfl (lv_at hl 2 rfl) ?_
        refine lv_iload cx.1 cx.2.1 dX1_placeFrom_11 (lv_at hl 0 rfl) ?_
        refine zThenIx (v := f_X0_kindOf T3 (nI i)) (S' := T3) hS (zRunV (As := [.int (nI i)]) (rest := []) _ 1 cx (c_X0_kindOf l dC dI cyI ad hI T3 (nI i)) gX1_placeFrom_X0_kindOf rfl ⟨rfl, rfl⟩ (by decide +kernel) ⟨Nat.le_of_ble_eq_true rfl, Nat.le_of_ble_eq_true rfl⟩ (xN_X ad 36) hXs hK hP hS 1 rfl rfl rfl rfl hl.1 rfl (Nat.le_of_ble_eq_true rfl) dX1_placeFrom_13 ⟨Nat.zero_le _, Nat.zero_le _⟩) (fun H locs hP hS => ?_)
        refine lv_iconst (v := 3) cx.1 cx.2.1 dX1_placeFrom_16 (by decide) ?_
        refine lv_icmp_ne (tgt := 59) cx.1 cx.2.1 dX1_placeFrom_17 (by decide) (fun c2 => ?_) (fun c2 => ?_)
        · refine lv_iinc (v := nI (i + 1)) (lv' := [(5, .int (nI (i + 1))), (0, .ref (ad 4)), (1, .ref (ad 1)), (2, .ref (ad 2)), (3, .int xh), (4, .int xd)]) cx.1 cx.2.1 dX1_placeFrom_59 hl (k := 0) rfl (nI_1 i) (by decide) rfl (fun ls hl => ?_)
          refine lv_goto (tgt := 3) cx.1 cx.2.1 dX1_placeFrom_62 (by decide) ?_
          have ha3 : lp_X1_placeFrom_3 S xh xd S (i + 1) = T3 := by
            show bd_X1_placeFrom_3 S xh xd i (lp_X1_placeFrom_3 S xh xd S i) = _
            rw [hacc3]
            unfold bd_X1_placeFrom_3
            rw [if_pos c2]
          exact ih3 (i + 1) T3 (by omega) ha3  (by omega) _ _ ls hP hS (lv_sub hl [0, 1, 2, 3, 4, 5] rfl)
        · refine lv_aload_n cx.1 cx.2.1 dX1_placeFrom_20 rfl (lv_at hl 3 rfl) ?_
          refine lv_iload_n cx.1 cx.2.1 dX1_placeFrom_21 rfl (lv_at hl 4 rfl) ?_
          refine lv_iload cx.1 cx.2.1 dX1_placeFrom_22 (lv_at hl 0 rfl) ?_
          refine zThenIx (v := f_X3_between T3 xh (nI i)) (S' := T3) hS (zRunV (As := [.int xh, .int (nI i)]) (rest := []) _ 2 cx (c_X3_between l dC dI cyI ad hI T3 xh (nI i)) gX1_placeFrom_X3_between rfl ⟨rfl, rfl⟩ (by decide +kernel) ⟨Nat.le_of_ble_eq_true rfl, Nat.le_of_ble_eq_true rfl⟩ (xN_X ad 36) hXs hK hP hS 2 rfl rfl rfl rfl hl.1 rfl (Nat.le_of_ble_eq_true rfl) dX1_placeFrom_24 ⟨Nat.zero_le _, Nat.zero_le _⟩) (fun H locs hP hS => ?_)
          refine lv_iload cx.1 cx.2.1 dX1_placeFrom_27 (lv_at hl 5 rfl) ?_
          refine lv_icmp_ne (tgt := 59) cx.1 cx.2.1 dX1_placeFrom_29 (by decide) (fun c3 => ?_) (fun c3 => ?_)
          · refine lv_iinc (v := nI (i + 1)) (lv' := [(5, .int (nI (i + 1))), (0, .ref (ad 4)), (1, .ref (ad 1)), (2, .ref (ad 2)), (3, .int xh), (4, .int xd)]) cx.1 cx.2.1 dX1_placeFrom_59 hl (k := 0) rfl (nI_1 i) (by decide) rfl (fun ls hl => ?_)
            refine lv_goto (tgt := 3) cx.1 cx.2.1 dX1_placeFrom_62 (by decide) ?_
            have ha3 : lp_X1_placeFrom_3 S xh xd S (i + 1) = T3 := by
              show bd_X1_placeFrom_3 S xh xd i (lp_X1_placeFrom_3 S xh xd S i) = _
              rw [hacc3]
              unfold bd_X1_placeFrom_3
              rw [if_neg (not_not_intro c2), if_pos c3]
            exact ih3 (i + 1) T3 (by omega) ha3  (by omega) _ _ ls hP hS (lv_sub hl [0, 1, 2, 3, 4, 5] rfl)
          · refine lv_aload_n cx.1 cx.2.1 dX1_placeFrom_32 rfl (lv_at hl 1 rfl) ?_
            refine lv_iload_n cx.1 cx.2.1 dX1_placeFrom_33 rfl (lv_at hl 4 rfl) ?_
            refine lv_iload cx.1 cx.2.1 dX1_placeFrom_34 (lv_at hl 0 rfl) ?_
            refine lv_aload_n cx.1 cx.2.1 dX1_placeFrom_36 rfl (lv_at hl 1 rfl) ?_
            refine zGet (v := .ref (ad 26)) (own := RX1) cx hinX1 hK hP 4 rfl rfl 1 (by decide) (by decide +kernel) rfl rfl dX1_placeFrom_37 ?_
            refine lv_iload_n cx.1 cx.2.1 dX1_placeFrom_40 rfl (lv_at hl 4 rfl) ?_
            refine zThenIx (v := rg 64 (T3 10) xh) (S' := T3) hS (zRunV (As := [.int xh]) (rest := [.int (nI i), .int xh, .ref (ad 4)]) _ 1 cx (c_X4_get l dC dI cyI ad hI T3 10 (by decide) xh) gX1_placeFrom_X4_get rfl ⟨rfl, rfl⟩ (by decide +kernel) ⟨Nat.le_of_ble_eq_true rfl, Nat.le_of_ble_eq_true rfl⟩ (xN_X ad 36) hXs hK hP hS 26 rfl rfl rfl rfl hl.1 rfl (Nat.le_of_ble_eq_true rfl) dX1_placeFrom_41 ⟨Nat.zero_le _, Nat.zero_le _⟩) (fun H locs hP hS => ?_)
            refine lv_aload_n cx.1 cx.2.1 dX1_placeFrom_44 rfl (lv_at hl 1 rfl) ?_
            refine zGet (v := .ref (ad 26)) (own := RX1) cx hinX1 hK hP 4 rfl rfl 1 (by decide) (by decide +kernel) rfl rfl dX1_placeFrom_45 ?_
            refine lv_iload cx.1 cx.2.1 dX1_placeFrom_48 (lv_at hl 0 rfl) ?_
            refine zThenIx (v := rg 64 (T3 10) (nI i)) (S' := T3) hS (zRunV (As := [.int (nI i)]) (rest := [.int (rg 64 (T3 10) xh), .int (nI i), .int xh, .ref (ad 4)]) _ 1 cx (c_X4_get l dC dI cyI ad hI T3 10 (by decide) (nI i)) gX1_placeFrom_X4_get rfl ⟨rfl, rfl⟩ (by decide +kernel) ⟨Nat.le_of_ble_eq_true rfl, Nat.le_of_ble_eq_true rfl⟩ (xN_X ad 36) hXs hK hP hS 26 rfl rfl rfl rfl hl.1 rfl (Nat.le_of_ble_eq_true rfl) dX1_placeFrom_50 ⟨Nat.zero_le _, Nat.zero_le _⟩) (fun H locs hP hS => ?_)
            refine va_mmin cx.1 cx.2.1 (cx.2.2.1.trans hl.1.symm) (own := RX1) cx.2.2.2.1 (cx.2.2.2.2 _ (by decide +kernel)) (cx.2.2.2.2 _ (by decide +kernel)) (cx.2.2.2.2 _ (by decide +kernel)) (cx.2.2.2.2 _ (by decide +kernel)) (Nat.le_of_ble_eq_true rfl) (Nat.le_of_ble_eq_true rfl) (Nat.zero_le _) (Nat.zero_le _) dX1_placeFrom_53 ?_
            refine zThenVx (S' := g_X1_take T3 xh (nI i) (if (rg 64 (T3 10) (nI i)) < (rg 64 (T3 10) xh) then rg 64 (T3 10) (nI i) else rg 64 (T3 10) xh)) hS (zRunV (As := [.int xh, .int (nI i), .int (if (rg 64 (T3 10) (nI i)) < (rg 64 (T3 10) xh) then rg 64 (T3 10) (nI i) else rg 64 (T3 10) xh)]) (rest := []) _ 3 cx (c_X1_take l dC dI cyI ad hI T3 xh (nI i) (if (rg 64 (T3 10) (nI i)) < (rg 64 (T3 10) xh) then rg 64 (T3 10) (nI i) else rg 64 (T3 10) xh)) gX1_placeFrom_X1_take rfl ⟨rfl, rfl⟩ (by decide +kernel) ⟨Nat.le_of_ble_eq_true rfl, Nat.le_of_ble_eq_true rfl⟩ (xN_X ad 36) hXs hK hP hS 4 rfl rfl rfl rfl hl.1 rfl (Nat.le_of_ble_eq_true rfl) dX1_placeFrom_56 ⟨Nat.zero_le _, Nat.zero_le _⟩) (fun H locs hP hS => ?_)
            refine lv_iinc (v := nI (i + 1)) (lv' := [(5, .int (nI (i + 1))), (0, .ref (ad 4)), (1, .ref (ad 1)), (2, .ref (ad 2)), (3, .int xh), (4, .int xd)]) cx.1 cx.2.1 dX1_placeFrom_59 hl (k := 0) rfl (nI_1 i) (by decide) rfl (fun ls hl => ?_)
            refine lv_goto (tgt := 3) cx.1 cx.2.1 dX1_placeFrom_62 (by decide) ?_
            have ha3 : lp_X1_placeFrom_3 S xh xd S (i + 1) = g_X1_take T3 xh (nI i) (if (rg 64 (T3 10) (nI i)) < (rg 64 (T3 10) xh) then rg 64 (T3 10) (nI i) else rg 64 (T3 10) xh) := by
              show bd_X1_placeFrom_3 S xh xd i (lp_X1_placeFrom_3 S xh xd S i) = _
              rw [hacc3]
              unfold bd_X1_placeFrom_3
              rw [if_neg (not_not_intro c2), if_neg (not_not_intro c3)]
            exact ih3 (i + 1) (g_X1_take T3 xh (nI i) (if (rg 64 (T3 10) (nI i)) < (rg 64 (T3 10) xh) then rg 64 (T3 10) (nI i) else rg 64 (T3 10) xh)) (by omega) ha3  (by omega) _ _ ls hP hS (lv_sub hl [0, 1, 2, 3, 4, 5] rfl)
  exact lp3 (64 - 0 + 1) 0 S (by omega) rfl  (Nat.lt_succ_self _) _ _ ls hP hS (lv_sub hl [0, 1, 2, 3, 4, 5] rfl)

def bd_X1_place_3 (S : zS) (xd : Int32) (i : Nat) (T3 : zS) : zS := if ¬ (f_X0_kindOf T3 (nI i)) = 2 then (T3) else (if (rg 64 (T3 10) (nI i)) ≤ 0 then (T3) else (g_X1_placeFrom T3 (nI i) xd))
def lp_X1_place_3 (S : zS) (xd : Int32) (T30 : zS) : Nat → zS
  | 0 => (T30)
  | q + 1 => bd_X1_place_3 S xd q (lp_X1_place_3 S xd T30 q)
def g_X1_place (S : zS) (xd : Int32) : zS := (lp_X1_place_3 S xd S 64)
theorem fr_bd_X1_place_3 (S : zS) (xd : Int32) (i : Nat) (T3 : zS) (r : Nat) (h10 : r ≠ 10) (h12 : r ≠ 12) (h13 : r ≠ 13) (h14 : r ≠ 14) (h16 : r ≠ 16) (h9 : r ≠ 9) : (bd_X1_place_3 S xd i T3) r = T3 r := by
  unfold bd_X1_place_3
  (repeat' split) <;> simp [zUp, h10, h12, h13, h14, h16, h9, fr_X1_placeFrom]
theorem fr_lp_X1_place_3 (S : zS) (xd : Int32) (T30 : zS) (r : Nat) (h10 : r ≠ 10) (h12 : r ≠ 12) (h13 : r ≠ 13) (h14 : r ≠ 14) (h16 : r ≠ 16) (h9 : r ≠ 9) : ∀ n, (lp_X1_place_3 S xd T30 n) r = T30 r
  | 0 => rfl
  | n + 1 => by
    show (bd_X1_place_3 S xd n (lp_X1_place_3 S xd T30 n)) r = _
    rw [fr_bd_X1_place_3 _ _ _ _ r h10 h12 h13 h14 h16 h9]
    exact fr_lp_X1_place_3 S xd T30 r h10 h12 h13 h14 h16 h9 n
theorem fr_X1_place (S : zS) (xd : Int32) (r : Nat) (h10 : r ≠ 10) (h12 : r ≠ 12) (h13 : r ≠ 13) (h14 : r ≠ 14) (h16 : r ≠ 16) (h9 : r ≠ 9) : g_X1_place S xd r = S r := by
  unfold g_X1_place
  (repeat' split) <;> simp [zUp, h10, h12, h13, h14, h16, h9, fr_X1_placeFrom, fr_lp_X1_place_3]
set_option maxHeartbeats 4000000 in
set_option maxRecDepth 100000 in
theorem c_X1_place (l : Launch) (dC : Nat → ClassId) (dI : Nat → Nat → Nat) (cyI : ClassId) (ad : Nat → Nat) (hI : zI ad 36) (S : zS) (xd : Int32) : zMv l (dC, dI) [(cyI, .int)] ad 36 xN (cw cyI ad) yX1_place wsX1_place ({ frames := 3, cells := 0, slots := 0, locals := 70 } : Room) [.ref (ad 4), .ref (ad 1), .ref (ad 2), .int xd] S (fun T => T = g_X1_place S xd) := by
  refine zStartV (by decide) rfl (Nat.le_of_ble_eq_true rfl) ?_
  intro p e s m args below meth c ls cx hrt hlk hP hK hXs hl
  have hl : lv_has ls 5 [(0, .ref (ad 4)), (1, .ref (ad 1)), (2, .ref (ad 2)), (3, .int xd)] := hl
  have hS : va_S (zA ad 36 s.heap.size) s.heap s.heap [] := va_S.rf
  have hinX1 : ∀ w ∈ u_ws RX1 TX1 7, w ∈ wsX1_place := by decide +kernel
  obtain ⟨Q, hQ⟩ : ∃ Q, Q = MQ below (zQv (dC, dI) (cw cyI ad) (fun T => T = g_X1_place S xd) (zA ad 36 s.heap.size)) args s 0 0 (zA ad 36 s.heap.size) := ⟨_, rfl⟩
  rw [← hQ]
  refine lv_iconst (v := 0) cx.1 cx.2.1 dX1_place_0 (by decide) ?_
  refine lv_istore (lv' := [(4, .int 0), (0, .ref (ad 4)), (1, .ref (ad 1)), (2, .ref (ad 2)), (3, .int xd)]) cx.1 cx.2.1 dX1_place_1 hl (by decide) rfl (fun ls hl => ?_)
  have lp3 : ∀ (fu i : Nat) (T3 : zS) (hi3 : i ≤ 64) (hacc3 : lp_X1_place_3 S xd S i = T3)  (_ : 64 - i < fu) (H : Heap) (locs : List Loc) (ls : Array Slot), va_P (dC, dI) vwCl (cw cyI ad T3) H → va_S (zA ad 36 s.heap.size) s.heap H locs → lv_has ls 5 [(4, .int (nI i)), (0, .ref (ad 4)), (1, .ref (ad 1)), (2, .ref (ad 2)), (3, .int xd)] → W p l e (headSpec wsX1_place ({ frames := 3, cells := 0, slots := 0, locals := 70 } : Room)).room s m args below meth c H locs 0 0 Q (F0 m 3 ls []) := by
    intro fu
    induction fu with
    | zero => intro i T3 hi3 hacc3  hm; exact absurd hm (Nat.not_lt_zero _)
    | succ fu ih3 =>
      intro i T3 hi3 hacc3  hm H locs ls hP hS hl
      refine lv_iload cx.1 cx.2.1 dX1_place_3 (lv_at hl 0 rfl) ?_
      refine lv_bipush (v := 64) cx.1 cx.2.1 dX1_place_5 (by decide) ?_
      refine lv_icmp_ge (tgt := 47) cx.1 cx.2.1 dX1_place_7 (by decide) (fun c1 => ?_) (fun c1 => ?_)
      · have nc1 : 64 ≤ i := (nI_leI (a := 64) (b := i) (by first | decide | omega) (by first | decide | omega)).mp c1
        obtain rfl : i = 64 := by omega
        subst hacc3
        rw [hQ]
        exact zRetV cx hrt hlk hS hP (by unfold g_X1_place; rfl) dX1_place_47
      · have nc1 : ¬ 64 ≤ i := fun z => c1 ((nI_leI (a := 64) (b := i) (by first | decide | omega) (by first | decide | omega)).mpr z)
        refine lv_aload_n cx.1 cx.2.1 dX1_place_10 rfl (lv_at hl 2 rfl) ?_
        refine lv_iload cx.1 cx.2.1 dX1_place_11 (lv_at hl 0 rfl) ?_
        refine zThenIx (v := f_X0_kindOf T3 (nI i)) (S' := T3) hS (zRunV (As := [.int (nI i)]) (rest := []) _ 1 cx (c_X0_kindOf l dC dI cyI ad hI T3 (nI i)) gX1_place_X0_kindOf rfl ⟨rfl, rfl⟩ (by decide +kernel) ⟨Nat.le_of_ble_eq_true rfl, Nat.le_of_ble_eq_true rfl⟩ (xN_X ad 36) hXs hK hP hS 1 rfl rfl rfl rfl hl.1 rfl (Nat.le_of_ble_eq_true rfl) dX1_place_13 ⟨Nat.zero_le _, Nat.zero_le _⟩) (fun H locs hP hS => ?_)
        refine lv_iconst (v := 2) cx.1 cx.2.1 dX1_place_16 (by decide) ?_
        refine lv_icmp_ne (tgt := 41) cx.1 cx.2.1 dX1_place_17 (by decide) (fun c2 => ?_) (fun c2 => ?_)
        · refine lv_iinc (v := nI (i + 1)) (lv' := [(4, .int (nI (i + 1))), (0, .ref (ad 4)), (1, .ref (ad 1)), (2, .ref (ad 2)), (3, .int xd)]) cx.1 cx.2.1 dX1_place_41 hl (k := 0) rfl (nI_1 i) (by decide) rfl (fun ls hl => ?_)
          refine lv_goto (tgt := 3) cx.1 cx.2.1 dX1_place_44 (by decide) ?_
          have ha3 : lp_X1_place_3 S xd S (i + 1) = T3 := by
            show bd_X1_place_3 S xd i (lp_X1_place_3 S xd S i) = _
            rw [hacc3]
            unfold bd_X1_place_3
            rw [if_pos c2]
          exact ih3 (i + 1) T3 (by omega) ha3  (by omega) _ _ ls hP hS (lv_sub hl [0, 1, 2, 3, 4] rfl)
        · refine lv_aload_n cx.1 cx.2.1 dX1_place_20 rfl (lv_at hl 1 rfl) ?_
          refine zGet (v := .ref (ad 26)) (own := RX1) cx hinX1 hK hP 4 rfl rfl 1 (by decide) (by decide +kernel) rfl rfl dX1_place_21 ?_
          refine lv_iload cx.1 cx.2.1 dX1_place_24 (lv_at hl 0 rfl) ?_
          refine zThenIx (v := rg 64 (T3 10) (nI i)) (S' := T3) hS (zRunV (As := [.int (nI i)]) (rest := []) _ 1 cx (c_X4_get l dC dI cyI ad hI T3 10 (by decide) (nI i)) gX1_place_X4_get rfl ⟨rfl, rfl⟩ (by decide +kernel) ⟨Nat.le_of_ble_eq_true rfl, Nat.le_of_ble_eq_true rfl⟩ (xN_X ad 36) hXs hK hP hS 26 rfl rfl rfl rfl hl.1 rfl (Nat.le_of_ble_eq_true rfl) dX1_place_26 ⟨Nat.zero_le _, Nat.zero_le _⟩) (fun H locs hP hS => ?_)
          refine lv_if_le (tgt := 41) cx.1 cx.2.1 dX1_place_29 (by decide) (fun c3 => ?_) (fun c3 => ?_)
          · refine lv_iinc (v := nI (i + 1)) (lv' := [(4, .int (nI (i + 1))), (0, .ref (ad 4)), (1, .ref (ad 1)), (2, .ref (ad 2)), (3, .int xd)]) cx.1 cx.2.1 dX1_place_41 hl (k := 0) rfl (nI_1 i) (by decide) rfl (fun ls hl => ?_)
            refine lv_goto (tgt := 3) cx.1 cx.2.1 dX1_place_44 (by decide) ?_
            have ha3 : lp_X1_place_3 S xd S (i + 1) = T3 := by
              show bd_X1_place_3 S xd i (lp_X1_place_3 S xd S i) = _
              rw [hacc3]
              unfold bd_X1_place_3
              rw [if_neg (not_not_intro c2), if_pos c3]
            exact ih3 (i + 1) T3 (by omega) ha3  (by omega) _ _ ls hP hS (lv_sub hl [0, 1, 2, 3, 4] rfl)
          · refine lv_aload_n cx.1 cx.2.1 dX1_place_32 rfl (lv_at hl 1 rfl) ?_
            refine lv_aload_n cx.1 cx.2.1 dX1_place_33 rfl (lv_at hl 2 rfl) ?_
            refine lv_aload_n cx.1 cx.2.1 dX1_place_34 rfl (lv_at hl 3 rfl) ?_
            refine lv_iload cx.1 cx.2.1 dX1_place_35 (lv_at hl 0 rfl) ?_
            refine lv_iload_n cx.1 cx.2.1 dX1_place_37 rfl (lv_at hl 4 rfl) ?_
            refine zThenVx (S' := g_X1_placeFrom T3 (nI i) xd) hS (zRunV (As := [.ref (ad 1), .ref (ad 2), .int (nI i), .int xd]) (rest := []) _ 4 cx (c_X1_placeFrom l dC dI cyI ad hI T3 (nI i) xd) gX1_place_X1_placeFrom rfl ⟨rfl, rfl⟩ (by decide +kernel) ⟨Nat.le_of_ble_eq_true rfl, Nat.le_of_ble_eq_true rfl⟩ (xN_X ad 36) hXs hK hP hS 4 rfl rfl rfl rfl hl.1 rfl (Nat.le_of_ble_eq_true rfl) dX1_place_38 ⟨Nat.zero_le _, Nat.zero_le _⟩) (fun H locs hP hS => ?_)
            refine lv_iinc (v := nI (i + 1)) (lv' := [(4, .int (nI (i + 1))), (0, .ref (ad 4)), (1, .ref (ad 1)), (2, .ref (ad 2)), (3, .int xd)]) cx.1 cx.2.1 dX1_place_41 hl (k := 0) rfl (nI_1 i) (by decide) rfl (fun ls hl => ?_)
            refine lv_goto (tgt := 3) cx.1 cx.2.1 dX1_place_44 (by decide) ?_
            have ha3 : lp_X1_place_3 S xd S (i + 1) = g_X1_placeFrom T3 (nI i) xd := by
              show bd_X1_place_3 S xd i (lp_X1_place_3 S xd S i) = _
              rw [hacc3]
              unfold bd_X1_place_3
              rw [if_neg (not_not_intro c2), if_neg c3]
            exact ih3 (i + 1) (g_X1_placeFrom T3 (nI i) xd) (by omega) ha3  (by omega) _ _ ls hP hS (lv_sub hl [0, 1, 2, 3, 4] rfl)
  exact lp3 (64 - 0 + 1) 0 S (by omega) rfl  (Nat.lt_succ_self _) _ _ ls hP hS (lv_sub hl [0, 1, 2, 3, 4] rfl)

def lp_X1_walk_17 (S : zS) (xf : Int32) (xt : Int32) (xp : Int32) : Nat → Nat → Int32 → zS → Int32 × zS
  | 0, i, h, T17 => (h, T17)
  | q + 1, i, h, T17 => if h = xt then ((h, T17)) else (lp_X1_walk_17 S xf xt xp q (i + 1) (f_X3_nextRoad T17 h xt) (zUp T17 11 (ra 64 (T17 11) (f_X3_nextRoad T17 h xt) xp)))
def g_X1_walk (S : zS) (xf : Int32) (xt : Int32) (xp : Int32) : zS := (lp_X1_walk_17 S xf xt xp 64 0 xf (zUp S 11 (ra 64 (S 11) xf xp))).2
theorem fr_lp_X1_walk_17 (S : zS) (xf : Int32) (xt : Int32) (xp : Int32) (r : Nat) (h11 : r ≠ 11) : ∀ (q i : Nat) (h : Int32) (T17 : zS), (lp_X1_walk_17 S xf xt xp q i h T17).2 r = T17 r := by
  intro q
  induction q with
  | zero => intros; rfl
  | succ q ih =>
    intro i h T17
    rw [lp_X1_walk_17]
    (repeat' split) <;> simp [ih, zUp, h11]
theorem fr_X1_walk (S : zS) (xf : Int32) (xt : Int32) (xp : Int32) (r : Nat) (h11 : r ≠ 11) : g_X1_walk S xf xt xp r = S r := by
  unfold g_X1_walk
  (repeat' split) <;> simp [zUp, h11, fr_lp_X1_walk_17]
set_option maxHeartbeats 4000000 in
set_option maxRecDepth 100000 in
theorem c_X1_walk (l : Launch) (dC : Nat → ClassId) (dI : Nat → Nat → Nat) (cyI : ClassId) (ad : Nat → Nat) (hI : zI ad 36) (S : zS) (xf : Int32) (xt : Int32) (xp : Int32) : zMv l (dC, dI) [(cyI, .int)] ad 36 xN (cw cyI ad) yX1_walk wsX1_walk ({ frames := 2, cells := 0, slots := 0, locals := 46 } : Room) [.ref (ad 4), .ref (ad 2), .int xf, .int xt, .int xp] S (fun T => T = g_X1_walk S xf xt xp) := by
  refine zStartV (by decide) rfl (Nat.le_of_ble_eq_true rfl) ?_
  intro p e s m args below meth c ls cx hrt hlk hP hK hXs hl
  have hl : lv_has ls 7 [(0, .ref (ad 4)), (1, .ref (ad 2)), (2, .int xf), (3, .int xt), (4, .int xp)] := hl
  have hS : va_S (zA ad 36 s.heap.size) s.heap s.heap [] := va_S.rf
  have hinX1 : ∀ w ∈ u_ws RX1 TX1 7, w ∈ wsX1_walk := by decide +kernel
  obtain ⟨Q, hQ⟩ : ∃ Q, Q = MQ below (zQv (dC, dI) (cw cyI ad) (fun T => T = g_X1_walk S xf xt xp) (zA ad 36 s.heap.size)) args s 0 0 (zA ad 36 s.heap.size) := ⟨_, rfl⟩
  rw [← hQ]
  refine lv_iload_n cx.1 cx.2.1 dX1_walk_0 rfl (lv_at hl 2 rfl) ?_
  refine lv_istore (lv' := [(5, .int xf), (0, .ref (ad 4)), (1, .ref (ad 2)), (2, .int xf), (3, .int xt), (4, .int xp)]) cx.1 cx.2.1 dX1_walk_1 hl (by decide) rfl (fun ls hl => ?_)
  refine lv_aload_n cx.1 cx.2.1 dX1_walk_3 rfl (lv_at hl 1 rfl) ?_
  refine zGet (v := .ref (ad 28)) (own := RX1) cx hinX1 hK hP 4 rfl rfl 2 (by decide) (by decide +kernel) rfl rfl dX1_walk_4 ?_
  refine lv_iload cx.1 cx.2.1 dX1_walk_7 (lv_at hl 0 rfl) ?_
  refine lv_iload cx.1 cx.2.1 dX1_walk_9 (lv_at hl 5 rfl) ?_
  refine zThenVx (S' := zUp S 11 (ra 64 (S 11) xf xp)) hS (zRunV (As := [.int xf, .int xp]) (rest := []) _ 2 cx (c_X4_add l dC dI cyI ad hI S 11 (by decide) xf xp) gX1_walk_X4_add rfl ⟨rfl, rfl⟩ (by decide +kernel) ⟨Nat.le_of_ble_eq_true rfl, Nat.le_of_ble_eq_true rfl⟩ (xN_X ad 36) hXs hK hP hS 28 rfl rfl rfl rfl hl.1 rfl (Nat.le_of_ble_eq_true rfl) dX1_walk_11 ⟨Nat.zero_le _, Nat.zero_le _⟩) (fun H locs hP hS => ?_)
  refine lv_iconst (v := 0) cx.1 cx.2.1 dX1_walk_14 (by decide) ?_
  refine lv_istore (lv' := [(6, .int 0), (5, .int xf), (0, .ref (ad 4)), (1, .ref (ad 2)), (2, .int xf), (3, .int xt), (4, .int xp)]) cx.1 cx.2.1 dX1_walk_15 hl (by decide) rfl (fun ls hl => ?_)
  have lp17 : ∀ (fu i : Nat) (h : Int32) (T17 : zS) (hi17 : i ≤ 64) (hacc17 : lp_X1_walk_17 S xf xt xp (64 - i) i h T17 = lp_X1_walk_17 S xf xt xp 64 0 xf (zUp S 11 (ra 64 (S 11) xf xp)))  (_ : 64 - i < fu) (H : Heap) (locs : List Loc) (ls : Array Slot), va_P (dC, dI) vwCl (cw cyI ad T17) H → va_S (zA ad 36 s.heap.size) s.heap H locs → lv_has ls 7 [(6, .int (nI i)), (5, .int h), (0, .ref (ad 4)), (1, .ref (ad 2)), (2, .int xf), (3, .int xt), (4, .int xp)] → W p l e (headSpec wsX1_walk ({ frames := 2, cells := 0, slots := 0, locals := 46 } : Room)).room s m args below meth c H locs 0 0 Q (F0 m 17 ls []) := by
    intro fu
    induction fu with
    | zero => intro i h T17 hi17 hacc17  hm; exact absurd hm (Nat.not_lt_zero _)
    | succ fu ih17 =>
      intro i h T17 hi17 hacc17  hm H locs ls hP hS hl
      refine lv_iload cx.1 cx.2.1 dX1_walk_17 (lv_at hl 0 rfl) ?_
      refine lv_bipush (v := 64) cx.1 cx.2.1 dX1_walk_19 (by decide) ?_
      refine lv_icmp_ge (tgt := 56) cx.1 cx.2.1 dX1_walk_21 (by decide) (fun c1 => ?_) (fun c1 => ?_)
      · have nc1 : 64 ≤ i := (nI_leI (a := 64) (b := i) (by first | decide | omega) (by first | decide | omega)).mp c1
        have hx17 : lp_X1_walk_17 S xf xt xp 64 0 xf (zUp S 11 (ra 64 (S 11) xf xp)) = (h, T17) := by
          rw [← hacc17]
          rw [show 64 - i = 0 by omega]; rfl
        have hz0 : (lp_X1_walk_17 S xf xt xp 64 0 xf (zUp S 11 (ra 64 (S 11) xf xp))).1 = h := (congrArg Prod.fst hx17)
        have hz1 : (lp_X1_walk_17 S xf xt xp 64 0 xf (zUp S 11 (ra 64 (S 11) xf xp))).2 = T17 := (congrArg Prod.snd hx17)
        subst hz0
        subst hz1
        rw [hQ]
        exact zRetV cx hrt hlk hS hP (by unfold g_X1_walk; rfl) dX1_walk_56
      · have nc1 : ¬ 64 ≤ i := fun z => c1 ((nI_leI (a := 64) (b := i) (by first | decide | omega) (by first | decide | omega)).mpr z)
        refine lv_iload cx.1 cx.2.1 dX1_walk_24 (lv_at hl 1 rfl) ?_
        refine lv_iload_n cx.1 cx.2.1 dX1_walk_26 rfl (lv_at hl 5 rfl) ?_
        refine lv_icmp_eq (tgt := 56) cx.1 cx.2.1 dX1_walk_27 (by decide) (fun c2 => ?_) (fun c2 => ?_)
        · have hx17 : lp_X1_walk_17 S xf xt xp 64 0 xf (zUp S 11 (ra 64 (S 11) xf xp)) = (h, T17) := by
            rw [← hacc17]
            cases hn : 64 - i with
            | zero => rfl
            | succ q => rw [lp_X1_walk_17]; rw [if_pos c2]
          have hz0 : (lp_X1_walk_17 S xf xt xp 64 0 xf (zUp S 11 (ra 64 (S 11) xf xp))).1 = h := (congrArg Prod.fst hx17)
          have hz1 : (lp_X1_walk_17 S xf xt xp 64 0 xf (zUp S 11 (ra 64 (S 11) xf xp))).2 = T17 := (congrArg Prod.snd hx17)
          subst hz0
          subst hz1
          rw [hQ]
          exact zRetV cx hrt hlk hS hP (by unfold g_X1_walk; rfl) dX1_walk_56
        · refine lv_aload_n cx.1 cx.2.1 dX1_walk_30 rfl (lv_at hl 3 rfl) ?_
          refine lv_iload cx.1 cx.2.1 dX1_walk_31 (lv_at hl 1 rfl) ?_
          refine lv_iload_n cx.1 cx.2.1 dX1_walk_33 rfl (lv_at hl 5 rfl) ?_
          refine zThenIx (v := f_X3_nextRoad T17 h xt) (S' := T17) hS (zRunV (As := [.int h, .int xt]) (rest := []) _ 2 cx (c_X3_nextRoad l dC dI cyI ad hI T17 h xt) gX1_walk_X3_nextRoad rfl ⟨rfl, rfl⟩ (by decide +kernel) ⟨Nat.le_of_ble_eq_true rfl, Nat.le_of_ble_eq_true rfl⟩ (xN_X ad 36) hXs hK hP hS 2 rfl rfl rfl rfl hl.1 rfl (Nat.le_of_ble_eq_true rfl) dX1_walk_34 ⟨Nat.zero_le _, Nat.zero_le _⟩) (fun H locs hP hS => ?_)
          refine lv_istore (lv' := [(5, .int (f_X3_nextRoad T17 h xt)), (6, .int (nI i)), (0, .ref (ad 4)), (1, .ref (ad 2)), (2, .int xf), (3, .int xt), (4, .int xp)]) cx.1 cx.2.1 dX1_walk_37 hl (by decide) rfl (fun ls hl => ?_)
          refine lv_aload_n cx.1 cx.2.1 dX1_walk_39 rfl (lv_at hl 2 rfl) ?_
          refine zGet (v := .ref (ad 28)) (own := RX1) cx hinX1 hK hP 4 rfl rfl 2 (by decide) (by decide +kernel) rfl rfl dX1_walk_40 ?_
          refine lv_iload cx.1 cx.2.1 dX1_walk_43 (lv_at hl 0 rfl) ?_
          refine lv_iload cx.1 cx.2.1 dX1_walk_45 (lv_at hl 6 rfl) ?_
          refine zThenVx (S' := zUp T17 11 (ra 64 (T17 11) (f_X3_nextRoad T17 h xt) xp)) hS (zRunV (As := [.int (f_X3_nextRoad T17 h xt), .int xp]) (rest := []) _ 2 cx (c_X4_add l dC dI cyI ad hI T17 11 (by decide) (f_X3_nextRoad T17 h xt) xp) gX1_walk_X4_add rfl ⟨rfl, rfl⟩ (by decide +kernel) ⟨Nat.le_of_ble_eq_true rfl, Nat.le_of_ble_eq_true rfl⟩ (xN_X ad 36) hXs hK hP hS 28 rfl rfl rfl rfl hl.1 rfl (Nat.le_of_ble_eq_true rfl) dX1_walk_47 ⟨Nat.zero_le _, Nat.zero_le _⟩) (fun H locs hP hS => ?_)
          refine lv_iinc (v := nI (i + 1)) (lv' := [(6, .int (nI (i + 1))), (5, .int (f_X3_nextRoad T17 h xt)), (0, .ref (ad 4)), (1, .ref (ad 2)), (2, .int xf), (3, .int xt), (4, .int xp)]) cx.1 cx.2.1 dX1_walk_50 hl (k := 1) rfl (nI_1 i) (by decide) rfl (fun ls hl => ?_)
          refine lv_goto (tgt := 17) cx.1 cx.2.1 dX1_walk_53 (by decide) ?_
          have ha17 : lp_X1_walk_17 S xf xt xp (64 - (i + 1)) (i + 1) (f_X3_nextRoad T17 h xt) (zUp T17 11 (ra 64 (T17 11) (f_X3_nextRoad T17 h xt) xp)) = lp_X1_walk_17 S xf xt xp 64 0 xf (zUp S 11 (ra 64 (S 11) xf xp)) := by
            rw [← hacc17, show 64 - i = (64 - (i + 1)) + 1 by omega]
            conv => rhs; rw [lp_X1_walk_17]
            rw [if_neg c2]
          exact ih17 (i + 1) (f_X3_nextRoad T17 h xt) (zUp T17 11 (ra 64 (T17 11) (f_X3_nextRoad T17 h xt) xp)) (by omega) ha17  (by omega) _ _ ls hP hS (lv_sub hl [0, 1, 2, 3, 4, 5, 6] rfl)
  exact lp17 (64 - 0 + 1) 0 xf (zUp S 11 (ra 64 (S 11) xf xp)) (by omega) (by rw [Nat.sub_zero])  (Nat.lt_succ_self _) _ _ ls hP hS (lv_sub hl [0, 1, 2, 3, 4, 5, 6] rfl)

def f_X1_placedAt (S : zS) (xc : Int32) : Int32 := rg 64 (S 9) xc
set_option maxHeartbeats 4000000 in
set_option maxRecDepth 100000 in
theorem c_X1_placedAt (l : Launch) (dC : Nat → ClassId) (dI : Nat → Nat → Nat) (cyI : ClassId) (ad : Nat → Nat) (hI : zI ad 36) (S : zS) (xc : Int32) : zMi l (dC, dI) [(cyI, .int)] ad 36 xN (cw cyI ad) yX1_placedAt wsX1_placedAt ({ frames := 1, cells := 0, slots := 0, locals := 21 } : Room) [.ref (ad 4), .int xc] S (fun v T => v = f_X1_placedAt S xc ∧ T = S) := by
  refine zStartI (by decide) rfl (Nat.le_of_ble_eq_true rfl) ?_
  intro p e s m args below meth c ls cx hrt hlk hP hK hXs hl
  have hl : lv_has ls 2 [(0, .ref (ad 4)), (1, .int xc)] := hl
  have hS : va_S (zA ad 36 s.heap.size) s.heap s.heap [] := va_S.rf
  have hinX1 : ∀ w ∈ u_ws RX1 TX1 7, w ∈ wsX1_placedAt := by decide +kernel
  refine lv_aload_n cx.1 cx.2.1 dX1_placedAt_0 rfl (lv_at hl 0 rfl) ?_
  refine zGet (v := .ref (ad 24)) (own := RX1) cx hinX1 hK hP 4 rfl rfl 0 (by decide) (by decide +kernel) rfl rfl dX1_placedAt_1 ?_
  refine lv_iload_n cx.1 cx.2.1 dX1_placedAt_4 rfl (lv_at hl 1 rfl) ?_
  refine zThenIx (v := rg 64 (S 9) xc) (S' := S) hS (zRunV (As := [.int xc]) (rest := []) _ 1 cx (c_X4_get l dC dI cyI ad hI S 9 (by decide) xc) gX1_placedAt_X4_get rfl ⟨rfl, rfl⟩ (by decide +kernel) ⟨Nat.le_of_ble_eq_true rfl, Nat.le_of_ble_eq_true rfl⟩ (xN_X ad 36) hXs hK hP hS 24 rfl rfl rfl rfl hl.1 rfl (Nat.le_of_ble_eq_true rfl) dX1_placedAt_5 ⟨Nat.zero_le _, Nat.zero_le _⟩) (fun H locs hP hS => ?_)
  exact zRetI cx hrt hlk rfl hS hP ⟨(by unfold f_X1_placedAt; rfl), rfl⟩ dX1_placedAt_8

def f_X1_trafficOn (S : zS) (xc : Int32) : Int32 := rg 64 (S 11) xc
set_option maxHeartbeats 4000000 in
set_option maxRecDepth 100000 in
theorem c_X1_trafficOn (l : Launch) (dC : Nat → ClassId) (dI : Nat → Nat → Nat) (cyI : ClassId) (ad : Nat → Nat) (hI : zI ad 36) (S : zS) (xc : Int32) : zMi l (dC, dI) [(cyI, .int)] ad 36 xN (cw cyI ad) yX1_trafficOn wsX1_trafficOn ({ frames := 1, cells := 0, slots := 0, locals := 21 } : Room) [.ref (ad 4), .int xc] S (fun v T => v = f_X1_trafficOn S xc ∧ T = S) := by
  refine zStartI (by decide) rfl (Nat.le_of_ble_eq_true rfl) ?_
  intro p e s m args below meth c ls cx hrt hlk hP hK hXs hl
  have hl : lv_has ls 2 [(0, .ref (ad 4)), (1, .int xc)] := hl
  have hS : va_S (zA ad 36 s.heap.size) s.heap s.heap [] := va_S.rf
  have hinX1 : ∀ w ∈ u_ws RX1 TX1 7, w ∈ wsX1_trafficOn := by decide +kernel
  refine lv_aload_n cx.1 cx.2.1 dX1_trafficOn_0 rfl (lv_at hl 0 rfl) ?_
  refine zGet (v := .ref (ad 28)) (own := RX1) cx hinX1 hK hP 4 rfl rfl 2 (by decide) (by decide +kernel) rfl rfl dX1_trafficOn_1 ?_
  refine lv_iload_n cx.1 cx.2.1 dX1_trafficOn_4 rfl (lv_at hl 1 rfl) ?_
  refine zThenIx (v := rg 64 (S 11) xc) (S' := S) hS (zRunV (As := [.int xc]) (rest := []) _ 1 cx (c_X4_get l dC dI cyI ad hI S 11 (by decide) xc) gX1_trafficOn_X4_get rfl ⟨rfl, rfl⟩ (by decide +kernel) ⟨Nat.le_of_ble_eq_true rfl, Nat.le_of_ble_eq_true rfl⟩ (xN_X ad 36) hXs hK hP hS 28 rfl rfl rfl rfl hl.1 rfl (Nat.le_of_ble_eq_true rfl) dX1_trafficOn_5 ⟨Nat.zero_le _, Nat.zero_le _⟩) (fun H locs hP hS => ?_)
  exact zRetI cx hrt hlk rfl hS hP ⟨(by unfold f_X1_trafficOn; rfl), rfl⟩ dX1_trafficOn_8

def lp_X1_goingBetween_2 (S : zS) (xh : Int32) (xt : Int32) : Nat → Nat → Int32
  | 0, i => 0
  | q + 1, i => if ¬ (rg 64 (S 12) (nI i)) = xh then (lp_X1_goingBetween_2 S xh xt q (i + 1) ) else (if ¬ (rg 64 (S 13) (nI i)) = xt then (lp_X1_goingBetween_2 S xh xt q (i + 1) ) else (rg 64 (S 14) (nI i)))
def f_X1_goingBetween (S : zS) (xh : Int32) (xt : Int32) : Int32 := lp_X1_goingBetween_2 S xh xt ((S 16 0).toNatClampNeg) 0
set_option maxHeartbeats 4000000 in
set_option maxRecDepth 100000 in
theorem c_X1_goingBetween (l : Launch) (dC : Nat → ClassId) (dI : Nat → Nat → Nat) (cyI : ClassId) (ad : Nat → Nat) (hI : zI ad 36) (S : zS) (xh : Int32) (xt : Int32) : zMi l (dC, dI) [(cyI, .int)] ad 36 xN (cw cyI ad) yX1_goingBetween wsX1_goingBetween ({ frames := 1, cells := 0, slots := 0, locals := 21 } : Room) [.ref (ad 4), .int xh, .int xt] S (fun v T => v = f_X1_goingBetween S xh xt ∧ T = S) := by
  refine zStartI (by decide) rfl (Nat.le_of_ble_eq_true rfl) ?_
  intro p e s m args below meth c ls cx hrt hlk hP hK hXs hl
  have hl : lv_has ls 4 [(0, .ref (ad 4)), (1, .int xh), (2, .int xt)] := hl
  have hS : va_S (zA ad 36 s.heap.size) s.heap s.heap [] := va_S.rf
  have hinX1 : ∀ w ∈ u_ws RX1 TX1 7, w ∈ wsX1_goingBetween := by decide +kernel
  obtain ⟨Q, hQ⟩ : ∃ Q, Q = MQ below (zQi (dC, dI) (cw cyI ad) (fun v T => v = f_X1_goingBetween S xh xt ∧ T = S) (zA ad 36 s.heap.size)) args s 0 0 (zA ad 36 s.heap.size) := ⟨_, rfl⟩
  rw [← hQ]
  refine lv_iconst (v := 0) cx.1 cx.2.1 dX1_goingBetween_0 (by decide) ?_
  refine lv_istore_n (lv' := [(3, .int 0), (0, .ref (ad 4)), (1, .int xh), (2, .int xt)]) cx.1 cx.2.1 dX1_goingBetween_1 rfl hl (by decide) rfl (fun ls hl => ?_)
  have hbN : (S 16 0).toNatClampNeg < 2 ^ 31 := clamp_lt _
  have lp2 : ∀ (fu i : Nat)  (hi2 : i ≤ (S 16 0).toNatClampNeg) (hacc2 : lp_X1_goingBetween_2 S xh xt ((S 16 0).toNatClampNeg - i) i  = lp_X1_goingBetween_2 S xh xt ((S 16 0).toNatClampNeg) 0)  (_ : (S 16 0).toNatClampNeg - i < fu) (H : Heap) (locs : List Loc) (ls : Array Slot), va_P (dC, dI) vwCl (cw cyI ad S) H → va_S (zA ad 36 s.heap.size) s.heap H locs → lv_has ls 4 [(3, .int (nI i)), (0, .ref (ad 4)), (1, .int xh), (2, .int xt)] → W p l e (headSpec wsX1_goingBetween ({ frames := 1, cells := 0, slots := 0, locals := 21 } : Room)).room s m args below meth c H locs 0 0 Q (F0 m 2 ls []) := by
    intro fu
    induction fu with
    | zero => intro i  hi2 hacc2  hm; exact absurd hm (Nat.not_lt_zero _)
    | succ fu ih2 =>
      intro i  hi2 hacc2  hm H locs ls hP hS hl
      refine lv_iload_n cx.1 cx.2.1 dX1_goingBetween_2 rfl (lv_at hl 0 rfl) ?_
      refine lv_aload_n cx.1 cx.2.1 dX1_goingBetween_3 rfl (lv_at hl 1 rfl) ?_
      refine zGet (v := .int (S 16 0)) (own := RX1) cx hinX1 hK hP 4 rfl rfl 6 (by decide) (by decide +kernel) rfl rfl dX1_goingBetween_4 ?_
      rw [show S 16 0 = S 16 0 from rfl]
      refine lv_icmp_ge (tgt := 49) cx.1 cx.2.1 dX1_goingBetween_7 (by decide) (fun c1 => ?_) (fun c1 => ?_)
      · have nc1 : (S 16 0).toNatClampNeg ≤ i := (nI_leC (x := S 16 0) (i := i) (by omega)).mp c1
        refine lv_iconst (v := 0) cx.1 cx.2.1 dX1_goingBetween_49 (by decide) ?_
        rw [hQ]
        exact zRetI cx hrt hlk rfl hS hP ⟨(by unfold f_X1_goingBetween; rw [← hacc2]; rw [show (S 16 0).toNatClampNeg - i = 0 by omega]; rfl), rfl⟩ dX1_goingBetween_50
      · have nc1 : ¬ (S 16 0).toNatClampNeg ≤ i := fun z => c1 ((nI_leC (x := S 16 0) (i := i) (by omega)).mpr z)
        refine lv_aload_n cx.1 cx.2.1 dX1_goingBetween_10 rfl (lv_at hl 1 rfl) ?_
        refine zGet (v := .ref (ad 30)) (own := RX1) cx hinX1 hK hP 4 rfl rfl 3 (by decide) (by decide +kernel) rfl rfl dX1_goingBetween_11 ?_
        refine lv_iload_n cx.1 cx.2.1 dX1_goingBetween_14 rfl (lv_at hl 0 rfl) ?_
        refine zThenIx (v := rg 64 (S 12) (nI i)) (S' := S) hS (zRunV (As := [.int (nI i)]) (rest := []) _ 1 cx (c_X4_get l dC dI cyI ad hI S 12 (by decide) (nI i)) gX1_goingBetween_X4_get rfl ⟨rfl, rfl⟩ (by decide +kernel) ⟨Nat.le_of_ble_eq_true rfl, Nat.le_of_ble_eq_true rfl⟩ (xN_X ad 36) hXs hK hP hS 30 rfl rfl rfl rfl hl.1 rfl (Nat.le_of_ble_eq_true rfl) dX1_goingBetween_15 ⟨Nat.zero_le _, Nat.zero_le _⟩) (fun H locs hP hS => ?_)
        refine lv_iload_n cx.1 cx.2.1 dX1_goingBetween_18 rfl (lv_at hl 2 rfl) ?_
        refine lv_icmp_ne (tgt := 43) cx.1 cx.2.1 dX1_goingBetween_19 (by decide) (fun c2 => ?_) (fun c2 => ?_)
        · refine lv_iinc (v := nI (i + 1)) (lv' := [(3, .int (nI (i + 1))), (0, .ref (ad 4)), (1, .int xh), (2, .int xt)]) cx.1 cx.2.1 dX1_goingBetween_43 hl (k := 0) rfl (nI_1 i) (by decide) rfl (fun ls hl => ?_)
          refine lv_goto (tgt := 2) cx.1 cx.2.1 dX1_goingBetween_46 (by decide) ?_
          have ha2 : lp_X1_goingBetween_2 S xh xt ((S 16 0).toNatClampNeg - (i + 1)) (i + 1)  = lp_X1_goingBetween_2 S xh xt ((S 16 0).toNatClampNeg) 0 := by
            rw [← hacc2, show (S 16 0).toNatClampNeg - i = ((S 16 0).toNatClampNeg - (i + 1)) + 1 by omega]
            conv => rhs; rw [lp_X1_goingBetween_2]
            rw [if_pos c2]
          exact ih2 (i + 1)  (by omega) ha2  (by omega) _ _ ls hP hS (lv_sub hl [0, 1, 2, 3] rfl)
        · refine lv_aload_n cx.1 cx.2.1 dX1_goingBetween_22 rfl (lv_at hl 1 rfl) ?_
          refine zGet (v := .ref (ad 32)) (own := RX1) cx hinX1 hK hP 4 rfl rfl 4 (by decide) (by decide +kernel) rfl rfl dX1_goingBetween_23 ?_
          refine lv_iload_n cx.1 cx.2.1 dX1_goingBetween_26 rfl (lv_at hl 0 rfl) ?_
          refine zThenIx (v := rg 64 (S 13) (nI i)) (S' := S) hS (zRunV (As := [.int (nI i)]) (rest := []) _ 1 cx (c_X4_get l dC dI cyI ad hI S 13 (by decide) (nI i)) gX1_goingBetween_X4_get rfl ⟨rfl, rfl⟩ (by decide +kernel) ⟨Nat.le_of_ble_eq_true rfl, Nat.le_of_ble_eq_true rfl⟩ (xN_X ad 36) hXs hK hP hS 32 rfl rfl rfl rfl hl.1 rfl (Nat.le_of_ble_eq_true rfl) dX1_goingBetween_27 ⟨Nat.zero_le _, Nat.zero_le _⟩) (fun H locs hP hS => ?_)
          refine lv_iload_n cx.1 cx.2.1 dX1_goingBetween_30 rfl (lv_at hl 3 rfl) ?_
          refine lv_icmp_ne (tgt := 43) cx.1 cx.2.1 dX1_goingBetween_31 (by decide) (fun c3 => ?_) (fun c3 => ?_)
          · refine lv_iinc (v := nI (i + 1)) (lv' := [(3, .int (nI (i + 1))), (0, .ref (ad 4)), (1, .int xh), (2, .int xt)]) cx.1 cx.2.1 dX1_goingBetween_43 hl (k := 0) rfl (nI_1 i) (by decide) rfl (fun ls hl => ?_)
            refine lv_goto (tgt := 2) cx.1 cx.2.1 dX1_goingBetween_46 (by decide) ?_
            have ha2 : lp_X1_goingBetween_2 S xh xt ((S 16 0).toNatClampNeg - (i + 1)) (i + 1)  = lp_X1_goingBetween_2 S xh xt ((S 16 0).toNatClampNeg) 0 := by
              rw [← hacc2, show (S 16 0).toNatClampNeg - i = ((S 16 0).toNatClampNeg - (i + 1)) + 1 by omega]
              conv => rhs; rw [lp_X1_goingBetween_2]
              rw [if_neg (not_not_intro c2), if_pos c3]
            exact ih2 (i + 1)  (by omega) ha2  (by omega) _ _ ls hP hS (lv_sub hl [0, 1, 2, 3] rfl)
          · refine lv_aload_n cx.1 cx.2.1 dX1_goingBetween_34 rfl (lv_at hl 1 rfl) ?_
            refine zGet (v := .ref (ad 34)) (own := RX1) cx hinX1 hK hP 4 rfl rfl 5 (by decide) (by decide +kernel) rfl rfl dX1_goingBetween_35 ?_
            refine lv_iload_n cx.1 cx.2.1 dX1_goingBetween_38 rfl (lv_at hl 0 rfl) ?_
            refine zThenIx (v := rg 64 (S 14) (nI i)) (S' := S) hS (zRunV (As := [.int (nI i)]) (rest := []) _ 1 cx (c_X4_get l dC dI cyI ad hI S 14 (by decide) (nI i)) gX1_goingBetween_X4_get rfl ⟨rfl, rfl⟩ (by decide +kernel) ⟨Nat.le_of_ble_eq_true rfl, Nat.le_of_ble_eq_true rfl⟩ (xN_X ad 36) hXs hK hP hS 34 rfl rfl rfl rfl hl.1 rfl (Nat.le_of_ble_eq_true rfl) dX1_goingBetween_39 ⟨Nat.zero_le _, Nat.zero_le _⟩) (fun H locs hP hS => ?_)
            rw [hQ]
            exact zRetI cx hrt hlk rfl hS hP ⟨(by unfold f_X1_goingBetween; rw [← hacc2]; rw [show (S 16 0).toNatClampNeg - i = ((S 16 0).toNatClampNeg - i - 1) + 1 by omega, lp_X1_goingBetween_2]; rw [if_neg (not_not_intro c2), if_neg (not_not_intro c3)]), rfl⟩ dX1_goingBetween_42
  exact lp2 ((S 16 0).toNatClampNeg - 0 + 1) 0  (by omega) (by rw [Nat.sub_zero])  (Nat.lt_succ_self _) _ _ ls hP hS (lv_sub hl [0, 1, 2, 3] rfl)

def bd_X1_allPlaced_4 (S : zS) (i : Nat) (sm : Int32) : Int32 := sm + (rg 64 (S 14) (nI i))
def lp_X1_allPlaced_4 (S : zS) (sm0 : Int32) : Nat → Int32
  | 0 => (sm0)
  | q + 1 => bd_X1_allPlaced_4 S q (lp_X1_allPlaced_4 S sm0 q)
def f_X1_allPlaced (S : zS)  : Int32 := (lp_X1_allPlaced_4 S 0 ((S 16 0).toNatClampNeg))
set_option maxHeartbeats 4000000 in
set_option maxRecDepth 100000 in
theorem c_X1_allPlaced (l : Launch) (dC : Nat → ClassId) (dI : Nat → Nat → Nat) (cyI : ClassId) (ad : Nat → Nat) (hI : zI ad 36) (S : zS)  : zMi l (dC, dI) [(cyI, .int)] ad 36 xN (cw cyI ad) yX1_allPlaced wsX1_allPlaced ({ frames := 1, cells := 0, slots := 0, locals := 21 } : Room) [.ref (ad 4)] S (fun v T => v = f_X1_allPlaced S ∧ T = S) := by
  refine zStartI (by decide) rfl (Nat.le_of_ble_eq_true rfl) ?_
  intro p e s m args below meth c ls cx hrt hlk hP hK hXs hl
  have hl : lv_has ls 3 [(0, .ref (ad 4))] := hl
  have hS : va_S (zA ad 36 s.heap.size) s.heap s.heap [] := va_S.rf
  have hinX1 : ∀ w ∈ u_ws RX1 TX1 7, w ∈ wsX1_allPlaced := by decide +kernel
  obtain ⟨Q, hQ⟩ : ∃ Q, Q = MQ below (zQi (dC, dI) (cw cyI ad) (fun v T => v = f_X1_allPlaced S ∧ T = S) (zA ad 36 s.heap.size)) args s 0 0 (zA ad 36 s.heap.size) := ⟨_, rfl⟩
  rw [← hQ]
  refine lv_iconst (v := 0) cx.1 cx.2.1 dX1_allPlaced_0 (by decide) ?_
  refine lv_istore_n (lv' := [(1, .int 0), (0, .ref (ad 4))]) cx.1 cx.2.1 dX1_allPlaced_1 rfl hl (by decide) rfl (fun ls hl => ?_)
  refine lv_iconst (v := 0) cx.1 cx.2.1 dX1_allPlaced_2 (by decide) ?_
  refine lv_istore_n (lv' := [(2, .int 0), (1, .int 0), (0, .ref (ad 4))]) cx.1 cx.2.1 dX1_allPlaced_3 rfl hl (by decide) rfl (fun ls hl => ?_)
  have hbN : (S 16 0).toNatClampNeg < 2 ^ 31 := clamp_lt _
  have lp4 : ∀ (fu i : Nat) (sm : Int32) (hi4 : i ≤ (S 16 0).toNatClampNeg) (hacc4 : lp_X1_allPlaced_4 S 0 i = sm)  (_ : (S 16 0).toNatClampNeg - i < fu) (H : Heap) (locs : List Loc) (ls : Array Slot), va_P (dC, dI) vwCl (cw cyI ad S) H → va_S (zA ad 36 s.heap.size) s.heap H locs → lv_has ls 3 [(2, .int (nI i)), (1, .int sm), (0, .ref (ad 4))] → W p l e (headSpec wsX1_allPlaced ({ frames := 1, cells := 0, slots := 0, locals := 21 } : Room)).room s m args below meth c H locs 0 0 Q (F0 m 4 ls []) := by
    intro fu
    induction fu with
    | zero => intro i sm hi4 hacc4  hm; exact absurd hm (Nat.not_lt_zero _)
    | succ fu ih4 =>
      intro i sm hi4 hacc4  hm H locs ls hP hS hl
      refine lv_iload_n cx.1 cx.2.1 dX1_allPlaced_4 rfl (lv_at hl 0 rfl) ?_
      refine lv_aload_n cx.1 cx.2.1 dX1_allPlaced_5 rfl (lv_at hl 2 rfl) ?_
      refine zGet (v := .int (S 16 0)) (own := RX1) cx hinX1 hK hP 4 rfl rfl 6 (by decide) (by decide +kernel) rfl rfl dX1_allPlaced_6 ?_
      rw [show S 16 0 = S 16 0 from rfl]
      refine lv_icmp_ge (tgt := 29) cx.1 cx.2.1 dX1_allPlaced_9 (by decide) (fun c1 => ?_) (fun c1 => ?_)
      · have nc1 : (S 16 0).toNatClampNeg ≤ i := (nI_leC (x := S 16 0) (i := i) (by omega)).mp c1
        obtain rfl : i = (S 16 0).toNatClampNeg := by omega
        subst hacc4
        refine lv_iload_n cx.1 cx.2.1 dX1_allPlaced_29 rfl (lv_at hl 1 rfl) ?_
        rw [hQ]
        exact zRetI cx hrt hlk rfl hS hP ⟨(by unfold f_X1_allPlaced; rfl), rfl⟩ dX1_allPlaced_30
      · have nc1 : ¬ (S 16 0).toNatClampNeg ≤ i := fun z => c1 ((nI_leC (x := S 16 0) (i := i) (by omega)).mpr z)
        refine lv_iload_n cx.1 cx.2.1 dX1_allPlaced_12 rfl (lv_at hl 1 rfl) ?_
        refine lv_aload_n cx.1 cx.2.1 dX1_allPlaced_13 rfl (lv_at hl 2 rfl) ?_
        refine zGet (v := .ref (ad 34)) (own := RX1) cx hinX1 hK hP 4 rfl rfl 5 (by decide) (by decide +kernel) rfl rfl dX1_allPlaced_14 ?_
        refine lv_iload_n cx.1 cx.2.1 dX1_allPlaced_17 rfl (lv_at hl 0 rfl) ?_
        refine zThenIx (v := rg 64 (S 14) (nI i)) (S' := S) hS (zRunV (As := [.int (nI i)]) (rest := [.int sm]) _ 1 cx (c_X4_get l dC dI cyI ad hI S 14 (by decide) (nI i)) gX1_allPlaced_X4_get rfl ⟨rfl, rfl⟩ (by decide +kernel) ⟨Nat.le_of_ble_eq_true rfl, Nat.le_of_ble_eq_true rfl⟩ (xN_X ad 36) hXs hK hP hS 34 rfl rfl rfl rfl hl.1 rfl (Nat.le_of_ble_eq_true rfl) dX1_allPlaced_18 ⟨Nat.zero_le _, Nat.zero_le _⟩) (fun H locs hP hS => ?_)
        refine lv_iadd cx.1 cx.2.1 dX1_allPlaced_21 ?_
        refine lv_istore_n (lv' := [(1, .int (sm + (rg 64 (S 14) (nI i)))), (2, .int (nI i)), (0, .ref (ad 4))]) cx.1 cx.2.1 dX1_allPlaced_22 rfl hl (by decide) rfl (fun ls hl => ?_)
        refine lv_iinc (v := nI (i + 1)) (lv' := [(2, .int (nI (i + 1))), (1, .int (sm + (rg 64 (S 14) (nI i)))), (0, .ref (ad 4))]) cx.1 cx.2.1 dX1_allPlaced_23 hl (k := 1) rfl (nI_1 i) (by decide) rfl (fun ls hl => ?_)
        refine lv_goto (tgt := 4) cx.1 cx.2.1 dX1_allPlaced_26 (by decide) ?_
        have ha4 : lp_X1_allPlaced_4 S 0 (i + 1) = sm + (rg 64 (S 14) (nI i)) := by
          show bd_X1_allPlaced_4 S i (lp_X1_allPlaced_4 S 0 i) = _
          rw [hacc4]
          unfold bd_X1_allPlaced_4
          rfl
        exact ih4 (i + 1) (sm + (rg 64 (S 14) (nI i))) (by omega) ha4  (by omega) _ _ ls hP hS (lv_sub hl [0, 1, 2] rfl)
  exact lp4 ((S 16 0).toNatClampNeg - 0 + 1) 0 0 (by omega) rfl  (Nat.lt_succ_self _) _ _ ls hP hS (lv_sub hl [0, 1, 2] rfl)

def bd_X1_find_23 (S : zS) (i : Nat) (T23 : zS) : zS := zUp T23 10 (rs 64 (T23 10) (nI i) (f_X0_peopleOf T23 (nI i)))
def lp_X1_find_23 (S : zS) (T230 : zS) : Nat → zS
  | 0 => (T230)
  | q + 1 => bd_X1_find_23 S q (lp_X1_find_23 S T230 q)
def bd_X1_find_50 (S : zS) (i : Nat) (T50 : zS) : zS := g_X1_place T50 (nI i)
def lp_X1_find_50 (S : zS) (T500 : zS) : Nat → zS
  | 0 => (T500)
  | q + 1 => bd_X1_find_50 S q (lp_X1_find_50 S T500 q)
def bd_X1_find_73 (S : zS) (i : Nat) (T73 : zS) : zS := g_X1_walk T73 (f_X3_roadOf T73 (rg 64 (T73 12) (nI i))) (f_X3_roadOf T73 (rg 64 (T73 13) (nI i))) (rg 64 (T73 14) (nI i))
def lp_X1_find_73 (S : zS) (T730 : zS) : Nat → zS
  | 0 => (T730)
  | q + 1 => bd_X1_find_73 S q (lp_X1_find_73 S T730 q)
def g_X1_find (S : zS)  : zS := (lp_X1_find_73 S (lp_X1_find_50 S (lp_X1_find_23 S (zUp (zUp (zUp S 9 (rf 64 (S 9) 0)) 11 (rf 64 (S 11) 0)) 16 (upd (S 16) 0 0)) 64) ((S 15 0).toNatClampNeg)) (((lp_X1_find_50 S (lp_X1_find_23 S (zUp (zUp (zUp S 9 (rf 64 (S 9) 0)) 11 (rf 64 (S 11) 0)) 16 (upd (S 16) 0 0)) 64) ((S 15 0).toNatClampNeg)) 16 0).toNatClampNeg))
theorem fr_bd_X1_find_73 (S : zS) (i : Nat) (T73 : zS) (r : Nat) (h10 : r ≠ 10) (h11 : r ≠ 11) (h12 : r ≠ 12) (h13 : r ≠ 13) (h14 : r ≠ 14) (h16 : r ≠ 16) (h9 : r ≠ 9) : (bd_X1_find_73 S i T73) r = T73 r := by
  unfold bd_X1_find_73
  (repeat' split) <;> simp [zUp, h10, h11, h12, h13, h14, h16, h9, fr_X1_place, fr_X1_walk]
theorem fr_lp_X1_find_73 (S : zS) (T730 : zS) (r : Nat) (h10 : r ≠ 10) (h11 : r ≠ 11) (h12 : r ≠ 12) (h13 : r ≠ 13) (h14 : r ≠ 14) (h16 : r ≠ 16) (h9 : r ≠ 9) : ∀ n, (lp_X1_find_73 S T730 n) r = T730 r
  | 0 => rfl
  | n + 1 => by
    show (bd_X1_find_73 S n (lp_X1_find_73 S T730 n)) r = _
    rw [fr_bd_X1_find_73 _ _ _ r h10 h11 h12 h13 h14 h16 h9]
    exact fr_lp_X1_find_73 S T730 r h10 h11 h12 h13 h14 h16 h9 n
theorem fr_bd_X1_find_50 (S : zS) (i : Nat) (T50 : zS) (r : Nat) (h10 : r ≠ 10) (h11 : r ≠ 11) (h12 : r ≠ 12) (h13 : r ≠ 13) (h14 : r ≠ 14) (h16 : r ≠ 16) (h9 : r ≠ 9) : (bd_X1_find_50 S i T50) r = T50 r := by
  unfold bd_X1_find_50
  (repeat' split) <;> simp [zUp, h10, h11, h12, h13, h14, h16, h9, fr_X1_place, fr_X1_walk, fr_lp_X1_find_73]
theorem fr_lp_X1_find_50 (S : zS) (T500 : zS) (r : Nat) (h10 : r ≠ 10) (h11 : r ≠ 11) (h12 : r ≠ 12) (h13 : r ≠ 13) (h14 : r ≠ 14) (h16 : r ≠ 16) (h9 : r ≠ 9) : ∀ n, (lp_X1_find_50 S T500 n) r = T500 r
  | 0 => rfl
  | n + 1 => by
    show (bd_X1_find_50 S n (lp_X1_find_50 S T500 n)) r = _
    rw [fr_bd_X1_find_50 _ _ _ r h10 h11 h12 h13 h14 h16 h9]
    exact fr_lp_X1_find_50 S T500 r h10 h11 h12 h13 h14 h16 h9 n
theorem fr_bd_X1_find_23 (S : zS) (i : Nat) (T23 : zS) (r : Nat) (h10 : r ≠ 10) (h11 : r ≠ 11) (h12 : r ≠ 12) (h13 : r ≠ 13) (h14 : r ≠ 14) (h16 : r ≠ 16) (h9 : r ≠ 9) : (bd_X1_find_23 S i T23) r = T23 r := by
  unfold bd_X1_find_23
  (repeat' split) <;> simp [zUp, h10, h11, h12, h13, h14, h16, h9, fr_X1_place, fr_X1_walk, fr_lp_X1_find_73, fr_lp_X1_find_50]
theorem fr_lp_X1_find_23 (S : zS) (T230 : zS) (r : Nat) (h10 : r ≠ 10) (h11 : r ≠ 11) (h12 : r ≠ 12) (h13 : r ≠ 13) (h14 : r ≠ 14) (h16 : r ≠ 16) (h9 : r ≠ 9) : ∀ n, (lp_X1_find_23 S T230 n) r = T230 r
  | 0 => rfl
  | n + 1 => by
    show (bd_X1_find_23 S n (lp_X1_find_23 S T230 n)) r = _
    rw [fr_bd_X1_find_23 _ _ _ r h10 h11 h12 h13 h14 h16 h9]
    exact fr_lp_X1_find_23 S T230 r h10 h11 h12 h13 h14 h16 h9 n
theorem fr_X1_find (S : zS)  (r : Nat) (h10 : r ≠ 10) (h11 : r ≠ 11) (h12 : r ≠ 12) (h13 : r ≠ 13) (h14 : r ≠ 14) (h16 : r ≠ 16) (h9 : r ≠ 9) : g_X1_find S  r = S r := by
  unfold g_X1_find
  (repeat' split) <;> simp [zUp, h10, h11, h12, h13, h14, h16, h9, fr_X1_place, fr_X1_walk, fr_lp_X1_find_73, fr_lp_X1_find_50, fr_lp_X1_find_23]
set_option maxHeartbeats 4000000 in
set_option maxRecDepth 100000 in
theorem c_X1_find (l : Launch) (dC : Nat → ClassId) (dI : Nat → Nat → Nat) (cyI : ClassId) (ad : Nat → Nat) (hI : zI ad 36) (S : zS)  : zMv l (dC, dI) [(cyI, .int)] ad 36 xN (cw cyI ad) yX1_find wsX1_find ({ frames := 4, cells := 0, slots := 0, locals := 94 } : Room) [.ref (ad 4), .ref (ad 1), .ref (ad 2)] S (fun T => T = g_X1_find S) := by
  refine zStartV (by decide) rfl (Nat.le_of_ble_eq_true rfl) ?_
  intro p e s m args below meth c ls cx hrt hlk hP hK hXs hl
  have hl : lv_has ls 6 [(0, .ref (ad 4)), (1, .ref (ad 1)), (2, .ref (ad 2))] := hl
  have hS : va_S (zA ad 36 s.heap.size) s.heap s.heap [] := va_S.rf
  have hinX1 : ∀ w ∈ u_ws RX1 TX1 7, w ∈ wsX1_find := by decide +kernel
  obtain ⟨Q, hQ⟩ : ∃ Q, Q = MQ below (zQv (dC, dI) (cw cyI ad) (fun T => T = g_X1_find S) (zA ad 36 s.heap.size)) args s 0 0 (zA ad 36 s.heap.size) := ⟨_, rfl⟩
  rw [← hQ]
  refine lv_aload_n cx.1 cx.2.1 dX1_find_0 rfl (lv_at hl 0 rfl) ?_
  refine zGet (v := .ref (ad 24)) (own := RX1) cx hinX1 hK hP 4 rfl rfl 0 (by decide) (by decide +kernel) rfl rfl dX1_find_1 ?_
  refine lv_iconst (v := 0) cx.1 cx.2.1 dX1_find_4 (by decide) ?_
  refine zThenVx (S' := zUp S 9 (rf 64 (S 9) 0)) hS (zRunV (As := [.int 0]) (rest := []) _ 1 cx (c_X4_fill l dC dI cyI ad hI S 9 (by decide) 0) gX1_find_X4_fill rfl ⟨rfl, rfl⟩ (by decide +kernel) ⟨Nat.le_of_ble_eq_true rfl, Nat.le_of_ble_eq_true rfl⟩ (xN_X ad 36) hXs hK hP hS 24 rfl rfl rfl rfl hl.1 rfl (Nat.le_of_ble_eq_true rfl) dX1_find_5 ⟨Nat.zero_le _, Nat.zero_le _⟩) (fun H locs hP hS => ?_)
  refine lv_aload_n cx.1 cx.2.1 dX1_find_8 rfl (lv_at hl 0 rfl) ?_
  refine zGet (v := .ref (ad 28)) (own := RX1) cx hinX1 hK hP 4 rfl rfl 2 (by decide) (by decide +kernel) rfl rfl dX1_find_9 ?_
  refine lv_iconst (v := 0) cx.1 cx.2.1 dX1_find_12 (by decide) ?_
  refine zThenVx (S' := zUp (zUp S 9 (rf 64 (S 9) 0)) 11 (rf 64 (S 11) 0)) hS (zRunV (As := [.int 0]) (rest := []) _ 1 cx (c_X4_fill l dC dI cyI ad hI (zUp S 9 (rf 64 (S 9) 0)) 11 (by decide) 0) gX1_find_X4_fill rfl ⟨rfl, rfl⟩ (by decide +kernel) ⟨Nat.le_of_ble_eq_true rfl, Nat.le_of_ble_eq_true rfl⟩ (xN_X ad 36) hXs hK hP hS 28 rfl rfl rfl rfl hl.1 rfl (Nat.le_of_ble_eq_true rfl) dX1_find_13 ⟨Nat.zero_le _, Nat.zero_le _⟩) (fun H locs hP hS => ?_)
  refine lv_aload_n cx.1 cx.2.1 dX1_find_16 rfl (lv_at hl 0 rfl) ?_
  refine lv_iconst (v := 0) cx.1 cx.2.1 dX1_find_17 (by decide) ?_
  refine zPut (v := .int 0) (own := RX1) (ty0 := tyX1) (ty := .int) cx hinX1 tyX1_ok nmX1 (cw_W cyI ad) hI hK hP hS 4 rfl rfl 6 (by decide) (by decide +kernel) rfl rfl (by decide +kernel) rfl rfl (Nat.le_of_ble_eq_true rfl) (zUp (zUp (zUp S 9 (rf 64 (S 9) 0)) 11 (rf 64 (S 11) 0)) 16 (upd (S 16) 0 0)) rfl dX1_find_18 (fun H locs hP hS => ?_)
  obtain ⟨N1, hN1⟩ : ∃ T : zS, T = zUp (zUp (zUp S 9 (rf 64 (S 9) 0)) 11 (rf 64 (S 11) 0)) 16 (upd (S 16) 0 0) := ⟨_, rfl⟩
  rw [← hN1] at hP
  refine lv_iconst (v := 0) cx.1 cx.2.1 dX1_find_21 (by decide) ?_
  refine lv_istore_n (lv' := [(3, .int 0), (0, .ref (ad 4)), (1, .ref (ad 1)), (2, .ref (ad 2))]) cx.1 cx.2.1 dX1_find_22 rfl hl (by decide) rfl (fun ls hl => ?_)
  subst hN1
  have lp23 : ∀ (fu i : Nat) (T23 : zS) (hi23 : i ≤ 64) (hacc23 : lp_X1_find_23 S (zUp (zUp (zUp S 9 (rf 64 (S 9) 0)) 11 (rf 64 (S 11) 0)) 16 (upd (S 16) 0 0)) i = T23)  (_ : 64 - i < fu) (H : Heap) (locs : List Loc) (ls : Array Slot), va_P (dC, dI) vwCl (cw cyI ad T23) H → va_S (zA ad 36 s.heap.size) s.heap H locs → lv_has ls 6 [(3, .int (nI i)), (0, .ref (ad 4)), (1, .ref (ad 1)), (2, .ref (ad 2))] → W p l e (headSpec wsX1_find ({ frames := 4, cells := 0, slots := 0, locals := 94 } : Room)).room s m args below meth c H locs 0 0 Q (F0 m 23 ls []) := by
    intro fu
    induction fu with
    | zero => intro i T23 hi23 hacc23  hm; exact absurd hm (Nat.not_lt_zero _)
    | succ fu ih23 =>
      intro i T23 hi23 hacc23  hm H locs ls hP hS hl
      refine lv_iload_n cx.1 cx.2.1 dX1_find_23 rfl (lv_at hl 0 rfl) ?_
      refine lv_bipush (v := 64) cx.1 cx.2.1 dX1_find_24 (by decide) ?_
      refine lv_icmp_ge (tgt := 48) cx.1 cx.2.1 dX1_find_26 (by decide) (fun c2 => ?_) (fun c2 => ?_)
      · have nc2 : 64 ≤ i := (nI_leI (a := 64) (b := i) (by first | decide | omega) (by first | decide | omega)).mp c2
        obtain rfl : i = 64 := by omega
        subst hacc23
        refine lv_iconst (v := 0) cx.1 cx.2.1 dX1_find_48 (by decide) ?_
        refine lv_istore_n (lv' := [(3, .int 0), (0, .ref (ad 4)), (1, .ref (ad 1)), (2, .ref (ad 2))]) cx.1 cx.2.1 dX1_find_49 rfl hl (by decide) rfl (fun ls hl => ?_)
        have hb50 : (S 15 0).toNatClampNeg < 2 ^ 31 := clamp_lt _
        have lp50 : ∀ (fu i : Nat) (T50 : zS) (hi50 : i ≤ (S 15 0).toNatClampNeg) (hacc50 : lp_X1_find_50 S (lp_X1_find_23 S (zUp (zUp (zUp S 9 (rf 64 (S 9) 0)) 11 (rf 64 (S 11) 0)) 16 (upd (S 16) 0 0)) 64) i = T50) (hT50 : T50 15 0 = S 15 0) (_ : (S 15 0).toNatClampNeg - i < fu) (H : Heap) (locs : List Loc) (ls : Array Slot), va_P (dC, dI) vwCl (cw cyI ad T50) H → va_S (zA ad 36 s.heap.size) s.heap H locs → lv_has ls 6 [(3, .int (nI i)), (0, .ref (ad 4)), (1, .ref (ad 1)), (2, .ref (ad 2))] → W p l e (headSpec wsX1_find ({ frames := 4, cells := 0, slots := 0, locals := 94 } : Room)).room s m args below meth c H locs 0 0 Q (F0 m 50 ls []) := by
          intro fu
          induction fu with
          | zero => intro i T50 hi50 hacc50 hT50 hm; exact absurd hm (Nat.not_lt_zero _)
          | succ fu ih50 =>
            intro i T50 hi50 hacc50 hT50 hm H locs ls hP hS hl
            refine lv_iload_n cx.1 cx.2.1 dX1_find_50 rfl (lv_at hl 0 rfl) ?_
            refine lv_aload_n cx.1 cx.2.1 dX1_find_51 rfl (lv_at hl 3 rfl) ?_
            refine zThenIx (v := f_X3_count T50) (S' := T50) hS (zRunV (As := []) (rest := [.int (nI i)]) _ 0 cx (c_X3_count l dC dI cyI ad hI T50 ) gX1_find_X3_count rfl ⟨rfl, rfl⟩ (by decide +kernel) ⟨Nat.le_of_ble_eq_true rfl, Nat.le_of_ble_eq_true rfl⟩ (xN_X ad 36) hXs hK hP hS 2 rfl rfl rfl rfl hl.1 rfl (Nat.le_of_ble_eq_true rfl) dX1_find_52 ⟨Nat.zero_le _, Nat.zero_le _⟩) (fun H locs hP hS => ?_)
            rw [(show f_X3_count T50 = S 15 0 from hT50)]
            refine lv_icmp_ge (tgt := 71) cx.1 cx.2.1 dX1_find_55 (by decide) (fun c3 => ?_) (fun c3 => ?_)
            · have nc3 : (S 15 0).toNatClampNeg ≤ i := (nI_leC (x := S 15 0) (i := i) (by omega)).mp c3
              obtain rfl : i = (S 15 0).toNatClampNeg := by omega
              subst hacc50
              refine lv_iconst (v := 0) cx.1 cx.2.1 dX1_find_71 (by decide) ?_
              refine lv_istore_n (lv' := [(3, .int 0), (0, .ref (ad 4)), (1, .ref (ad 1)), (2, .ref (ad 2))]) cx.1 cx.2.1 dX1_find_72 rfl hl (by decide) rfl (fun ls hl => ?_)
              have hb73 : ((lp_X1_find_50 S (lp_X1_find_23 S (zUp (zUp (zUp S 9 (rf 64 (S 9) 0)) 11 (rf 64 (S 11) 0)) 16 (upd (S 16) 0 0)) 64) ((S 15 0).toNatClampNeg)) 16 0).toNatClampNeg < 2 ^ 31 := clamp_lt _
              have lp73 : ∀ (fu i : Nat) (T73 : zS) (hi73 : i ≤ ((lp_X1_find_50 S (lp_X1_find_23 S (zUp (zUp (zUp S 9 (rf 64 (S 9) 0)) 11 (rf 64 (S 11) 0)) 16 (upd (S 16) 0 0)) 64) ((S 15 0).toNatClampNeg)) 16 0).toNatClampNeg) (hacc73 : lp_X1_find_73 S (lp_X1_find_50 S (lp_X1_find_23 S (zUp (zUp (zUp S 9 (rf 64 (S 9) 0)) 11 (rf 64 (S 11) 0)) 16 (upd (S 16) 0 0)) 64) ((S 15 0).toNatClampNeg)) i = T73) (hT73 : T73 16 0 = (lp_X1_find_50 S (lp_X1_find_23 S (zUp (zUp (zUp S 9 (rf 64 (S 9) 0)) 11 (rf 64 (S 11) 0)) 16 (upd (S 16) 0 0)) 64) ((S 15 0).toNatClampNeg)) 16 0) (_ : ((lp_X1_find_50 S (lp_X1_find_23 S (zUp (zUp (zUp S 9 (rf 64 (S 9) 0)) 11 (rf 64 (S 11) 0)) 16 (upd (S 16) 0 0)) 64) ((S 15 0).toNatClampNeg)) 16 0).toNatClampNeg - i < fu) (H : Heap) (locs : List Loc) (ls : Array Slot), va_P (dC, dI) vwCl (cw cyI ad T73) H → va_S (zA ad 36 s.heap.size) s.heap H locs → lv_has ls 6 [(3, .int (nI i)), (0, .ref (ad 4)), (1, .ref (ad 1)), (2, .ref (ad 2))] → W p l e (headSpec wsX1_find ({ frames := 4, cells := 0, slots := 0, locals := 94 } : Room)).room s m args below meth c H locs 0 0 Q (F0 m 73 ls []) := by
                intro fu
                induction fu with
                | zero => intro i T73 hi73 hacc73 hT73 hm; exact absurd hm (Nat.not_lt_zero _)
                | succ fu ih73 =>
                  intro i T73 hi73 hacc73 hT73 hm H locs ls hP hS hl
                  refine lv_iload_n cx.1 cx.2.1 dX1_find_73 rfl (lv_at hl 0 rfl) ?_
                  refine lv_aload_n cx.1 cx.2.1 dX1_find_74 rfl (lv_at hl 1 rfl) ?_
                  refine zGet (v := .int (T73 16 0)) (own := RX1) cx hinX1 hK hP 4 rfl rfl 6 (by decide) (by decide +kernel) rfl rfl dX1_find_75 ?_
                  rw [hT73]
                  refine lv_icmp_ge (tgt := 132) cx.1 cx.2.1 dX1_find_78 (by decide) (fun c4 => ?_) (fun c4 => ?_)
                  · have nc4 : ((lp_X1_find_50 S (lp_X1_find_23 S (zUp (zUp (zUp S 9 (rf 64 (S 9) 0)) 11 (rf 64 (S 11) 0)) 16 (upd (S 16) 0 0)) 64) ((S 15 0).toNatClampNeg)) 16 0).toNatClampNeg ≤ i := (nI_leC (x := ((lp_X1_find_50 S (lp_X1_find_23 S (zUp (zUp (zUp S 9 (rf 64 (S 9) 0)) 11 (rf 64 (S 11) 0)) 16 (upd (S 16) 0 0)) 64) ((S 15 0).toNatClampNeg)) 16 0)) (i := i) (by omega)).mp c4
                    obtain rfl : i = ((lp_X1_find_50 S (lp_X1_find_23 S (zUp (zUp (zUp S 9 (rf 64 (S 9) 0)) 11 (rf 64 (S 11) 0)) 16 (upd (S 16) 0 0)) 64) ((S 15 0).toNatClampNeg)) 16 0).toNatClampNeg := by omega
                    subst hacc73
                    rw [hQ]
                    exact zRetV cx hrt hlk hS hP (by unfold g_X1_find; rfl) dX1_find_132
                  · have nc4 : ¬ ((lp_X1_find_50 S (lp_X1_find_23 S (zUp (zUp (zUp S 9 (rf 64 (S 9) 0)) 11 (rf 64 (S 11) 0)) 16 (upd (S 16) 0 0)) 64) ((S 15 0).toNatClampNeg)) 16 0).toNatClampNeg ≤ i := fun z => c4 ((nI_leC (x := ((lp_X1_find_50 S (lp_X1_find_23 S (zUp (zUp (zUp S 9 (rf 64 (S 9) 0)) 11 (rf 64 (S 11) 0)) 16 (upd (S 16) 0 0)) 64) ((S 15 0).toNatClampNeg)) 16 0)) (i := i) (by omega)).mpr z)
                    refine lv_aload_n cx.1 cx.2.1 dX1_find_81 rfl (lv_at hl 3 rfl) ?_
                    refine lv_aload_n cx.1 cx.2.1 dX1_find_82 rfl (lv_at hl 1 rfl) ?_
                    refine zGet (v := .ref (ad 30)) (own := RX1) cx hinX1 hK hP 4 rfl rfl 3 (by decide) (by decide +kernel) rfl rfl dX1_find_83 ?_
                    refine lv_iload_n cx.1 cx.2.1 dX1_find_86 rfl (lv_at hl 0 rfl) ?_
                    refine zThenIx (v := rg 64 (T73 12) (nI i)) (S' := T73) hS (zRunV (As := [.int (nI i)]) (rest := [.ref (ad 2)]) _ 1 cx (c_X4_get l dC dI cyI ad hI T73 12 (by decide) (nI i)) gX1_find_X4_get rfl ⟨rfl, rfl⟩ (by decide +kernel) ⟨Nat.le_of_ble_eq_true rfl, Nat.le_of_ble_eq_true rfl⟩ (xN_X ad 36) hXs hK hP hS 30 rfl rfl rfl rfl hl.1 rfl (Nat.le_of_ble_eq_true rfl) dX1_find_87 ⟨Nat.zero_le _, Nat.zero_le _⟩) (fun H locs hP hS => ?_)
                    refine zThenIx (v := f_X3_roadOf T73 (rg 64 (T73 12) (nI i))) (S' := T73) hS (zRunV (As := [.int (rg 64 (T73 12) (nI i))]) (rest := []) _ 1 cx (c_X3_roadOf l dC dI cyI ad hI T73 (rg 64 (T73 12) (nI i))) gX1_find_X3_roadOf rfl ⟨rfl, rfl⟩ (by decide +kernel) ⟨Nat.le_of_ble_eq_true rfl, Nat.le_of_ble_eq_true rfl⟩ (xN_X ad 36) hXs hK hP hS 2 rfl rfl rfl rfl hl.1 rfl (Nat.le_of_ble_eq_true rfl) dX1_find_90 ⟨Nat.zero_le _, Nat.zero_le _⟩) (fun H locs hP hS => ?_)
                    refine lv_istore (lv' := [(4, .int (f_X3_roadOf T73 (rg 64 (T73 12) (nI i)))), (3, .int (nI i)), (0, .ref (ad 4)), (1, .ref (ad 1)), (2, .ref (ad 2))]) cx.1 cx.2.1 dX1_find_93 hl (by decide) rfl (fun ls hl => ?_)
                    refine lv_aload_n cx.1 cx.2.1 dX1_find_95 rfl (lv_at hl 4 rfl) ?_
                    refine lv_aload_n cx.1 cx.2.1 dX1_find_96 rfl (lv_at hl 2 rfl) ?_
                    refine zGet (v := .ref (ad 32)) (own := RX1) cx hinX1 hK hP 4 rfl rfl 4 (by decide) (by decide +kernel) rfl rfl dX1_find_97 ?_
                    refine lv_iload_n cx.1 cx.2.1 dX1_find_100 rfl (lv_at hl 1 rfl) ?_
                    refine zThenIx (v := rg 64 (T73 13) (nI i)) (S' := T73) hS (zRunV (As := [.int (nI i)]) (rest := [.ref (ad 2)]) _ 1 cx (c_X4_get l dC dI cyI ad hI T73 13 (by decide) (nI i)) gX1_find_X4_get rfl ⟨rfl, rfl⟩ (by decide +kernel) ⟨Nat.le_of_ble_eq_true rfl, Nat.le_of_ble_eq_true rfl⟩ (xN_X ad 36) hXs hK hP hS 32 rfl rfl rfl rfl hl.1 rfl (Nat.le_of_ble_eq_true rfl) dX1_find_101 ⟨Nat.zero_le _, Nat.zero_le _⟩) (fun H locs hP hS => ?_)
                    refine zThenIx (v := f_X3_roadOf T73 (rg 64 (T73 13) (nI i))) (S' := T73) hS (zRunV (As := [.int (rg 64 (T73 13) (nI i))]) (rest := []) _ 1 cx (c_X3_roadOf l dC dI cyI ad hI T73 (rg 64 (T73 13) (nI i))) gX1_find_X3_roadOf rfl ⟨rfl, rfl⟩ (by decide +kernel) ⟨Nat.le_of_ble_eq_true rfl, Nat.le_of_ble_eq_true rfl⟩ (xN_X ad 36) hXs hK hP hS 2 rfl rfl rfl rfl hl.1 rfl (Nat.le_of_ble_eq_true rfl) dX1_find_104 ⟨Nat.zero_le _, Nat.zero_le _⟩) (fun H locs hP hS => ?_)
                    refine lv_istore (lv' := [(5, .int (f_X3_roadOf T73 (rg 64 (T73 13) (nI i)))), (4, .int (f_X3_roadOf T73 (rg 64 (T73 12) (nI i)))), (3, .int (nI i)), (0, .ref (ad 4)), (1, .ref (ad 1)), (2, .ref (ad 2))]) cx.1 cx.2.1 dX1_find_107 hl (by decide) rfl (fun ls hl => ?_)
                    refine lv_aload_n cx.1 cx.2.1 dX1_find_109 rfl (lv_at hl 3 rfl) ?_
                    refine lv_aload_n cx.1 cx.2.1 dX1_find_110 rfl (lv_at hl 5 rfl) ?_
                    refine lv_iload cx.1 cx.2.1 dX1_find_111 (lv_at hl 1 rfl) ?_
                    refine lv_iload cx.1 cx.2.1 dX1_find_113 (lv_at hl 0 rfl) ?_
                    refine lv_aload_n cx.1 cx.2.1 dX1_find_115 rfl (lv_at hl 3 rfl) ?_
                    refine zGet (v := .ref (ad 34)) (own := RX1) cx hinX1 hK hP 4 rfl rfl 5 (by decide) (by decide +kernel) rfl rfl dX1_find_116 ?_
                    refine lv_iload_n cx.1 cx.2.1 dX1_find_119 rfl (lv_at hl 2 rfl) ?_
                    refine zThenIx (v := rg 64 (T73 14) (nI i)) (S' := T73) hS (zRunV (As := [.int (nI i)]) (rest := [.int (f_X3_roadOf T73 (rg 64 (T73 13) (nI i))), .int (f_X3_roadOf T73 (rg 64 (T73 12) (nI i))), .ref (ad 2), .ref (ad 4)]) _ 1 cx (c_X4_get l dC dI cyI ad hI T73 14 (by decide) (nI i)) gX1_find_X4_get rfl ⟨rfl, rfl⟩ (by decide +kernel) ⟨Nat.le_of_ble_eq_true rfl, Nat.le_of_ble_eq_true rfl⟩ (xN_X ad 36) hXs hK hP hS 34 rfl rfl rfl rfl hl.1 rfl (Nat.le_of_ble_eq_true rfl) dX1_find_120 ⟨Nat.zero_le _, Nat.zero_le _⟩) (fun H locs hP hS => ?_)
                    refine zThenVx (S' := g_X1_walk T73 (f_X3_roadOf T73 (rg 64 (T73 12) (nI i))) (f_X3_roadOf T73 (rg 64 (T73 13) (nI i))) (rg 64 (T73 14) (nI i))) hS (zRunV (As := [.ref (ad 2), .int (f_X3_roadOf T73 (rg 64 (T73 12) (nI i))), .int (f_X3_roadOf T73 (rg 64 (T73 13) (nI i))), .int (rg 64 (T73 14) (nI i))]) (rest := []) _ 4 cx (c_X1_walk l dC dI cyI ad hI T73 (f_X3_roadOf T73 (rg 64 (T73 12) (nI i))) (f_X3_roadOf T73 (rg 64 (T73 13) (nI i))) (rg 64 (T73 14) (nI i))) gX1_find_X1_walk rfl ⟨rfl, rfl⟩ (by decide +kernel) ⟨Nat.le_of_ble_eq_true rfl, Nat.le_of_ble_eq_true rfl⟩ (xN_X ad 36) hXs hK hP hS 4 rfl rfl rfl rfl hl.1 rfl (Nat.le_of_ble_eq_true rfl) dX1_find_123 ⟨Nat.zero_le _, Nat.zero_le _⟩) (fun H locs hP hS => ?_)
                    refine lv_iinc (v := nI (i + 1)) (lv' := [(3, .int (nI (i + 1))), (5, .int (f_X3_roadOf T73 (rg 64 (T73 13) (nI i)))), (4, .int (f_X3_roadOf T73 (rg 64 (T73 12) (nI i)))), (0, .ref (ad 4)), (1, .ref (ad 1)), (2, .ref (ad 2))]) cx.1 cx.2.1 dX1_find_126 hl (k := 2) rfl (nI_1 i) (by decide) rfl (fun ls hl => ?_)
                    refine lv_goto (tgt := 73) cx.1 cx.2.1 dX1_find_129 (by decide) ?_
                    have ha73 : lp_X1_find_73 S (lp_X1_find_50 S (lp_X1_find_23 S (zUp (zUp (zUp S 9 (rf 64 (S 9) 0)) 11 (rf 64 (S 11) 0)) 16 (upd (S 16) 0 0)) 64) ((S 15 0).toNatClampNeg)) (i + 1) = g_X1_walk T73 (f_X3_roadOf T73 (rg 64 (T73 12) (nI i))) (f_X3_roadOf T73 (rg 64 (T73 13) (nI i))) (rg 64 (T73 14) (nI i)) := by
                      show bd_X1_find_73 S i (lp_X1_find_73 S (lp_X1_find_50 S (lp_X1_find_23 S (zUp (zUp (zUp S 9 (rf 64 (S 9) 0)) 11 (rf 64 (S 11) 0)) 16 (upd (S 16) 0 0)) 64) ((S 15 0).toNatClampNeg)) i) = _
                      rw [hacc73]
                      unfold bd_X1_find_73
                      rfl
                    exact ih73 (i + 1) (g_X1_walk T73 (f_X3_roadOf T73 (rg 64 (T73 12) (nI i))) (f_X3_roadOf T73 (rg 64 (T73 13) (nI i))) (rg 64 (T73 14) (nI i))) (by omega) ha73 (by simp [fr_X1_walk, hT73]) (by omega) _ _ ls hP hS (lv_sub hl [0, 3, 4, 5] rfl)
              exact lp73 (((lp_X1_find_50 S (lp_X1_find_23 S (zUp (zUp (zUp S 9 (rf 64 (S 9) 0)) 11 (rf 64 (S 11) 0)) 16 (upd (S 16) 0 0)) 64) ((S 15 0).toNatClampNeg)) 16 0).toNatClampNeg - 0 + 1) 0 (lp_X1_find_50 S (lp_X1_find_23 S (zUp (zUp (zUp S 9 (rf 64 (S 9) 0)) 11 (rf 64 (S 11) 0)) 16 (upd (S 16) 0 0)) 64) ((S 15 0).toNatClampNeg)) (by omega) rfl rfl (Nat.lt_succ_self _) _ _ ls hP hS (lv_sub hl [0, 1, 2, 3] rfl)
            · have nc3 : ¬ (S 15 0).toNatClampNeg ≤ i := fun z => c3 ((nI_leC (x := S 15 0) (i := i) (by omega)).mpr z)
              refine lv_aload_n cx.1 cx.2.1 dX1_find_58 rfl (lv_at hl 1 rfl) ?_
              refine lv_aload_n cx.1 cx.2.1 dX1_find_59 rfl (lv_at hl 2 rfl) ?_
              refine lv_aload_n cx.1 cx.2.1 dX1_find_60 rfl (lv_at hl 3 rfl) ?_
              refine lv_iload_n cx.1 cx.2.1 dX1_find_61 rfl (lv_at hl 0 rfl) ?_
              refine zThenVx (S' := g_X1_place T50 (nI i)) hS (zRunV (As := [.ref (ad 1), .ref (ad 2), .int (nI i)]) (rest := []) _ 3 cx (c_X1_place l dC dI cyI ad hI T50 (nI i)) gX1_find_X1_place rfl ⟨rfl, rfl⟩ (by decide +kernel) ⟨Nat.le_of_ble_eq_true rfl, Nat.le_of_ble_eq_true rfl⟩ (xN_X ad 36) hXs hK hP hS 4 rfl rfl rfl rfl hl.1 rfl (Nat.le_of_ble_eq_true rfl) dX1_find_62 ⟨Nat.zero_le _, Nat.zero_le _⟩) (fun H locs hP hS => ?_)
              refine lv_iinc (v := nI (i + 1)) (lv' := [(3, .int (nI (i + 1))), (0, .ref (ad 4)), (1, .ref (ad 1)), (2, .ref (ad 2))]) cx.1 cx.2.1 dX1_find_65 hl (k := 0) rfl (nI_1 i) (by decide) rfl (fun ls hl => ?_)
              refine lv_goto (tgt := 50) cx.1 cx.2.1 dX1_find_68 (by decide) ?_
              have ha50 : lp_X1_find_50 S (lp_X1_find_23 S (zUp (zUp (zUp S 9 (rf 64 (S 9) 0)) 11 (rf 64 (S 11) 0)) 16 (upd (S 16) 0 0)) 64) (i + 1) = g_X1_place T50 (nI i) := by
                show bd_X1_find_50 S i (lp_X1_find_50 S (lp_X1_find_23 S (zUp (zUp (zUp S 9 (rf 64 (S 9) 0)) 11 (rf 64 (S 11) 0)) 16 (upd (S 16) 0 0)) 64) i) = _
                rw [hacc50]
                unfold bd_X1_find_50
                rfl
              exact ih50 (i + 1) (g_X1_place T50 (nI i)) (by omega) ha50 (by simp [fr_X1_place, hT50]) (by omega) _ _ ls hP hS (lv_sub hl [0, 1, 2, 3] rfl)
        exact lp50 ((S 15 0).toNatClampNeg - 0 + 1) 0 (lp_X1_find_23 S (zUp (zUp (zUp S 9 (rf 64 (S 9) 0)) 11 (rf 64 (S 11) 0)) 16 (upd (S 16) 0 0)) 64) (by omega) rfl (by simp [fr_lp_X1_find_23, zUp]) (Nat.lt_succ_self _) _ _ ls hP hS (lv_sub hl [0, 1, 2, 3] rfl)
      · have nc2 : ¬ 64 ≤ i := fun z => c2 ((nI_leI (a := 64) (b := i) (by first | decide | omega) (by first | decide | omega)).mpr z)
        refine lv_aload_n cx.1 cx.2.1 dX1_find_29 rfl (lv_at hl 1 rfl) ?_
        refine zGet (v := .ref (ad 26)) (own := RX1) cx hinX1 hK hP 4 rfl rfl 1 (by decide) (by decide +kernel) rfl rfl dX1_find_30 ?_
        refine lv_iload_n cx.1 cx.2.1 dX1_find_33 rfl (lv_at hl 0 rfl) ?_
        refine lv_aload_n cx.1 cx.2.1 dX1_find_34 rfl (lv_at hl 2 rfl) ?_
        refine lv_iload_n cx.1 cx.2.1 dX1_find_35 rfl (lv_at hl 0 rfl) ?_
        refine zThenIx (v := f_X0_peopleOf T23 (nI i)) (S' := T23) hS (zRunV (As := [.int (nI i)]) (rest := [.int (nI i), .ref (ad 26)]) _ 1 cx (c_X0_peopleOf l dC dI cyI ad hI T23 (nI i)) gX1_find_X0_peopleOf rfl ⟨rfl, rfl⟩ (by decide +kernel) ⟨Nat.le_of_ble_eq_true rfl, Nat.le_of_ble_eq_true rfl⟩ (xN_X ad 36) hXs hK hP hS 1 rfl rfl rfl rfl hl.1 rfl (Nat.le_of_ble_eq_true rfl) dX1_find_36 ⟨Nat.zero_le _, Nat.zero_le _⟩) (fun H locs hP hS => ?_)
        refine zThenVx (S' := zUp T23 10 (rs 64 (T23 10) (nI i) (f_X0_peopleOf T23 (nI i)))) hS (zRunV (As := [.int (nI i), .int (f_X0_peopleOf T23 (nI i))]) (rest := []) _ 2 cx (c_X4_set l dC dI cyI ad hI T23 10 (by decide) (nI i) (f_X0_peopleOf T23 (nI i))) gX1_find_X4_set rfl ⟨rfl, rfl⟩ (by decide +kernel) ⟨Nat.le_of_ble_eq_true rfl, Nat.le_of_ble_eq_true rfl⟩ (xN_X ad 36) hXs hK hP hS 26 rfl rfl rfl rfl hl.1 rfl (Nat.le_of_ble_eq_true rfl) dX1_find_39 ⟨Nat.zero_le _, Nat.zero_le _⟩) (fun H locs hP hS => ?_)
        refine lv_iinc (v := nI (i + 1)) (lv' := [(3, .int (nI (i + 1))), (0, .ref (ad 4)), (1, .ref (ad 1)), (2, .ref (ad 2))]) cx.1 cx.2.1 dX1_find_42 hl (k := 0) rfl (nI_1 i) (by decide) rfl (fun ls hl => ?_)
        refine lv_goto (tgt := 23) cx.1 cx.2.1 dX1_find_45 (by decide) ?_
        have ha23 : lp_X1_find_23 S (zUp (zUp (zUp S 9 (rf 64 (S 9) 0)) 11 (rf 64 (S 11) 0)) 16 (upd (S 16) 0 0)) (i + 1) = zUp T23 10 (rs 64 (T23 10) (nI i) (f_X0_peopleOf T23 (nI i))) := by
          show bd_X1_find_23 S i (lp_X1_find_23 S (zUp (zUp (zUp S 9 (rf 64 (S 9) 0)) 11 (rf 64 (S 11) 0)) 16 (upd (S 16) 0 0)) i) = _
          rw [hacc23]
          unfold bd_X1_find_23
          rfl
        exact ih23 (i + 1) (zUp T23 10 (rs 64 (T23 10) (nI i) (f_X0_peopleOf T23 (nI i)))) (by omega) ha23  (by omega) _ _ ls hP hS (lv_sub hl [0, 1, 2, 3] rfl)
  exact lp23 (64 - 0 + 1) 0 (zUp (zUp (zUp S 9 (rf 64 (S 9) 0)) 11 (rf 64 (S 11) 0)) 16 (upd (S 16) 0 0)) (by omega) rfl  (Nat.lt_succ_self _) _ _ ls hP hS (lv_sub hl [0, 1, 2, 3] rfl)
