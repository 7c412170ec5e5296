set_option maxHeartbeats 4000000 in
set_option maxRecDepth 100000 in
theorem c_J7_fill_53178 (l : Launch) (dC : Nat → ClassId) (dI : Nat → Nat → Nat) (cyI : ClassId) (ad : Nat → Nat) (hI : zI ad 36) (S : zS) (r : Nat) (hr : r < 15) (v : Int32) : zMv l (dC, dI) [(cyI, .int)] ad 36 xN (cw cyI ad) yJ7_fill_53178 wsJ7_fill_53178 ({ frames := 0, cells := 0, slots := 0, locals := 0 } : Room) [.ref (ad (7 + 2 * r)), .int v] S (fun T => T = zUp S r (rf (ln r) (S r) v)) := by
  refine zStartV (by decide) rfl (Nat.le_of_ble_eq_true rfl) ?_
  intro p e s m args below meth c ls cx hr9 hlk hP hK hXs hl
  have hl : lv_has ls 4 [(0, .ref (ad (7 + 2 * r))), (1, .int v)] := hl
  have hS : va_S (zA ad 36 s.heap.size) s.heap s.heap [] := va_S.rf
  obtain ⟨Q, hQ⟩ : ∃ Q, Q = MQ below (zQv (dC, dI) (cw cyI ad) (fun T => T = zUp S r (rf (ln r) (S r) v)) (zA ad 36 s.heap.size)) args s 0 0 (zA ad 36 s.heap.size) := ⟨_, rfl⟩
  rw [← hQ]
  refine lv_iconst (v := 0) cx.1 cx.2.1 dJ7_fill_53178_0 (by decide) ?_
  refine lv_istore_n (lv' := [(2, .int 0), (0, .ref (ad (7 + 2 * r))), (1, .int v)]) cx.1 cx.2.1 dJ7_fill_53178_1 rfl hl (by decide) rfl (fun ls hl => ?_)
  refine lv_aload_n cx.1 cx.2.1 dJ7_fill_53178_2 rfl (lv_at hl 1 rfl) ?_
  refine va_alen cx.1 cx.2.1 hK hP (7 + 2 * r) 0 (cw_arr cyI ad S hr) rfl (v := nI (ln r)) rfl dJ7_fill_53178_3 ?_
  refine lv_istore_n (lv' := [(3, .int (nI (ln r))), (2, .int 0), (0, .ref (ad (7 + 2 * r))), (1, .int v)]) cx.1 cx.2.1 dJ7_fill_53178_4 rfl hl (by decide) rfl (fun ls hl => ?_)
  have lp : ∀ (k i : Nat) (_ : i ≤ ln r) (_ : ln r - i < k) (H : Heap) (locs : List Loc) (ls : Array Slot), va_P (dC, dI) vwCl (cw cyI ad (zUp S r (rf i (S r) v))) H → va_S (zA ad 36 s.heap.size) s.heap H locs → lv_has ls 4 [(3, .int (nI (ln r))), (2, .int (nI i)), (0, .ref (ad (7 + 2 * r))), (1, .int v)] → W p l e (headSpec wsJ7_fill_53178 ({ frames := 0, cells := 0, slots := 0, locals := 0 } : Room)).room s m args below meth c H locs 0 0 Q (F0 m 5 ls []) := by
    intro k
    induction k with
    | zero => intro i hi hm; exact absurd hm (Nat.not_lt_zero _)
    | succ k ih =>
      intro i hi hm H locs ls hP hS hl
      refine lv_iload_n cx.1 cx.2.1 dJ7_fill_53178_5 rfl (lv_at hl 1 rfl) ?_
      refine lv_iload_n cx.1 cx.2.1 dJ7_fill_53178_6 rfl (lv_at hl 0 rfl) ?_
      have hb9 := ln_31 r
      refine lv_icmp_ge (tgt := 20) cx.1 cx.2.1 dJ7_fill_53178_7 (by decide) (fun c1 => ?_) (fun c1 => ?_)
      · have n1 := (nI_leI (a := ln r) (b := i) hb9 (by omega)).mp c1
        obtain rfl : i = ln r := by omega
        rw [hQ]
        exact zRetV cx hr9 hlk hS hP rfl dJ7_fill_53178_20
      · have n1 : ¬ ln r ≤ i := fun z => c1 ((nI_leI (a := ln r) (b := i) hb9 (by omega)).mpr z)
        refine lv_aload_n cx.1 cx.2.1 dJ7_fill_53178_10 rfl (lv_at hl 2 rfl) ?_
        refine lv_iload_n cx.1 cx.2.1 dJ7_fill_53178_11 rfl (lv_at hl 1 rfl) ?_
        refine lv_iload_n cx.1 cx.2.1 dJ7_fill_53178_12 rfl (lv_at hl 3 rfl) ?_
        refine zIstN cx (cw_W cyI ad) hI hK hP hS (7 + 2 * r) 0 (cw_arr cyI ad _ hr) rfl i (by omega) hb9 rfl (zUp S r (rf (i + 1) (S r) v)) ?_ dJ7_fill_53178_13 (fun H locs hP hS => ?_)
        · rw [cw_set cyI ad _ hr, zUp_s, rf_s, zUp_zUp]
        refine lv_iinc (v := nI (i + 1)) (lv' := [(2, .int (nI (i + 1))), (3, .int (nI (ln r))), (0, .ref (ad (7 + 2 * r))), (1, .int v)]) cx.1 cx.2.1 dJ7_fill_53178_14 hl (k := 1) rfl (nI_1 i) (by decide) rfl (fun ls hl => ?_)
        refine lv_goto (tgt := 5) cx.1 cx.2.1 dJ7_fill_53178_17 (by decide) ?_
        exact ih (i + 1) (by omega) (by omega) _ _ ls hP hS (lv_sub hl [1, 0, 2, 3] rfl)
  exact lp (ln r - 0 + 1) 0 (by omega) (Nat.lt_succ_self _) _ _ ls (by rw [rf_0, zUp_self]; exact hP) hS hl

set_option maxHeartbeats 4000000 in
set_option maxRecDepth 100000 in
theorem c_X4_get (l : Launch) (dC : Nat → ClassId) (dI : Nat → Nat → Nat) (cyI : ClassId) (ad : Nat → Nat) (hI : zI ad 36) (S : zS) (r : Nat) (hr : r < 15) (xi : Int32) : zMi l (dC, dI) [(cyI, .int)] ad 36 xN (cw cyI ad) yX4_get wsX4_get ({ frames := 0, cells := 0, slots := 0, locals := 0 } : Room) [.ref (ad (6 + 2 * r)), .int xi] S (fun v T => v = rg (ln r) (S r) xi ∧ T = S) := by
  refine zStartI (by decide) rfl (Nat.le_of_ble_eq_true rfl) ?_
  intro p e s m args below meth c ls cx hrt hlk hP hK hXs hl
  have hl : lv_has ls 2 [(0, .ref (ad (6 + 2 * r))), (1, .int xi)] := hl
  have hS : va_S (zA ad 36 s.heap.size) s.heap s.heap [] := va_S.rf
  have hinX4 : ∀ w ∈ u_ws RX4 TX4 1, w ∈ wsX4_get := by decide +kernel
  refine lv_iload_n cx.1 cx.2.1 dX4_get_0 rfl (lv_at hl 1 rfl) ?_
  refine lv_if_lt (tgt := 22) cx.1 cx.2.1 dX4_get_1 (by decide) (fun c1 => ?_) (fun c1 => ?_)
  · refine lv_iconst (v := (-1)) cx.1 cx.2.1 dX4_get_22 (by decide) ?_
    exact zRetI cx hrt hlk rfl hS hP ⟨by unfold rg; rw [if_pos c1], rfl⟩ dX4_get_23
  · refine lv_iload_n cx.1 cx.2.1 dX4_get_4 rfl (lv_at hl 1 rfl) ?_
    refine lv_aload_n cx.1 cx.2.1 dX4_get_5 rfl (lv_at hl 0 rfl) ?_
    refine zGet (v := .ref (ad (7 + 2 * r))) (own := RX4) cx hinX4 hK hP (6 + 2 * r) (cw_row cyI ad S hr) rfl 0 (by decide) (by decide +kernel) rfl rfl dX4_get_6 ?_
    refine va_alen cx.1 cx.2.1 hK hP (7 + 2 * r) 0 (cw_arr cyI ad S hr) rfl (v := nI (ln r)) rfl dX4_get_9 ?_
    refine lv_icmp_ge (tgt := 22) cx.1 cx.2.1 dX4_get_10 (by decide) (fun c2 => ?_) (fun c2 => ?_)
    · refine lv_iconst (v := (-1)) cx.1 cx.2.1 dX4_get_22 (by decide) ?_
      exact zRetI cx hrt hlk rfl hS hP ⟨by unfold rg; rw [if_neg c1, if_pos c2], rfl⟩ dX4_get_23
    · refine lv_aload_n cx.1 cx.2.1 dX4_get_13 rfl (lv_at hl 0 rfl) ?_
      refine zGet (v := .ref (ad (7 + 2 * r))) (own := RX4) cx hinX4 hK hP (6 + 2 * r) (cw_row cyI ad S hr) rfl 0 (by decide) (by decide +kernel) rfl rfl dX4_get_14 ?_
      refine lv_iload_n cx.1 cx.2.1 dX4_get_17 rfl (lv_at hl 1 rfl) ?_
      refine zIld cx hK hP (7 + 2 * r) 0 (cw_arr cyI ad S hr) rfl (vp_in_of2 (ln_31 r) c1 c2) dX4_get_18 ?_
      refine lv_goto (tgt := 23) cx.1 cx.2.1 dX4_get_19 (by decide) ?_
      exact zRetI cx hrt hlk rfl hS hP ⟨by unfold rg; rw [if_neg c1, if_neg c2], rfl⟩ dX4_get_23

set_option maxHeartbeats 4000000 in
set_option maxRecDepth 100000 in
theorem c_X4_set (l : Launch) (dC : Nat → ClassId) (dI : Nat → Nat → Nat) (cyI : ClassId) (ad : Nat → Nat) (hI : zI ad 36) (S : zS) (r : Nat) (hr : r < 15) (xi : Int32) (xv : Int32) : zMv l (dC, dI) [(cyI, .int)] ad 36 xN (cw cyI ad) yX4_set wsX4_set ({ frames := 0, cells := 0, slots := 0, locals := 0 } : Room) [.ref (ad (6 + 2 * r)), .int xi, .int xv] S (fun T => T = zUp S r (rs (ln r) (S r) xi xv)) := by
  refine zStartV (by decide) rfl (Nat.le_of_ble_eq_true rfl) ?_
  intro p e s m args below meth c ls cx hrt hlk hP hK hXs hl
  have hl : lv_has ls 3 [(0, .ref (ad (6 + 2 * r))), (1, .int xi), (2, .int xv)] := hl
  have hS : va_S (zA ad 36 s.heap.size) s.heap s.heap [] := va_S.rf
  have hinX4 : ∀ w ∈ u_ws RX4 TX4 1, w ∈ wsX4_set := by decide +kernel
  refine lv_iload_n cx.1 cx.2.1 dX4_set_0 rfl (lv_at hl 1 rfl) ?_
  refine lv_if_lt (tgt := 20) cx.1 cx.2.1 dX4_set_1 (by decide) (fun c1 => ?_) (fun c1 => ?_)
  · exact zRetV cx hrt hlk hS hP (by unfold rs; first | (rw [if_pos c1]; done) | (rw [if_pos c1]; exact (zUp_self S r).symm)) dX4_set_20
  · refine lv_iload_n cx.1 cx.2.1 dX4_set_4 rfl (lv_at hl 1 rfl) ?_
    refine lv_aload_n cx.1 cx.2.1 dX4_set_5 rfl (lv_at hl 0 rfl) ?_
    refine zGet (v := .ref (ad (7 + 2 * r))) (own := RX4) cx hinX4 hK hP (6 + 2 * r) (cw_row cyI ad S hr) rfl 0 (by decide) (by decide +kernel) rfl rfl dX4_set_6 ?_
    refine va_alen cx.1 cx.2.1 hK hP (7 + 2 * r) 0 (cw_arr cyI ad S hr) rfl (v := nI (ln r)) rfl dX4_set_9 ?_
    refine lv_icmp_ge (tgt := 20) cx.1 cx.2.1 dX4_set_10 (by decide) (fun c2 => ?_) (fun c2 => ?_)
    · exact zRetV cx hrt hlk hS hP (by unfold rs; first | (rw [if_neg c1, if_pos c2]; done) | (rw [if_neg c1, if_pos c2]; exact (zUp_self S r).symm)) dX4_set_20
    · refine lv_aload_n cx.1 cx.2.1 dX4_set_13 rfl (lv_at hl 0 rfl) ?_
      refine zGet (v := .ref (ad (7 + 2 * r))) (own := RX4) cx hinX4 hK hP (6 + 2 * r) (cw_row cyI ad S hr) rfl 0 (by decide) (by decide +kernel) rfl rfl dX4_set_14 ?_
      refine lv_iload_n cx.1 cx.2.1 dX4_set_17 rfl (lv_at hl 1 rfl) ?_
      refine lv_iload_n cx.1 cx.2.1 dX4_set_18 rfl (lv_at hl 2 rfl) ?_
      refine zIst cx (cw_W cyI ad) hI hK hP hS (7 + 2 * r) 0 (cw_arr cyI ad S hr) rfl (vp_in_of2 (ln_31 r) c1 c2) (zUp S r (upd (S r) xi.toNatClampNeg xv)) (cw_set cyI ad S hr _) dX4_set_19 (fun H locs hP hS => ?_)
      exact zRetV cx hrt hlk hS hP (by unfold rs; first | (rw [if_neg c1, if_neg c2]; done) | (rw [if_neg c1, if_neg c2]; exact (zUp_self S r).symm)) dX4_set_20

set_option maxHeartbeats 4000000 in
set_option maxRecDepth 100000 in
theorem c_X4_add (l : Launch) (dC : Nat → ClassId) (dI : Nat → Nat → Nat) (cyI : ClassId) (ad : Nat → Nat) (hI : zI ad 36) (S : zS) (r : Nat) (hr : r < 15) (xi : Int32) (xv : Int32) : zMv l (dC, dI) [(cyI, .int)] ad 36 xN (cw cyI ad) yX4_add wsX4_add ({ frames := 0, cells := 0, slots := 0, locals := 0 } : Room) [.ref (ad (6 + 2 * r)), .int xi, .int xv] S (fun T => T = zUp S r (ra (ln r) (S r) xi xv)) := by
  refine zStartV (by decide) rfl (Nat.le_of_ble_eq_true rfl) ?_
  intro p e s m args below meth c ls cx hrt hlk hP hK hXs hl
  have hl : lv_has ls 3 [(0, .ref (ad (6 + 2 * r))), (1, .int xi), (2, .int xv)] := hl
  have hS : va_S (zA ad 36 s.heap.size) s.heap s.heap [] := va_S.rf
  have hinX4 : ∀ w ∈ u_ws RX4 TX4 1, w ∈ wsX4_add := by decide +kernel
  refine lv_iload_n cx.1 cx.2.1 dX4_add_0 rfl (lv_at hl 1 rfl) ?_
  refine lv_if_lt (tgt := 23) cx.1 cx.2.1 dX4_add_1 (by decide) (fun c1 => ?_) (fun c1 => ?_)
  · exact zRetV cx hrt hlk hS hP (by unfold ra; first | (rw [if_pos c1]; done) | (rw [if_pos c1]; exact (zUp_self S r).symm)) dX4_add_23
  · refine lv_iload_n cx.1 cx.2.1 dX4_add_4 rfl (lv_at hl 1 rfl) ?_
    refine lv_aload_n cx.1 cx.2.1 dX4_add_5 rfl (lv_at hl 0 rfl) ?_
    refine zGet (v := .ref (ad (7 + 2 * r))) (own := RX4) cx hinX4 hK hP (6 + 2 * r) (cw_row cyI ad S hr) rfl 0 (by decide) (by decide +kernel) rfl rfl dX4_add_6 ?_
    refine va_alen cx.1 cx.2.1 hK hP (7 + 2 * r) 0 (cw_arr cyI ad S hr) rfl (v := nI (ln r)) rfl dX4_add_9 ?_
    refine lv_icmp_ge (tgt := 23) cx.1 cx.2.1 dX4_add_10 (by decide) (fun c2 => ?_) (fun c2 => ?_)
    · exact zRetV cx hrt hlk hS hP (by unfold ra; first | (rw [if_neg c1, if_pos c2]; done) | (rw [if_neg c1, if_pos c2]; exact (zUp_self S r).symm)) dX4_add_23
    · refine lv_aload_n cx.1 cx.2.1 dX4_add_13 rfl (lv_at hl 0 rfl) ?_
      refine zGet (v := .ref (ad (7 + 2 * r))) (own := RX4) cx hinX4 hK hP (6 + 2 * r) (cw_row cyI ad S hr) rfl 0 (by decide) (by decide +kernel) rfl rfl dX4_add_14 ?_
      refine lv_iload_n cx.1 cx.2.1 dX4_add_17 rfl (lv_at hl 1 rfl) ?_
      refine lv_dup2_11 cx.1 cx.2.1 dX4_add_18 rfl rfl ?_
      refine zIld cx hK hP (7 + 2 * r) 0 (cw_arr cyI ad S hr) rfl (vp_in_of2 (ln_31 r) c1 c2) dX4_add_19 ?_
      refine lv_iload_n cx.1 cx.2.1 dX4_add_20 rfl (lv_at hl 2 rfl) ?_
      refine lv_iadd cx.1 cx.2.1 dX4_add_21 ?_
      refine zIst cx (cw_W cyI ad) hI hK hP hS (7 + 2 * r) 0 (cw_arr cyI ad S hr) rfl (vp_in_of2 (ln_31 r) c1 c2) (zUp S r (upd (S r) xi.toNatClampNeg ((S r xi.toNatClampNeg) + xv))) (cw_set cyI ad S hr _) dX4_add_22 (fun H locs hP hS => ?_)
      exact zRetV cx hrt hlk hS hP (by unfold ra; first | (rw [if_neg c1, if_neg c2]; done) | (rw [if_neg c1, if_neg c2]; exact (zUp_self S r).symm)) dX4_add_23

set_option maxHeartbeats 4000000 in
set_option maxRecDepth 100000 in
theorem c_X4_fill (l : Launch) (dC : Nat → ClassId) (dI : Nat → Nat → Nat) (cyI : ClassId) (ad : Nat → Nat) (hI : zI ad 36) (S : zS) (r : Nat) (hr : r < 15) (xv : Int32) : zMv l (dC, dI) [(cyI, .int)] ad 36 xN (cw cyI ad) yX4_fill wsX4_fill ({ frames := 1, cells := 0, slots := 0, locals := 23 } : Room) [.ref (ad (6 + 2 * r)), .int xv] S (fun T => T = zUp S r (rf (ln r) (S r) xv)) := by
  refine zStartV (by decide) rfl (Nat.le_of_ble_eq_true rfl) ?_
  intro p e s m args below meth c ls cx hrt hlk hP hK hXs hl
  have hl : lv_has ls 2 [(0, .ref (ad (6 + 2 * r))), (1, .int xv)] := hl
  have hS : va_S (zA ad 36 s.heap.size) s.heap s.heap [] := va_S.rf
  have hinX4 : ∀ w ∈ u_ws RX4 TX4 1, w ∈ wsX4_fill := by decide +kernel
  refine lv_aload_n cx.1 cx.2.1 dX4_fill_0 rfl (lv_at hl 0 rfl) ?_
  refine zGet (v := .ref (ad (7 + 2 * r))) (own := RX4) cx hinX4 hK hP (6 + 2 * r) (cw_row cyI ad S hr) rfl 0 (by decide) (by decide +kernel) rfl rfl dX4_fill_1 ?_
  refine lv_iload_n cx.1 cx.2.1 dX4_fill_4 rfl (lv_at hl 1 rfl) ?_
  refine zThenVx (S' := zUp S r (rf (ln r) (S r) xv)) hS (zRunS (As := [.ref (ad (7 + 2 * r)), .int xv]) (rest := []) _ 2 cx (c_J7_fill_53178 l dC dI cyI ad hI S r hr xv) gX4_fill_J7_fill_53178 rfl ⟨rfl, rfl⟩ (by decide +kernel) ⟨Nat.le_of_ble_eq_true rfl, Nat.le_of_ble_eq_true rfl⟩ (xN_X ad 36) hXs hK hP hS rfl hl.1 rfl (Nat.le_of_ble_eq_true rfl) dX4_fill_5 ⟨Nat.zero_le _, Nat.zero_le _⟩) (fun H locs hP hS => ?_)
  exact zRetV cx hrt hlk hS hP rfl dX4_fill_8

def f_X6_distanceOf  (xa : Int32) (xb : Int32) : Int32 := (if 0 ≤ ((xa / 8) - (xb / 8)) then (xa / 8) - (xb / 8) else 0 - ((xa / 8) - (xb / 8))) + (if 0 ≤ ((xa - xa / 8 * 8) - (xb - xb / 8 * 8)) then (xa - xa / 8 * 8) - (xb - xb / 8 * 8) else 0 - ((xa - xa / 8 * 8) - (xb - xb / 8 * 8)))
set_option maxHeartbeats 4000000 in
set_option maxRecDepth 100000 in
theorem c_X6_distanceOf (l : Launch) (dC : Nat → ClassId) (dI : Nat → Nat → Nat) (cyI : ClassId) (ad : Nat → Nat) (hI : zI ad 36) (S : zS) (xa : Int32) (xb : Int32) : zMi l (dC, dI) [(cyI, .int)] ad 36 xN (cw cyI ad) yX6_distanceOf wsX6_distanceOf ({ frames := 1, cells := 0, slots := 0, locals := 21 } : Room) [.int xa, .int xb] S (fun v T => v = f_X6_distanceOf xa xb ∧ T = S) := by
  refine zStartI (by decide) rfl (Nat.le_of_ble_eq_true rfl) ?_
  intro p e s m args below meth c ls cx hrt hlk hP hK hXs hl
  have hl : lv_has ls 2 [(0, .int xa), (1, .int xb)] := hl
  have hS : va_S (zA ad 36 s.heap.size) s.heap s.heap [] := va_S.rf
  refine lv_iload_n cx.1 cx.2.1 dX6_distanceOf_0 rfl (lv_at hl 0 rfl) ?_
  refine lv_bipush (v := 8) cx.1 cx.2.1 dX6_distanceOf_1 (by decide) ?_
  refine lv_idiv cx.1 cx.2.1 dX6_distanceOf_3 (by decide) ?_
  refine lv_iload_n cx.1 cx.2.1 dX6_distanceOf_4 rfl (lv_at hl 1 rfl) ?_
  refine lv_bipush (v := 8) cx.1 cx.2.1 dX6_distanceOf_5 (by decide) ?_
  refine lv_idiv cx.1 cx.2.1 dX6_distanceOf_7 (by decide) ?_
  refine lv_isub cx.1 cx.2.1 dX6_distanceOf_8 ?_
  refine va_mabs cx.1 cx.2.1 (cx.2.2.1.trans hl.1.symm) (own := RX6) cx.2.2.2.1 (cx.2.2.2.2 _ (by decide +kernel)) (cx.2.2.2.2 _ (by decide +kernel)) (cx.2.2.2.2 _ (by decide +kernel)) (cx.2.2.2.2 _ (by decide +kernel)) (Nat.le_of_ble_eq_true rfl) (Nat.le_of_ble_eq_true rfl) (Nat.zero_le _) (Nat.zero_le _) dX6_distanceOf_9 ?_
  refine lv_iload_n cx.1 cx.2.1 dX6_distanceOf_12 rfl (lv_at hl 0 rfl) ?_
  refine lv_bipush (v := 8) cx.1 cx.2.1 dX6_distanceOf_13 (by decide) ?_
  refine lv_irem cx.1 cx.2.1 dX6_distanceOf_15 (by decide) ?_
  refine lv_iload_n cx.1 cx.2.1 dX6_distanceOf_16 rfl (lv_at hl 1 rfl) ?_
  refine lv_bipush (v := 8) cx.1 cx.2.1 dX6_distanceOf_17 (by decide) ?_
  refine lv_irem cx.1 cx.2.1 dX6_distanceOf_19 (by decide) ?_
  refine lv_isub cx.1 cx.2.1 dX6_distanceOf_20 ?_
  refine va_mabs cx.1 cx.2.1 (cx.2.2.1.trans hl.1.symm) (own := RX6) cx.2.2.2.1 (cx.2.2.2.2 _ (by decide +kernel)) (cx.2.2.2.2 _ (by decide +kernel)) (cx.2.2.2.2 _ (by decide +kernel)) (cx.2.2.2.2 _ (by decide +kernel)) (Nat.le_of_ble_eq_true rfl) (Nat.le_of_ble_eq_true rfl) (Nat.zero_le _) (Nat.zero_le _) dX6_distanceOf_21 ?_
  refine lv_iadd cx.1 cx.2.1 dX6_distanceOf_24 ?_
  exact zRetI cx hrt hlk rfl hS hP ⟨(by unfold f_X6_distanceOf; rfl), rfl⟩ dX6_distanceOf_25

def f_X6_neighbourOf  (xa : Int32) (xb : Int32) : Int32 := if xb = 0 then (if xa < 8 then (-1) else (xa - 8)) else (if xb = 1 then (if (xa - xa / 8 * 8) ≤ 0 then (-1) else (xa - 1)) else (if xb = 2 then (if 7 ≤ (xa - xa / 8 * 8) then (-1) else (xa + 1)) else (if xb = 3 then (if 56 ≤ xa then (-1) else (xa + 8)) else ((-1)))))
set_option maxHeartbeats 4000000 in
set_option maxRecDepth 100000 in
theorem c_X6_neighbourOf (l : Launch) (dC : Nat → ClassId) (dI : Nat → Nat → Nat) (cyI : ClassId) (ad : Nat → Nat) (hI : zI ad 36) (S : zS) (xa : Int32) (xb : Int32) : zMi l (dC, dI) [(cyI, .int)] ad 36 xN (cw cyI ad) yX6_neighbourOf wsX6_neighbourOf ({ frames := 0, cells := 0, slots := 0, locals := 0 } : Room) [.int xa, .int xb] S (fun v T => v = f_X6_neighbourOf xa xb ∧ T = S) := by
  refine zStartI (by decide) rfl (Nat.le_of_ble_eq_true rfl) ?_
  intro p e s m args below meth c ls cx hrt hlk hP hK hXs hl
  have hl : lv_has ls 2 [(0, .int xa), (1, .int xb)] := hl
  have hS : va_S (zA ad 36 s.heap.size) s.heap s.heap [] := va_S.rf
  refine lv_iload_n cx.1 cx.2.1 dX6_neighbourOf_0 rfl (lv_at hl 1 rfl) ?_
  by_cases c1 : xb = 0
  · refine lv_tableIn (off := 31) (tgt := 32) cx.1 cx.2.1 dX6_neighbourOf_1 (by rw [c1]; decide) (by rw [c1]; decide) (by rw [c1]; rfl) (by decide) ?_
    refine lv_iload_n cx.1 cx.2.1 dX6_neighbourOf_32 rfl (lv_at hl 0 rfl) ?_
    refine lv_bipush (v := 8) cx.1 cx.2.1 dX6_neighbourOf_33 (by decide) ?_
    refine lv_icmp_lt (tgt := 45) cx.1 cx.2.1 dX6_neighbourOf_35 (by decide) (fun c2 => ?_) (fun c2 => ?_)
    · refine lv_iconst (v := (-1)) cx.1 cx.2.1 dX6_neighbourOf_45 (by decide) ?_
      exact zRetI cx hrt hlk rfl hS hP ⟨(by unfold f_X6_neighbourOf; rw [if_pos c1, if_pos c2]), rfl⟩ dX6_neighbourOf_46
    · refine lv_iload_n cx.1 cx.2.1 dX6_neighbourOf_38 rfl (lv_at hl 0 rfl) ?_
      refine lv_bipush (v := 8) cx.1 cx.2.1 dX6_neighbourOf_39 (by decide) ?_
      refine lv_isub cx.1 cx.2.1 dX6_neighbourOf_41 ?_
      refine lv_goto (tgt := 46) cx.1 cx.2.1 dX6_neighbourOf_42 (by decide) ?_
      exact zRetI cx hrt hlk rfl hS hP ⟨(by unfold f_X6_neighbourOf; rw [if_pos c1, if_neg c2]), rfl⟩ dX6_neighbourOf_46
  · by_cases c3 : xb = 1
    · refine lv_tableIn (off := 46) (tgt := 47) cx.1 cx.2.1 dX6_neighbourOf_1 (by rw [c3]; decide) (by rw [c3]; decide) (by rw [c3]; rfl) (by decide) ?_
      refine lv_iload_n cx.1 cx.2.1 dX6_neighbourOf_47 rfl (lv_at hl 0 rfl) ?_
      refine lv_bipush (v := 8) cx.1 cx.2.1 dX6_neighbourOf_48 (by decide) ?_
      refine lv_irem cx.1 cx.2.1 dX6_neighbourOf_50 (by decide) ?_
      refine lv_if_le (tgt := 60) cx.1 cx.2.1 dX6_neighbourOf_51 (by decide) (fun c4 => ?_) (fun c4 => ?_)
      · refine lv_iconst (v := (-1)) cx.1 cx.2.1 dX6_neighbourOf_60 (by decide) ?_
        exact zRetI cx hrt hlk rfl hS hP ⟨(by unfold f_X6_neighbourOf; rw [if_neg c1, if_pos c3, if_pos c4]), rfl⟩ dX6_neighbourOf_61
      · refine lv_iload_n cx.1 cx.2.1 dX6_neighbourOf_54 rfl (lv_at hl 0 rfl) ?_
        refine lv_iconst (v := 1) cx.1 cx.2.1 dX6_neighbourOf_55 (by decide) ?_
        refine lv_isub cx.1 cx.2.1 dX6_neighbourOf_56 ?_
        refine lv_goto (tgt := 61) cx.1 cx.2.1 dX6_neighbourOf_57 (by decide) ?_
        exact zRetI cx hrt hlk rfl hS hP ⟨(by unfold f_X6_neighbourOf; rw [if_neg c1, if_pos c3, if_neg c4]), rfl⟩ dX6_neighbourOf_61
    · by_cases c5 : xb = 2
      · refine lv_tableIn (off := 61) (tgt := 62) cx.1 cx.2.1 dX6_neighbourOf_1 (by rw [c5]; decide) (by rw [c5]; decide) (by rw [c5]; rfl) (by decide) ?_
        refine lv_iload_n cx.1 cx.2.1 dX6_neighbourOf_62 rfl (lv_at hl 0 rfl) ?_
        refine lv_bipush (v := 8) cx.1 cx.2.1 dX6_neighbourOf_63 (by decide) ?_
        refine lv_irem cx.1 cx.2.1 dX6_neighbourOf_65 (by decide) ?_
        refine lv_bipush (v := 7) cx.1 cx.2.1 dX6_neighbourOf_66 (by decide) ?_
        refine lv_icmp_ge (tgt := 77) cx.1 cx.2.1 dX6_neighbourOf_68 (by decide) (fun c6 => ?_) (fun c6 => ?_)
        · refine lv_iconst (v := (-1)) cx.1 cx.2.1 dX6_neighbourOf_77 (by decide) ?_
          exact zRetI cx hrt hlk rfl hS hP ⟨(by unfold f_X6_neighbourOf; rw [if_neg c1, if_neg c3, if_pos c5, if_pos c6]), rfl⟩ dX6_neighbourOf_78
        · refine lv_iload_n cx.1 cx.2.1 dX6_neighbourOf_71 rfl (lv_at hl 0 rfl) ?_
          refine lv_iconst (v := 1) cx.1 cx.2.1 dX6_neighbourOf_72 (by decide) ?_
          refine lv_iadd cx.1 cx.2.1 dX6_neighbourOf_73 ?_
          refine lv_goto (tgt := 78) cx.1 cx.2.1 dX6_neighbourOf_74 (by decide) ?_
          exact zRetI cx hrt hlk rfl hS hP ⟨(by unfold f_X6_neighbourOf; rw [if_neg c1, if_neg c3, if_pos c5, if_neg c6]), rfl⟩ dX6_neighbourOf_78
      · by_cases c7 : xb = 3
        · refine lv_tableIn (off := 78) (tgt := 79) cx.1 cx.2.1 dX6_neighbourOf_1 (by rw [c7]; decide) (by rw [c7]; decide) (by rw [c7]; rfl) (by decide) ?_
          refine lv_iload_n cx.1 cx.2.1 dX6_neighbourOf_79 rfl (lv_at hl 0 rfl) ?_
          refine lv_bipush (v := 56) cx.1 cx.2.1 dX6_neighbourOf_80 (by decide) ?_
          refine lv_icmp_ge (tgt := 92) cx.1 cx.2.1 dX6_neighbourOf_82 (by decide) (fun c8 => ?_) (fun c8 => ?_)
          · refine lv_iconst (v := (-1)) cx.1 cx.2.1 dX6_neighbourOf_92 (by decide) ?_
            exact zRetI cx hrt hlk rfl hS hP ⟨(by unfold f_X6_neighbourOf; rw [if_neg c1, if_neg c3, if_neg c5, if_pos c7, if_pos c8]), rfl⟩ dX6_neighbourOf_93
          · refine lv_iload_n cx.1 cx.2.1 dX6_neighbourOf_85 rfl (lv_at hl 0 rfl) ?_
            refine lv_bipush (v := 8) cx.1 cx.2.1 dX6_neighbourOf_86 (by decide) ?_
            refine lv_iadd cx.1 cx.2.1 dX6_neighbourOf_88 ?_
            refine lv_goto (tgt := 93) cx.1 cx.2.1 dX6_neighbourOf_89 (by decide) ?_
            exact zRetI cx hrt hlk rfl hS hP ⟨(by unfold f_X6_neighbourOf; rw [if_neg c1, if_neg c3, if_neg c5, if_pos c7, if_neg c8]), rfl⟩ dX6_neighbourOf_93
        · have tc1 := lv_neT c1 (k := 0) (a := 0) (by decide); have tc3 := lv_neT c3 (k := 1) (a := 1) (by decide); have tc5 := lv_neT c5 (k := 2) (a := 2) (by decide); have tc7 := lv_neT c7 (k := 3) (a := 3) (by decide); skip
          refine lv_tableOut (tgt := 94) cx.1 cx.2.1 dX6_neighbourOf_1 (by omega) (by decide) ?_
          refine lv_iconst (v := (-1)) cx.1 cx.2.1 dX6_neighbourOf_94 (by decide) ?_
          exact zRetI cx hrt hlk rfl hS hP ⟨(by unfold f_X6_neighbourOf; rw [if_neg c1, if_neg c3, if_neg c5, if_neg c7]), rfl⟩ dX6_neighbourOf_95

def f_X6_costOf  (xk : Int32) : Int32 := if xk = 1 then 10 else (if xk = 2 then 20 else (if xk = 3 then 20 else (if xk = 4 then 30 else (if xk = 5 then 200 else (if xk = 6 then 150 else (0))))))
set_option maxHeartbeats 4000000 in
set_option maxRecDepth 100000 in
theorem c_X6_costOf (l : Launch) (dC : Nat → ClassId) (dI : Nat → Nat → Nat) (cyI : ClassId) (ad : Nat → Nat) (hI : zI ad 36) (S : zS) (xk : Int32) : zMi l (dC, dI) [(cyI, .int)] ad 36 xN (cw cyI ad) yX6_costOf wsX6_costOf ({ frames := 0, cells := 0, slots := 0, locals := 0 } : Room) [.int xk] S (fun v T => v = f_X6_costOf xk ∧ T = S) := by
  refine zStartI (by decide) rfl (Nat.le_of_ble_eq_true rfl) ?_
  intro p e s m args below meth c ls cx hrt hlk hP hK hXs hl
  have hl : lv_has ls 1 [(0, .int xk)] := hl
  have hS : va_S (zA ad 36 s.heap.size) s.heap s.heap [] := va_S.rf
  refine lv_iload_n cx.1 cx.2.1 dX6_costOf_0 rfl (lv_at hl 0 rfl) ?_
  by_cases c1 : xk = 1
  · refine lv_tableIn (off := 39) (tgt := 40) cx.1 cx.2.1 dX6_costOf_1 (by rw [c1]; decide) (by rw [c1]; decide) (by rw [c1]; rfl) (by decide) ?_
    refine lv_bipush (v := 10) cx.1 cx.2.1 dX6_costOf_40 (by decide) ?_
    exact zRetI cx hrt hlk rfl hS hP ⟨(by unfold f_X6_costOf; rw [if_pos c1]), rfl⟩ dX6_costOf_42
  · by_cases c2 : xk = 2
    · refine lv_tableIn (off := 42) (tgt := 43) cx.1 cx.2.1 dX6_costOf_1 (by rw [c2]; decide) (by rw [c2]; decide) (by rw [c2]; rfl) (by decide) ?_
      refine lv_bipush (v := 20) cx.1 cx.2.1 dX6_costOf_43 (by decide) ?_
      exact zRetI cx hrt hlk rfl hS hP ⟨(by unfold f_X6_costOf; rw [if_neg c1, if_pos c2]), rfl⟩ dX6_costOf_45
    · by_cases c3 : xk = 3
      · refine lv_tableIn (off := 42) (tgt := 43) cx.1 cx.2.1 dX6_costOf_1 (by rw [c3]; decide) (by rw [c3]; decide) (by rw [c3]; rfl) (by decide) ?_
        refine lv_bipush (v := 20) cx.1 cx.2.1 dX6_costOf_43 (by decide) ?_
        exact zRetI cx hrt hlk rfl hS hP ⟨(by unfold f_X6_costOf; rw [if_neg c1, if_neg c2, if_pos c3]), rfl⟩ dX6_costOf_45
      · by_cases c4 : xk = 4
        · refine lv_tableIn (off := 45) (tgt := 46) cx.1 cx.2.1 dX6_costOf_1 (by rw [c4]; decide) (by rw [c4]; decide) (by rw [c4]; rfl) (by decide) ?_
          refine lv_bipush (v := 30) cx.1 cx.2.1 dX6_costOf_46 (by decide) ?_
          exact zRetI cx hrt hlk rfl hS hP ⟨(by unfold f_X6_costOf; rw [if_neg c1, if_neg c2, if_neg c3, if_pos c4]), rfl⟩ dX6_costOf_48
        · by_cases c5 : xk = 5
          · refine lv_tableIn (off := 48) (tgt := 49) cx.1 cx.2.1 dX6_costOf_1 (by rw [c5]; decide) (by rw [c5]; decide) (by rw [c5]; rfl) (by decide) ?_
            refine lv_sipush (v := 200) cx.1 cx.2.1 dX6_costOf_49 (by decide) ?_
            exact zRetI cx hrt hlk rfl hS hP ⟨(by unfold f_X6_costOf; rw [if_neg c1, if_neg c2, if_neg c3, if_neg c4, if_pos c5]), rfl⟩ dX6_costOf_52
          · by_cases c6 : xk = 6
            · refine lv_tableIn (off := 52) (tgt := 53) cx.1 cx.2.1 dX6_costOf_1 (by rw [c6]; decide) (by rw [c6]; decide) (by rw [c6]; rfl) (by decide) ?_
              refine lv_sipush (v := 150) cx.1 cx.2.1 dX6_costOf_53 (by decide) ?_
              exact zRetI cx hrt hlk rfl hS hP ⟨(by unfold f_X6_costOf; rw [if_neg c1, if_neg c2, if_neg c3, if_neg c4, if_neg c5, if_pos c6]), rfl⟩ dX6_costOf_56
            · have tc1 := lv_neT c1 (k := 1) (a := 1) (by decide); have tc2 := lv_neT c2 (k := 2) (a := 2) (by decide); have tc3 := lv_neT c3 (k := 3) (a := 3) (by decide); have tc4 := lv_neT c4 (k := 4) (a := 4) (by decide); have tc5 := lv_neT c5 (k := 5) (a := 5) (by decide); have tc6 := lv_neT c6 (k := 6) (a := 6) (by decide); skip
              refine lv_tableOut (tgt := 57) cx.1 cx.2.1 dX6_costOf_1 (by omega) (by decide) ?_
              refine lv_iconst (v := 0) cx.1 cx.2.1 dX6_costOf_57 (by decide) ?_
              exact zRetI cx hrt hlk rfl hS hP ⟨(by unfold f_X6_costOf; rw [if_neg c1, if_neg c2, if_neg c3, if_neg c4, if_neg c5, if_neg c6]), rfl⟩ dX6_costOf_58

def f_X6_upkeepOf  (xk : Int32) : Int32 := if xk = 1 then 1 else (if xk = 2 then 0 else (if xk = 3 then 0 else (if xk = 4 then 2 else (if xk = 5 then 10 else (if xk = 6 then 10 else (0))))))
set_option maxHeartbeats 4000000 in
set_option maxRecDepth 100000 in
theorem c_X6_upkeepOf (l : Launch) (dC : Nat → ClassId) (dI : Nat → Nat → Nat) (cyI : ClassId) (ad : Nat → Nat) (hI : zI ad 36) (S : zS) (xk : Int32) : zMi l (dC, dI) [(cyI, .int)] ad 36 xN (cw cyI ad) yX6_upkeepOf wsX6_upkeepOf ({ frames := 0, cells := 0, slots := 0, locals := 0 } : Room) [.int xk] S (fun v T => v = f_X6_upkeepOf xk ∧ T = S) := by
  refine zStartI (by decide) rfl (Nat.le_of_ble_eq_true rfl) ?_
  intro p e s m args below meth c ls cx hrt hlk hP hK hXs hl
  have hl : lv_has ls 1 [(0, .int xk)] := hl
  have hS : va_S (zA ad 36 s.heap.size) s.heap s.heap [] := va_S.rf
  refine lv_iload_n cx.1 cx.2.1 dX6_upkeepOf_0 rfl (lv_at hl 0 rfl) ?_
  by_cases c1 : xk = 1
  · refine lv_tableIn (off := 39) (tgt := 40) cx.1 cx.2.1 dX6_upkeepOf_1 (by rw [c1]; decide) (by rw [c1]; decide) (by rw [c1]; rfl) (by decide) ?_
    refine lv_iconst (v := 1) cx.1 cx.2.1 dX6_upkeepOf_40 (by decide) ?_
    exact zRetI cx hrt hlk rfl hS hP ⟨(by unfold f_X6_upkeepOf; rw [if_pos c1]), rfl⟩ dX6_upkeepOf_41
  · by_cases c2 : xk = 2
    · refine lv_tableIn (off := 46) (tgt := 47) cx.1 cx.2.1 dX6_upkeepOf_1 (by rw [c2]; decide) (by rw [c2]; decide) (by rw [c2]; rfl) (by decide) ?_
      refine lv_iconst (v := 0) cx.1 cx.2.1 dX6_upkeepOf_47 (by decide) ?_
      exact zRetI cx hrt hlk rfl hS hP ⟨(by unfold f_X6_upkeepOf; rw [if_neg c1, if_pos c2]), rfl⟩ dX6_upkeepOf_48
    · by_cases c3 : xk = 3
      · refine lv_tableIn (off := 46) (tgt := 47) cx.1 cx.2.1 dX6_upkeepOf_1 (by rw [c3]; decide) (by rw [c3]; decide) (by rw [c3]; rfl) (by decide) ?_
        refine lv_iconst (v := 0) cx.1 cx.2.1 dX6_upkeepOf_47 (by decide) ?_
        exact zRetI cx hrt hlk rfl hS hP ⟨(by unfold f_X6_upkeepOf; rw [if_neg c1, if_neg c2, if_pos c3]), rfl⟩ dX6_upkeepOf_48
      · by_cases c4 : xk = 4
        · refine lv_tableIn (off := 41) (tgt := 42) cx.1 cx.2.1 dX6_upkeepOf_1 (by rw [c4]; decide) (by rw [c4]; decide) (by rw [c4]; rfl) (by decide) ?_
          refine lv_iconst (v := 2) cx.1 cx.2.1 dX6_upkeepOf_42 (by decide) ?_
          exact zRetI cx hrt hlk rfl hS hP ⟨(by unfold f_X6_upkeepOf; rw [if_neg c1, if_neg c2, if_neg c3, if_pos c4]), rfl⟩ dX6_upkeepOf_43
        · by_cases c5 : xk = 5
          · refine lv_tableIn (off := 43) (tgt := 44) cx.1 cx.2.1 dX6_upkeepOf_1 (by rw [c5]; decide) (by rw [c5]; decide) (by rw [c5]; rfl) (by decide) ?_
            refine lv_bipush (v := 10) cx.1 cx.2.1 dX6_upkeepOf_44 (by decide) ?_
            exact zRetI cx hrt hlk rfl hS hP ⟨(by unfold f_X6_upkeepOf; rw [if_neg c1, if_neg c2, if_neg c3, if_neg c4, if_pos c5]), rfl⟩ dX6_upkeepOf_46
          · by_cases c6 : xk = 6
            · refine lv_tableIn (off := 43) (tgt := 44) cx.1 cx.2.1 dX6_upkeepOf_1 (by rw [c6]; decide) (by rw [c6]; decide) (by rw [c6]; rfl) (by decide) ?_
              refine lv_bipush (v := 10) cx.1 cx.2.1 dX6_upkeepOf_44 (by decide) ?_
              exact zRetI cx hrt hlk rfl hS hP ⟨(by unfold f_X6_upkeepOf; rw [if_neg c1, if_neg c2, if_neg c3, if_neg c4, if_neg c5, if_pos c6]), rfl⟩ dX6_upkeepOf_46
            · have tc1 := lv_neT c1 (k := 1) (a := 1) (by decide); have tc2 := lv_neT c2 (k := 2) (a := 2) (by decide); have tc3 := lv_neT c3 (k := 3) (a := 3) (by decide); have tc4 := lv_neT c4 (k := 4) (a := 4) (by decide); have tc5 := lv_neT c5 (k := 5) (a := 5) (by decide); have tc6 := lv_neT c6 (k := 6) (a := 6) (by decide); skip
              refine lv_tableOut (tgt := 47) cx.1 cx.2.1 dX6_upkeepOf_1 (by omega) (by decide) ?_
              refine lv_iconst (v := 0) cx.1 cx.2.1 dX6_upkeepOf_47 (by decide) ?_
              exact zRetI cx hrt hlk rfl hS hP ⟨(by unfold f_X6_upkeepOf; rw [if_neg c1, if_neg c2, if_neg c3, if_neg c4, if_neg c5, if_neg c6]), rfl⟩ dX6_upkeepOf_48

def f_X0_kindOf (S : zS) (xc : Int32) : Int32 := rg 64 (S 0) xc
set_option maxHeartbeats 4000000 in
set_option maxRecDepth 100000 in
theorem c_X0_kindOf (l : Launch) (dC : Nat → ClassId) (dI : Nat → Nat → Nat) (cyI : ClassId) (ad : Nat → Nat) (hI : zI ad 36) (S : zS) (xc : Int32) : zMi l (dC, dI) [(cyI, .int)] ad 36 xN (cw cyI ad) yX0_kindOf wsX0_kindOf ({ frames := 1, cells := 0, slots := 0, locals := 21 } : Room) [.ref (ad 1), .int xc] S (fun v T => v = f_X0_kindOf S xc ∧ T = S) := by
  refine zStartI (by decide) rfl (Nat.le_of_ble_eq_true rfl) ?_
  intro p e s m args below meth c ls cx hrt hlk hP hK hXs hl
  have hl : lv_has ls 2 [(0, .ref (ad 1)), (1, .int xc)] := hl
  have hS : va_S (zA ad 36 s.heap.size) s.heap s.heap [] := va_S.rf
  have hinX0 : ∀ w ∈ u_ws RX0 TX0 2, w ∈ wsX0_kindOf := by decide +kernel
  refine lv_aload_n cx.1 cx.2.1 dX0_kindOf_0 rfl (lv_at hl 0 rfl) ?_
  refine zGet (v := .ref (ad 6)) (own := RX0) cx hinX0 hK hP 1 rfl rfl 0 (by decide) (by decide +kernel) rfl rfl dX0_kindOf_1 ?_
  refine lv_iload_n cx.1 cx.2.1 dX0_kindOf_4 rfl (lv_at hl 1 rfl) ?_
  refine zThenIx (v := rg 64 (S 0) xc) (S' := S) hS (zRunV (As := [.int xc]) (rest := []) _ 1 cx (c_X4_get l dC dI cyI ad hI S 0 (by decide) xc) gX0_kindOf_X4_get rfl ⟨rfl, rfl⟩ (by decide +kernel) ⟨Nat.le_of_ble_eq_true rfl, Nat.le_of_ble_eq_true rfl⟩ (xN_X ad 36) hXs hK hP hS 6 rfl rfl rfl rfl hl.1 rfl (Nat.le_of_ble_eq_true rfl) dX0_kindOf_5 ⟨Nat.zero_le _, Nat.zero_le _⟩) (fun H locs hP hS => ?_)
  exact zRetI cx hrt hlk rfl hS hP ⟨(by unfold f_X0_kindOf; rfl), rfl⟩ dX0_kindOf_8

def f_X0_levelOf (S : zS) (xc : Int32) : Int32 := rg 64 (S 1) xc
set_option maxHeartbeats 4000000 in
set_option maxRecDepth 100000 in
theorem c_X0_levelOf (l : Launch) (dC : Nat → ClassId) (dI : Nat → Nat → Nat) (cyI : ClassId) (ad : Nat → Nat) (hI : zI ad 36) (S : zS) (xc : Int32) : zMi l (dC, dI) [(cyI, .int)] ad 36 xN (cw cyI ad) yX0_levelOf wsX0_levelOf ({ frames := 1, cells := 0, slots := 0, locals := 21 } : Room) [.ref (ad 1), .int xc] S (fun v T => v = f_X0_levelOf S xc ∧ T = S) := by
  refine zStartI (by decide) rfl (Nat.le_of_ble_eq_true rfl) ?_
  intro p e s m args below meth c ls cx hrt hlk hP hK hXs hl
  have hl : lv_has ls 2 [(0, .ref (ad 1)), (1, .int xc)] := hl
  have hS : va_S (zA ad 36 s.heap.size) s.heap s.heap [] := va_S.rf
  have hinX0 : ∀ w ∈ u_ws RX0 TX0 2, w ∈ wsX0_levelOf := by decide +kernel
  refine lv_aload_n cx.1 cx.2.1 dX0_levelOf_0 rfl (lv_at hl 0 rfl) ?_
  refine zGet (v := .ref (ad 8)) (own := RX0) cx hinX0 hK hP 1 rfl rfl 1 (by decide) (by decide +kernel) rfl rfl dX0_levelOf_1 ?_
  refine lv_iload_n cx.1 cx.2.1 dX0_levelOf_4 rfl (lv_at hl 1 rfl) ?_
  refine zThenIx (v := rg 64 (S 1) xc) (S' := S) hS (zRunV (As := [.int xc]) (rest := []) _ 1 cx (c_X4_get l dC dI cyI ad hI S 1 (by decide) xc) gX0_levelOf_X4_get rfl ⟨rfl, rfl⟩ (by decide +kernel) ⟨Nat.le_of_ble_eq_true rfl, Nat.le_of_ble_eq_true rfl⟩ (xN_X ad 36) hXs hK hP hS 8 rfl rfl rfl rfl hl.1 rfl (Nat.le_of_ble_eq_true rfl) dX0_levelOf_5 ⟨Nat.zero_le _, Nat.zero_le _⟩) (fun H locs hP hS => ?_)
  exact zRetI cx hrt hlk rfl hS hP ⟨(by unfold f_X0_levelOf; rfl), rfl⟩ dX0_levelOf_8

def g_X0_lay (S : zS) (xc : Int32) (xk : Int32) : zS := zUp (zUp S 0 (rs 64 (S 0) xc xk)) 1 (rs 64 (S 1) xc 0)
theorem fr_X0_lay (S : zS) (xc : Int32) (xk : Int32) (r : Nat) (h0 : r ≠ 0) (h1 : r ≠ 1) : g_X0_lay S xc xk r = S r := by
  unfold g_X0_lay
  (repeat' split) <;> simp [zUp, h0, h1]
set_option maxHeartbeats 4000000 in
set_option maxRecDepth 100000 in
theorem c_X0_lay (l : Launch) (dC : Nat → ClassId) (dI : Nat → Nat → Nat) (cyI : ClassId) (ad : Nat → Nat) (hI : zI ad 36) (S : zS) (xc : Int32) (xk : Int32) : zMv l (dC, dI) [(cyI, .int)] ad 36 xN (cw cyI ad) yX0_lay wsX0_lay ({ frames := 1, cells := 0, slots := 0, locals := 22 } : Room) [.ref (ad 1), .int xc, .int xk] S (fun T => T = g_X0_lay S xc xk) := by
  refine zStartV (by decide) rfl (Nat.le_of_ble_eq_true rfl) ?_
  intro p e s m args below meth c ls cx hrt hlk hP hK hXs hl
  have hl : lv_has ls 3 [(0, .ref (ad 1)), (1, .int xc), (2, .int xk)] := hl
  have hS : va_S (zA ad 36 s.heap.size) s.heap s.heap [] := va_S.rf
  have hinX0 : ∀ w ∈ u_ws RX0 TX0 2, w ∈ wsX0_lay := by decide +kernel
  refine lv_aload_n cx.1 cx.2.1 dX0_lay_0 rfl (lv_at hl 0 rfl) ?_
  refine zGet (v := .ref (ad 6)) (own := RX0) cx hinX0 hK hP 1 rfl rfl 0 (by decide) (by decide +kernel) rfl rfl dX0_lay_1 ?_
  refine lv_iload_n cx.1 cx.2.1 dX0_lay_4 rfl (lv_at hl 1 rfl) ?_
  refine lv_iload_n cx.1 cx.2.1 dX0_lay_5 rfl (lv_at hl 2 rfl) ?_
  refine zThenVx (S' := zUp S 0 (rs 64 (S 0) xc xk)) hS (zRunV (As := [.int xc, .int xk]) (rest := []) _ 2 cx (c_X4_set l dC dI cyI ad hI S 0 (by decide) xc xk) gX0_lay_X4_set rfl ⟨rfl, rfl⟩ (by decide +kernel) ⟨Nat.le_of_ble_eq_true rfl, Nat.le_of_ble_eq_true rfl⟩ (xN_X ad 36) hXs hK hP hS 6 rfl rfl rfl rfl hl.1 rfl (Nat.le_of_ble_eq_true rfl) dX0_lay_6 ⟨Nat.zero_le _, Nat.zero_le _⟩) (fun H locs hP hS => ?_)
  refine lv_aload_n cx.1 cx.2.1 dX0_lay_9 rfl (lv_at hl 0 rfl) ?_
  refine zGet (v := .ref (ad 8)) (own := RX0) cx hinX0 hK hP 1 rfl rfl 1 (by decide) (by decide +kernel) rfl rfl dX0_lay_10 ?_
  refine lv_iload_n cx.1 cx.2.1 dX0_lay_13 rfl (lv_at hl 1 rfl) ?_
  refine lv_iconst (v := 0) cx.1 cx.2.1 dX0_lay_14 (by decide) ?_
  refine zThenVx (S' := zUp (zUp S 0 (rs 64 (S 0) xc xk)) 1 (rs 64 (S 1) xc 0)) hS (zRunV (As := [.int xc, .int 0]) (rest := []) _ 2 cx (c_X4_set l dC dI cyI ad hI (zUp S 0 (rs 64 (S 0) xc xk)) 1 (by decide) xc 0) gX0_lay_X4_set rfl ⟨rfl, rfl⟩ (by decide +kernel) ⟨Nat.le_of_ble_eq_true rfl, Nat.le_of_ble_eq_true rfl⟩ (xN_X ad 36) hXs hK hP hS 8 rfl rfl rfl rfl hl.1 rfl (Nat.le_of_ble_eq_true rfl) dX0_lay_15 ⟨Nat.zero_le _, Nat.zero_le _⟩) (fun H locs hP hS => ?_)
  exact zRetV cx hrt hlk hS hP (by unfold g_X0_lay; rfl) dX0_lay_18

def g_X0_changeLevel (S : zS) (xc : Int32) (xv : Int32) : zS := zUp S 1 (rs 64 (S 1) xc xv)
theorem fr_X0_changeLevel (S : zS) (xc : Int32) (xv : Int32) (r : Nat) (h1 : r ≠ 1) : g_X0_changeLevel S xc xv r = S r := by
  unfold g_X0_changeLevel
  (repeat' split) <;> simp [zUp, h1]
set_option maxHeartbeats 4000000 in
set_option maxRecDepth 100000 in
theorem c_X0_changeLevel (l : Launch) (dC : Nat → ClassId) (dI : Nat → Nat → Nat) (cyI : ClassId) (ad : Nat → Nat) (hI : zI ad 36) (S : zS) (xc : Int32) (xv : Int32) : zMv l (dC, dI) [(cyI, .int)] ad 36 xN (cw cyI ad) yX0_changeLevel wsX0_changeLevel ({ frames := 1, cells := 0, slots := 0, locals := 22 } : Room) [.ref (ad 1), .int xc, .int xv] S (fun T => T = g_X0_changeLevel S xc xv) := by
  refine zStartV (by decide) rfl (Nat.le_of_ble_eq_true rfl) ?_
  intro p e s m args below meth c ls cx hrt hlk hP hK hXs hl
  have hl : lv_has ls 3 [(0, .ref (ad 1)), (1, .int xc), (2, .int xv)] := hl
  have hS : va_S (zA ad 36 s.heap.size) s.heap s.heap [] := va_S.rf
  have hinX0 : ∀ w ∈ u_ws RX0 TX0 2, w ∈ wsX0_changeLevel := by decide +kernel
  refine lv_aload_n cx.1 cx.2.1 dX0_changeLevel_0 rfl (lv_at hl 0 rfl) ?_
  refine zGet (v := .ref (ad 8)) (own := RX0) cx hinX0 hK hP 1 rfl rfl 1 (by decide) (by decide +kernel) rfl rfl dX0_changeLevel_1 ?_
  refine lv_iload_n cx.1 cx.2.1 dX0_changeLevel_4 rfl (lv_at hl 1 rfl) ?_
  refine lv_iload_n cx.1 cx.2.1 dX0_changeLevel_5 rfl (lv_at hl 2 rfl) ?_
  refine zThenVx (S' := zUp S 1 (rs 64 (S 1) xc xv)) hS (zRunV (As := [.int xc, .int xv]) (rest := []) _ 2 cx (c_X4_set l dC dI cyI ad hI S 1 (by decide) xc xv) gX0_changeLevel_X4_set rfl ⟨rfl, rfl⟩ (by decide +kernel) ⟨Nat.le_of_ble_eq_true rfl, Nat.le_of_ble_eq_true rfl⟩ (xN_X ad 36) hXs hK hP hS 8 rfl rfl rfl rfl hl.1 rfl (Nat.le_of_ble_eq_true rfl) dX0_changeLevel_6 ⟨Nat.zero_le _, Nat.zero_le _⟩) (fun H locs hP hS => ?_)
  exact zRetV cx hrt hlk hS hP (by unfold g_X0_changeLevel; rfl) dX0_changeLevel_9

def f_X0_isRoad (S : zS) (xc : Int32) : Int32 := if ¬ (rg 64 (S 0) xc) = 1 then 0 else (1)
set_option maxHeartbeats 4000000 in
set_option maxRecDepth 100000 in
theorem c_X0_isRoad (l : Launch) (dC : Nat → ClassId) (dI : Nat → Nat → Nat) (cyI : ClassId) (ad : Nat → Nat) (hI : zI ad 36) (S : zS) (xc : Int32) : zMi l (dC, dI) [(cyI, .int)] ad 36 xN (cw cyI ad) yX0_isRoad wsX0_isRoad ({ frames := 1, cells := 0, slots := 0, locals := 21 } : Room) [.ref (ad 1), .int xc] S (fun v T => v = f_X0_isRoad S xc ∧ T = S) := by
  refine zStartI (by decide) rfl (Nat.le_of_ble_eq_true rfl) ?_
  intro p e s m args below meth c ls cx hrt hlk hP hK hXs hl
  have hl : lv_has ls 2 [(0, .ref (ad 1)), (1, .int xc)] := hl
  have hS : va_S (zA ad 36 s.heap.size) s.heap s.heap [] := va_S.rf
  have hinX0 : ∀ w ∈ u_ws RX0 TX0 2, w ∈ wsX0_isRoad := by decide +kernel
  refine lv_aload_n cx.1 cx.2.1 dX0_isRoad_0 rfl (lv_at hl 0 rfl) ?_
  refine zGet (v := .ref (ad 6)) (own := RX0) cx hinX0 hK hP 1 rfl rfl 0 (by decide) (by decide +kernel) rfl rfl dX0_isRoad_1 ?_
  refine lv_iload_n cx.1 cx.2.1 dX0_isRoad_4 rfl (lv_at hl 1 rfl) ?_
  refine zThenIx (v := rg 64 (S 0) xc) (S' := S) hS (zRunV (As := [.int xc]) (rest := []) _ 1 cx (c_X4_get l dC dI cyI ad hI S 0 (by decide) xc) gX0_isRoad_X4_get rfl ⟨rfl, rfl⟩ (by decide +kernel) ⟨Nat.le_of_ble_eq_true rfl, Nat.le_of_ble_eq_true rfl⟩ (xN_X ad 36) hXs hK hP hS 6 rfl rfl rfl rfl hl.1 rfl (Nat.le_of_ble_eq_true rfl) dX0_isRoad_5 ⟨Nat.zero_le _, Nat.zero_le _⟩) (fun H locs hP hS => ?_)
  refine lv_iconst (v := 1) cx.1 cx.2.1 dX0_isRoad_8 (by decide) ?_
  refine lv_icmp_ne (tgt := 16) cx.1 cx.2.1 dX0_isRoad_9 (by decide) (fun c1 => ?_) (fun c1 => ?_)
  · refine lv_iconst (v := 0) cx.1 cx.2.1 dX0_isRoad_16 (by decide) ?_
    exact zRetI cx hrt hlk (by first | rfl | decide) hS hP ⟨(by unfold f_X0_isRoad; rw [if_pos c1]), rfl⟩ dX0_isRoad_17
  · refine lv_iconst (v := 1) cx.1 cx.2.1 dX0_isRoad_12 (by decide) ?_
    refine lv_goto (tgt := 17) cx.1 cx.2.1 dX0_isRoad_13 (by decide) ?_
    exact zRetI cx hrt hlk (by first | rfl | decide) hS hP ⟨(by unfold f_X0_isRoad; rw [if_neg (not_not_intro c1)]), rfl⟩ dX0_isRoad_17

def f_X0_isZone (S : zS) (xc : Int32) : Int32 := if (rg 64 (S 0) xc) = 2 then 1 else (if ¬ (rg 64 (S 0) xc) = 3 then 0 else (1))
set_option maxHeartbeats 4000000 in
set_option maxRecDepth 100000 in
theorem c_X0_isZone (l : Launch) (dC : Nat → ClassId) (dI : Nat → Nat → Nat) (cyI : ClassId) (ad : Nat → Nat) (hI : zI ad 36) (S : zS) (xc : Int32) : zMi l (dC, dI) [(cyI, .int)] ad 36 xN (cw cyI ad) yX0_isZone wsX0_isZone ({ frames := 1, cells := 0, slots := 0, locals := 21 } : Room) [.ref (ad 1), .int xc] S (fun v T => v = f_X0_isZone S xc ∧ T = S) := by
  refine zStartI (by decide) rfl (Nat.le_of_ble_eq_true rfl) ?_
  intro p e s m args below meth c ls cx hrt hlk hP hK hXs hl
  have hl : lv_has ls 3 [(0, .ref (ad 1)), (1, .int xc)] := hl
  have hS : va_S (zA ad 36 s.heap.size) s.heap s.heap [] := va_S.rf
  have hinX0 : ∀ w ∈ u_ws RX0 TX0 2, w ∈ wsX0_isZone := by decide +kernel
  refine lv_aload_n cx.1 cx.2.1 dX0_isZone_0 rfl (lv_at hl 0 rfl) ?_
  refine zGet (v := .ref (ad 6)) (own := RX0) cx hinX0 hK hP 1 rfl rfl 0 (by decide) (by decide +kernel) rfl rfl dX0_isZone_1 ?_
  refine lv_iload_n cx.1 cx.2.1 dX0_isZone_4 rfl (lv_at hl 1 rfl) ?_
  refine zThenIx (v := rg 64 (S 0) xc) (S' := S) hS (zRunV (As := [.int xc]) (rest := []) _ 1 cx (c_X4_get l dC dI cyI ad hI S 0 (by decide) xc) gX0_isZone_X4_get rfl ⟨rfl, rfl⟩ (by decide +kernel) ⟨Nat.le_of_ble_eq_true rfl, Nat.le_of_ble_eq_true rfl⟩ (xN_X ad 36) hXs hK hP hS 6 rfl rfl rfl rfl hl.1 rfl (Nat.le_of_ble_eq_true rfl) dX0_isZone_5 ⟨Nat.zero_le _, Nat.zero_le _⟩) (fun H locs hP hS => ?_)
  refine lv_istore_n (lv' := [(2, .int (rg 64 (S 0) xc)), (0, .ref (ad 1)), (1, .int xc)]) cx.1 cx.2.1 dX0_isZone_8 rfl hl (by decide) rfl (fun ls hl => ?_)
  refine lv_iload_n cx.1 cx.2.1 dX0_isZone_9 rfl (lv_at hl 0 rfl) ?_
  refine lv_iconst (v := 2) cx.1 cx.2.1 dX0_isZone_10 (by decide) ?_
  refine lv_icmp_eq (tgt := 19) cx.1 cx.2.1 dX0_isZone_11 (by decide) (fun c1 => ?_) (fun c1 => ?_)
  · refine lv_iconst (v := 1) cx.1 cx.2.1 dX0_isZone_19 (by decide) ?_
    refine lv_goto (tgt := 24) cx.1 cx.2.1 dX0_isZone_20 (by decide) ?_
    exact zRetI cx hrt hlk (by first | rfl | decide) hS hP ⟨(by unfold f_X0_isZone; rw [if_pos c1]), rfl⟩ dX0_isZone_24
  · refine lv_iload_n cx.1 cx.2.1 dX0_isZone_14 rfl (lv_at hl 0 rfl) ?_
    refine lv_iconst (v := 3) cx.1 cx.2.1 dX0_isZone_15 (by decide) ?_
    refine lv_icmp_ne (tgt := 23) cx.1 cx.2.1 dX0_isZone_16 (by decide) (fun c2 => ?_) (fun c2 => ?_)
    · refine lv_iconst (v := 0) cx.1 cx.2.1 dX0_isZone_23 (by decide) ?_
      exact zRetI cx hrt hlk (by first | rfl | decide) hS hP ⟨(by unfold f_X0_isZone; rw [if_neg c1, if_pos c2]), rfl⟩ dX0_isZone_24
    · refine lv_iconst (v := 1) cx.1 cx.2.1 dX0_isZone_19 (by decide) ?_
      refine lv_goto (tgt := 24) cx.1 cx.2.1 dX0_isZone_20 (by decide) ?_
      exact zRetI cx hrt hlk (by first | rfl | decide) hS hP ⟨(by unfold f_X0_isZone; rw [if_neg c1, if_neg (not_not_intro c2)]), rfl⟩ dX0_isZone_24

def f_X0_peopleOf (S : zS) (xc : Int32) : Int32 := 2 * (rg 64 (S 1) xc)
set_option maxHeartbeats 4000000 in
set_option maxRecDepth 100000 in
theorem c_X0_peopleOf (l : Launch) (dC : Nat → ClassId) (dI : Nat → Nat → Nat) (cyI : ClassId) (ad : Nat → Nat) (hI : zI ad 36) (S : zS) (xc : Int32) : zMi l (dC, dI) [(cyI, .int)] ad 36 xN (cw cyI ad) yX0_peopleOf wsX0_peopleOf ({ frames := 1, cells := 0, slots := 0, locals := 21 } : Room) [.ref (ad 1), .int xc] S (fun v T => v = f_X0_peopleOf S xc ∧ T = S) := by
  refine zStartI (by decide) rfl (Nat.le_of_ble_eq_true rfl) ?_
  intro p e s m args below meth c ls cx hrt hlk hP hK hXs hl
  have hl : lv_has ls 2 [(0, .ref (ad 1)), (1, .int xc)] := hl
  have hS : va_S (zA ad 36 s.heap.size) s.heap s.heap [] := va_S.rf
  have hinX0 : ∀ w ∈ u_ws RX0 TX0 2, w ∈ wsX0_peopleOf := by decide +kernel
  refine lv_iconst (v := 2) cx.1 cx.2.1 dX0_peopleOf_0 (by decide) ?_
  refine lv_aload_n cx.1 cx.2.1 dX0_peopleOf_1 rfl (lv_at hl 0 rfl) ?_
  refine zGet (v := .ref (ad 8)) (own := RX0) cx hinX0 hK hP 1 rfl rfl 1 (by decide) (by decide +kernel) rfl rfl dX0_peopleOf_2 ?_
  refine lv_iload_n cx.1 cx.2.1 dX0_peopleOf_5 rfl (lv_at hl 1 rfl) ?_
  refine zThenIx (v := rg 64 (S 1) xc) (S' := S) hS (zRunV (As := [.int xc]) (rest := [.int 2]) _ 1 cx (c_X4_get l dC dI cyI ad hI S 1 (by decide) xc) gX0_peopleOf_X4_get rfl ⟨rfl, rfl⟩ (by decide +kernel) ⟨Nat.le_of_ble_eq_true rfl, Nat.le_of_ble_eq_true rfl⟩ (xN_X ad 36) hXs hK hP hS 8 rfl rfl rfl rfl hl.1 rfl (Nat.le_of_ble_eq_true rfl) dX0_peopleOf_6 ⟨Nat.zero_le _, Nat.zero_le _⟩) (fun H locs hP hS => ?_)
  refine lv_imul cx.1 cx.2.1 dX0_peopleOf_9 ?_
  exact zRetI cx hrt hlk rfl hS hP ⟨(by unfold f_X0_peopleOf; rfl), rfl⟩ dX0_peopleOf_10

def bd_X0_countNear_5 (S : zS) (xc : Int32) (xk : Int32) (i : Nat) (n : Int32) : Int32 := if ¬ (rg 64 (S 0) (nI i)) = xk then (n) else (if 2 < (f_X6_distanceOf xc (nI i)) then (n) else (n + 1))
def lp_X0_countNear_5 (S : zS) (xc : Int32) (xk : Int32) (n0 : Int32) : Nat → Int32
  | 0 => (n0)
  | q + 1 => bd_X0_countNear_5 S xc xk q (lp_X0_countNear_5 S xc xk n0 q)
def f_X0_countNear (S : zS) (xc : Int32) (xk : Int32) : Int32 := (lp_X0_countNear_5 S xc xk 0 64)
set_option maxHeartbeats 4000000 in
set_option maxRecDepth 100000 in
theorem c_X0_countNear (l : Launch) (dC : Nat → ClassId) (dI : Nat → Nat → Nat) (cyI : ClassId) (ad : Nat → Nat) (hI : zI ad 36) (S : zS) (xc : Int32) (xk : Int32) : zMi l (dC, dI) [(cyI, .int)] ad 36 xN (cw cyI ad) yX0_countNear wsX0_countNear ({ frames := 2, cells := 0, slots := 0, locals := 42 } : Room) [.ref (ad 1), .int xc, .int xk] S (fun v T => v = f_X0_countNear S xc xk ∧ T = S) := by
  refine zStartI (by decide) rfl (Nat.le_of_ble_eq_true rfl) ?_
  intro p e s m args below meth c ls cx hrt hlk hP hK hXs hl
  have hl : lv_has ls 5 [(0, .ref (ad 1)), (1, .int xc), (2, .int xk)] := hl
  have hS : va_S (zA ad 36 s.heap.size) s.heap s.heap [] := va_S.rf
  have hinX0 : ∀ w ∈ u_ws RX0 TX0 2, w ∈ wsX0_countNear := by decide +kernel
  obtain ⟨Q, hQ⟩ : ∃ Q, Q = MQ below (zQi (dC, dI) (cw cyI ad) (fun v T => v = f_X0_countNear S xc xk ∧ T = S) (zA ad 36 s.heap.size)) args s 0 0 (zA ad 36 s.heap.size) := ⟨_, rfl⟩
  rw [← hQ]
  refine lv_iconst (v := 0) cx.1 cx.2.1 dX0_countNear_0 (by decide) ?_
  refine lv_istore_n (lv' := [(3, .int 0), (0, .ref (ad 1)), (1, .int xc), (2, .int xk)]) cx.1 cx.2.1 dX0_countNear_1 rfl hl (by decide) rfl (fun ls hl => ?_)
  refine lv_iconst (v := 0) cx.1 cx.2.1 dX0_countNear_2 (by decide) ?_
  refine lv_istore (lv' := [(4, .int 0), (3, .int 0), (0, .ref (ad 1)), (1, .int xc), (2, .int xk)]) cx.1 cx.2.1 dX0_countNear_3 hl (by decide) rfl (fun ls hl => ?_)
  have lp5 : ∀ (fu i : Nat) (n : Int32) (hi5 : i ≤ 64) (hacc5 : lp_X0_countNear_5 S xc xk 0 i = n)  (_ : 64 - i < fu) (H : Heap) (locs : List Loc) (ls : Array Slot), va_P (dC, dI) vwCl (cw cyI ad S) H → va_S (zA ad 36 s.heap.size) s.heap H locs → lv_has ls 5 [(4, .int (nI i)), (3, .int n), (0, .ref (ad 1)), (1, .int xc), (2, .int xk)] → W p l e (headSpec wsX0_countNear ({ frames := 2, cells := 0, slots := 0, locals := 42 } : Room)).room s m args below meth c H locs 0 0 Q (F0 m 5 ls []) := by
    intro fu
    induction fu with
    | zero => intro i n hi5 hacc5  hm; exact absurd hm (Nat.not_lt_zero _)
    | succ fu ih5 =>
      intro i n hi5 hacc5  hm H locs ls hP hS hl
      refine lv_iload cx.1 cx.2.1 dX0_countNear_5 (lv_at hl 0 rfl) ?_
      refine lv_bipush (v := 64) cx.1 cx.2.1 dX0_countNear_7 (by decide) ?_
      refine lv_icmp_ge (tgt := 44) cx.1 cx.2.1 dX0_countNear_9 (by decide) (fun c1 => ?_) (fun c1 => ?_)
      · have nc1 : 64 ≤ i := (nI_leI (a := 64) (b := i) (by first | decide | omega) (by first | decide | omega)).mp c1
        obtain rfl : i = 64 := by omega
        subst hacc5
        refine lv_iload_n cx.1 cx.2.1 dX0_countNear_44 rfl (lv_at hl 1 rfl) ?_
        rw [hQ]
        exact zRetI cx hrt hlk rfl hS hP ⟨(by unfold f_X0_countNear; rfl), rfl⟩ dX0_countNear_45
      · have nc1 : ¬ 64 ≤ i := fun z => c1 ((nI_leI (a := 64) (b := i) (by first | decide | omega) (by first | decide | omega)).mpr z)
        refine lv_aload_n cx.1 cx.2.1 dX0_countNear_12 rfl (lv_at hl 2 rfl) ?_
        refine zGet (v := .ref (ad 6)) (own := RX0) cx hinX0 hK hP 1 rfl rfl 0 (by decide) (by decide +kernel) rfl rfl dX0_countNear_13 ?_
        refine lv_iload cx.1 cx.2.1 dX0_countNear_16 (lv_at hl 0 rfl) ?_
        refine zThenIx (v := rg 64 (S 0) (nI i)) (S' := S) hS (zRunV (As := [.int (nI i)]) (rest := []) _ 1 cx (c_X4_get l dC dI cyI ad hI S 0 (by decide) (nI i)) gX0_countNear_X4_get rfl ⟨rfl, rfl⟩ (by decide +kernel) ⟨Nat.le_of_ble_eq_true rfl, Nat.le_of_ble_eq_true rfl⟩ (xN_X ad 36) hXs hK hP hS 6 rfl rfl rfl rfl hl.1 rfl (Nat.le_of_ble_eq_true rfl) dX0_countNear_18 ⟨Nat.zero_le _, Nat.zero_le _⟩) (fun H locs hP hS => ?_)
        refine lv_iload_n cx.1 cx.2.1 dX0_countNear_21 rfl (lv_at hl 4 rfl) ?_
        refine lv_icmp_ne (tgt := 38) cx.1 cx.2.1 dX0_countNear_22 (by decide) (fun c2 => ?_) (fun c2 => ?_)
        · refine lv_iinc (v := nI (i + 1)) (lv' := [(4, .int (nI (i + 1))), (3, .int n), (0, .ref (ad 1)), (1, .int xc), (2, .int xk)]) cx.1 cx.2.1 dX0_countNear_38 hl (k := 0) rfl (nI_1 i) (by decide) rfl (fun ls hl => ?_)
          refine lv_goto (tgt := 5) cx.1 cx.2.1 dX0_countNear_41 (by decide) ?_
          have ha5 : lp_X0_countNear_5 S xc xk 0 (i + 1) = n := by
            show bd_X0_countNear_5 S xc xk i (lp_X0_countNear_5 S xc xk 0 i) = _
            rw [hacc5]
            unfold bd_X0_countNear_5
            rw [if_pos c2]
          exact ih5 (i + 1) n (by omega) ha5  (by omega) _ _ ls hP hS (lv_sub hl [0, 1, 2, 3, 4] rfl)
        · refine lv_iload_n cx.1 cx.2.1 dX0_countNear_25 rfl (lv_at hl 3 rfl) ?_
          refine lv_iload cx.1 cx.2.1 dX0_countNear_26 (lv_at hl 0 rfl) ?_
          refine zThenIx (v := f_X6_distanceOf xc (nI i)) (S' := S) hS (zRunSN (As := [.int xc, .int (nI i)]) (rest := []) _ 2 cx (c_X6_distanceOf l dC dI cyI ad hI S xc (nI i)) gX0_countNear_X6_distanceOf_n30 hXs.1 (cx.2.2.2.2 _ (by decide +kernel)) (cx.2.2.2.2 _ (by decide +kernel)) rfl ⟨rfl, rfl⟩ (by decide +kernel) ⟨Nat.le_of_ble_eq_true rfl, Nat.le_of_ble_eq_true rfl⟩ (xN_X ad 36) hXs hK hP hS rfl hl.1 rfl (Nat.le_of_ble_eq_true rfl) dX0_countNear_28 ⟨Nat.zero_le _, Nat.zero_le _⟩) (fun H locs hP hS => ?_)
          refine lv_iconst (v := 2) cx.1 cx.2.1 dX0_countNear_31 (by decide) ?_
          refine lv_icmp_gt (tgt := 38) cx.1 cx.2.1 dX0_countNear_32 (by decide) (fun c3 => ?_) (fun c3 => ?_)
          · refine lv_iinc (v := nI (i + 1)) (lv' := [(4, .int (nI (i + 1))), (3, .int n), (0, .ref (ad 1)), (1, .int xc), (2, .int xk)]) cx.1 cx.2.1 dX0_countNear_38 hl (k := 0) rfl (nI_1 i) (by decide) rfl (fun ls hl => ?_)
            refine lv_goto (tgt := 5) cx.1 cx.2.1 dX0_countNear_41 (by decide) ?_
            have ha5 : lp_X0_countNear_5 S xc xk 0 (i + 1) = n := by
              show bd_X0_countNear_5 S xc xk i (lp_X0_countNear_5 S xc xk 0 i) = _
              rw [hacc5]
              unfold bd_X0_countNear_5
              rw [if_neg (not_not_intro c2), if_pos c3]
            exact ih5 (i + 1) n (by omega) ha5  (by omega) _ _ ls hP hS (lv_sub hl [0, 1, 2, 3, 4] rfl)
          · refine lv_iinc (v := n + 1) (lv' := [(3, .int (n + 1)), (4, .int (nI i)), (0, .ref (ad 1)), (1, .int xc), (2, .int xk)]) cx.1 cx.2.1 dX0_countNear_35 hl (k := 1) rfl rfl (by decide) rfl (fun ls hl => ?_)
            refine lv_iinc (v := nI (i + 1)) (lv' := [(4, .int (nI (i + 1))), (3, .int (n + 1)), (0, .ref (ad 1)), (1, .int xc), (2, .int xk)]) cx.1 cx.2.1 dX0_countNear_38 hl (k := 1) rfl (nI_1 i) (by decide) rfl (fun ls hl => ?_)
            refine lv_goto (tgt := 5) cx.1 cx.2.1 dX0_countNear_41 (by decide) ?_
            have ha5 : lp_X0_countNear_5 S xc xk 0 (i + 1) = n + 1 := by
              show bd_X0_countNear_5 S xc xk i (lp_X0_countNear_5 S xc xk 0 i) = _
              rw [hacc5]
              unfold bd_X0_countNear_5
              rw [if_neg (not_not_intro c2), if_neg c3]
            exact ih5 (i + 1) (n + 1) (by omega) ha5  (by omega) _ _ ls hP hS (lv_sub hl [0, 1, 2, 3, 4] rfl)
  exact lp5 (64 - 0 + 1) 0 0 (by omega) rfl  (Nat.lt_succ_self _) _ _ ls hP hS (lv_sub hl [0, 1, 2, 3, 4] rfl)
