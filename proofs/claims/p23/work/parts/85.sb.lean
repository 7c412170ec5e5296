theorem b7 : ∀ ch, ch < 128 → (nI ch).toInt8.toInt32 = nI ch := by decide +kernel
theorem b8 : ∀ ch, ch < 128 → vp_nar .byte (nI ch) = nI ch := by decide +kernel
theorem b9 : ∀ d, d < 10 → ¬ -(nI d) ≤ (-10 : Int32) := by decide +kernel
theorem b10 : ∀ d, d < 10 → (-100 : Int32) < -(nI d) := by decide +kernel
theorem b11 : ∀ d, d < 10 → (-9 : Int32) ≤ -(nI d) := by decide +kernel
theorem bw_cnt (cyB : ClassId) (ad : Nat → Nat) (S : zS) (v : Int32) : (bw cyB ad S).set 0 (ad 0, .inr (1, ([.ref (ad 1), .int 0, .int 0, .int (S 1 0)] : List Value).set 3 (.int v))) = bw cyB ad (zUp S 1 (upd (S 1) 0 v)) := by
  unfold bw
  rw [zUp_s, pk_us, zUp_n _ _ (show (0 : Nat) ≠ 1 by decide)]
  rfl
theorem bw_byt (cyB : ClassId) (ad : Nat → Nat) (S : zS) (f : Nat → Int32) : (bw cyB ad S).set 1 (ad 1, .inl (cyB, 16, .inl f)) = bw cyB ad (zUp S 0 f) := by
  unfold bw
  rw [zUp_s, zUp_n _ _ (show (1 : Nat) ≠ 0 by decide)]
  rfl
set_option maxHeartbeats 1000000 in
set_option maxRecDepth 100000 in
theorem c_J5_isLatin1_aae02 (l : Launch) (dC : Nat → ClassId) (dI : Nat → Nat → Nat) (cyB : ClassId) (ad : Nat → Nat) (hI : zI ad 2) (S : zS) : zMi l (dC, dI) [(cyB, .byte)] ad 2 xB (bw cyB ad) yJ5_isLatin1_aae02 wsJ5_isLatin1_aae02 (rmk 0 0 0) [.ref (ad 0)] S (fun v T => v = 1 ∧ T = S) := by
  refine zStartI (by decide) rfl (Nat.le_of_ble_eq_true rfl) ?_
  intro p e s m args below meth c ls cx hrt hlk hP hK hXs hl
  have hl : lv_has ls 1 [(0, .ref (ad 0))] := hl
  have hS : va_S (zA ad 2 s.heap.size) s.heap s.heap [] := va_S.rf
  have hinJ4 : ∀ w ∈ u_ws RJ4 TJ4 4, w ∈ wsJ5_isLatin1_aae02 := by decide +kernel
  refine va_gets cx.1 cx.2.1 hXs.1 hS cx.2.2.2.1 (cx.2.2.2.2 (.fieldLink RJ5 18 "java/lang/String" "COMPACT_STRINGS" "Z") (by decide +kernel)) (fun _ h => h) dJ5_isLatin1_aae02_0 ?_
  refine lv_if_eq (tgt := 17) cx.1 cx.2.1 dJ5_isLatin1_aae02_3 (by decide) (fun c => absurd c (by decide)) (fun c => ?_)
  refine lv_aload_n cx.1 cx.2.1 dJ5_isLatin1_aae02_6 rfl (lv_at hl 0 rfl) ?_
  refine zGet (CC := RJ4) (T := TJ4) (N := 4) (ref := "java/lang/AbstractStringBuilder") cx hinJ4 hK hP 0 rfl rfl 1 (by decide) (by decide +kernel) rfl (v := .int 0) rfl dJ5_isLatin1_aae02_7 ?_
  refine lv_if_ne (tgt := 17) cx.1 cx.2.1 dJ5_isLatin1_aae02_10 (by decide) (fun c => absurd rfl c) (fun c => ?_)
  refine lv_iconst (v := 1) cx.1 cx.2.1 dJ5_isLatin1_aae02_13 (by decide) ?_
  refine lv_goto (tgt := 18) cx.1 cx.2.1 dJ5_isLatin1_aae02_14 (by decide) ?_
  exact zRetI cx hrt hlk rfl hS hP ⟨rfl, rfl⟩ dJ5_isLatin1_aae02_18
set_option maxHeartbeats 1000000 in
set_option maxRecDepth 100000 in
theorem c_J1_canEncode_fc78d (l : Launch) (dC : Nat → ClassId) (dI : Nat → Nat → Nat) {ad : Nat → Nat} {tys : List (ClassId × FieldType)} {n : Nat} {X : (Nat → Prop) → State → Prop} {w : zS → va_W} (S : zS) (x : Int32) (hx : ¬ (255 : Int32) < x) : zMi l (dC, dI) tys ad n X w yJ1_canEncode_fc78d wsJ1_canEncode_fc78d (rmk 0 0 0) [.int x] S (fun v T => v = 1 ∧ T = S) := by
  refine zStartI (by decide) rfl (Nat.le_of_ble_eq_true rfl) ?_
  intro p e s m args below meth c ls cx hrt hlk hP hK hXs hl
  have hl : lv_has ls 1 [(0, .int x)] := hl
  have hS : va_S (zA ad n s.heap.size) s.heap s.heap [] := va_S.rf
  refine lv_iload_n cx.1 cx.2.1 dJ1_canEncode_fc78d_0 rfl (lv_at hl 0 rfl) ?_
  refine lv_sipush (v := 255) cx.1 cx.2.1 dJ1_canEncode_fc78d_1 (by decide) ?_
  refine lv_icmp_gt (tgt := 11) cx.1 cx.2.1 dJ1_canEncode_fc78d_4 (by decide) (fun c => absurd c hx) (fun c => ?_)
  refine lv_iconst (v := 1) cx.1 cx.2.1 dJ1_canEncode_fc78d_7 (by decide) ?_
  refine lv_goto (tgt := 12) cx.1 cx.2.1 dJ1_canEncode_fc78d_8 (by decide) ?_
  exact zRetI cx hrt hlk rfl hS hP ⟨rfl, rfl⟩ dJ1_canEncode_fc78d_12
set_option maxHeartbeats 1000000 in
set_option maxRecDepth 100000 in
theorem c_J5_ensureCapacityInternal_d00df (l : Launch) (dC : Nat → ClassId) (dI : Nat → Nat → Nat) (cyB : ClassId) (ad : Nat → Nat) (hI : zI ad 2) (S : zS) (q : Nat) (hq : q ≤ 16) : zMv l (dC, dI) [(cyB, .byte)] ad 2 xB (bw cyB ad) yJ5_ensureCapacityInternal_d00df wsJ5_ensureCapacityInternal_d00df (rmk 0 0 0) [.ref (ad 0), .int (nI q)] S (fun T => T = S) := by
  refine zStartV (by decide) rfl (Nat.le_of_ble_eq_true rfl) ?_
  intro p e s m args below meth c ls cx hrt hlk hP hK hXs hl
  have hl : lv_has ls 3 [(0, .ref (ad 0)), (1, .int (nI q))] := hl
  have hS : va_S (zA ad 2 s.heap.size) s.heap s.heap [] := va_S.rf
  have hinJ4 : ∀ w ∈ u_ws RJ4 TJ4 4, w ∈ wsJ5_ensureCapacityInternal_d00df := by decide +kernel
  refine lv_aload_n cx.1 cx.2.1 dJ5_ensureCapacityInternal_d00df_0 rfl (lv_at hl 0 rfl) ?_
  refine zGet (CC := RJ4) (T := TJ4) (N := 4) (ref := "java/lang/AbstractStringBuilder") cx hinJ4 hK hP 0 rfl rfl 0 (by decide) (by decide +kernel) rfl (v := .ref (ad 1)) rfl dJ5_ensureCapacityInternal_d00df_1 ?_
  refine va_alen cx.1 cx.2.1 hK hP 1 0 rfl rfl (v := nI 16) rfl dJ5_ensureCapacityInternal_d00df_4 ?_
  refine lv_aload_n cx.1 cx.2.1 dJ5_ensureCapacityInternal_d00df_5 rfl (lv_at hl 0 rfl) ?_
  refine zGet (CC := RJ4) (T := TJ4) (N := 4) (ref := "java/lang/AbstractStringBuilder") cx hinJ4 hK hP 0 rfl rfl 1 (by decide) (by decide +kernel) rfl (v := .int 0) rfl dJ5_ensureCapacityInternal_d00df_6 ?_
  refine lv_ishr cx.1 cx.2.1 dJ5_ensureCapacityInternal_d00df_9 ?_
  rw [sb_shr0]
  refine lv_istore_n (lv' := [(2, .int (nI 16)), (0, .ref (ad 0)), (1, .int (nI q))]) cx.1 cx.2.1 dJ5_ensureCapacityInternal_d00df_10 rfl hl (by decide) rfl (fun ls hl => ?_)
  refine lv_iload_n cx.1 cx.2.1 dJ5_ensureCapacityInternal_d00df_11 rfl (lv_at hl 2 rfl) ?_
  refine lv_iload_n cx.1 cx.2.1 dJ5_ensureCapacityInternal_d00df_12 rfl (lv_at hl 0 rfl) ?_
  refine lv_isub cx.1 cx.2.1 dJ5_ensureCapacityInternal_d00df_13 ?_
  have hle : nI q - nI 16 ≤ 0 := by
    rw [Int32.le_iff_toInt_le, pk_sub_toInt (by omega) (by omega), Int32.toInt_zero]
    omega
  refine lv_if_le (tgt := 38) cx.1 cx.2.1 dJ5_ensureCapacityInternal_d00df_14 (by decide) (fun c => ?_) (fun c => absurd hle c)
  exact zRetV cx hrt hlk hS hP rfl dJ5_ensureCapacityInternal_d00df_38
set_option maxHeartbeats 1000000 in
set_option maxRecDepth 100000 in
theorem c_J5_append_3fe6f (l : Launch) (dC : Nat → ClassId) (dI : Nat → Nat → Nat) (cyB : ClassId) (ad : Nat → Nat) (hI : zI ad 2) (S : zS) (n : Nat) (hn : S 1 0 = nI n) (hn16 : n < 16) (ch : Nat) (hch : ch < 128) : zMr l (dC, dI) [(cyB, .byte)] ad 2 xB (bw cyB ad) yJ5_append_3fe6f wsJ5_append_3fe6f (rmk 1 0 0) [.ref (ad 0), .int (nI ch)] S (ad 0) (fun T => T = zUp (zUp S 1 (upd (S 1) 0 (nI (n + 1)))) 0 (upd (S 0) n (nI ch))) := by
  intro sz
  refine zStart (Qm := fun sz => va_Qr (fun T => T = zUp (zUp S 1 (upd (S 1) 0 (nI (n + 1)))) 0 (upd (S 0) n (nI ch))) (fun T a t => a = ad 0 ∧ va_P (dC, dI) vwCl (bw cyB ad T) t.heap) (zA ad 2 sz)) (by decide) rfl (Nat.le_of_ble_eq_true rfl) ?_
  intro p e s m args below meth c ls cx hrt hlk hP hK hXs hl
  have hl : lv_has ls 2 [(0, .ref (ad 0)), (1, .int (nI ch))] := hl
  have hS : va_S (zA ad 2 s.heap.size) s.heap s.heap [] := va_S.rf
  have hinJ4 : ∀ w ∈ u_ws RJ4 TJ4 4, w ∈ wsJ5_append_3fe6f := by decide +kernel
  refine lv_aload_n cx.1 cx.2.1 dJ5_append_3fe6f_0 rfl (lv_at hl 0 rfl) ?_
  refine lv_aload_n cx.1 cx.2.1 dJ5_append_3fe6f_1 rfl (lv_at hl 0 rfl) ?_
  refine zGet (CC := RJ4) (T := TJ4) (N := 4) (ref := "java/lang/AbstractStringBuilder") cx hinJ4 hK hP 0 rfl rfl 3 (by decide) (by decide +kernel) rfl (v := .int (nI n)) (by show some (Value.int (S 1 0)) = _; rw [hn]) dJ5_append_3fe6f_2 ?_
  refine lv_iconst (v := nI 1) cx.1 cx.2.1 dJ5_append_3fe6f_5 (by decide) ?_
  refine zAddN (a := n) (b := 1) cx.1 cx.2.1 dJ5_append_3fe6f_6 ?_
  refine zThenVx hS (zRunU (As := [.int (nI (n + 1))]) (rest := []) (fun sz => zQv (dC, dI) (bw cyB ad) (fun T => T = S) (zA ad 2 sz)) 1 cx (c_J5_ensureCapacityInternal_d00df l dC dI cyB ad hI S (n + 1) (by omega)) gJ5_append_3fe6f_J5_ensureCapacityInternal_d00df_u100J4 rfl ⟨rfl, rfl⟩ rfl (by decide +kernel) ⟨(Nat.le_of_ble_eq_true rfl), (Nat.le_of_ble_eq_true rfl)⟩ (xB_X ad 2) hXs hK hP hS 0 rfl rfl rfl rfl hl.1 rfl (Nat.le_of_ble_eq_true rfl) dJ5_append_3fe6f_7 ⟨(Nat.le_of_ble_eq_true rfl), (Nat.le_of_ble_eq_true rfl)⟩) (fun H locs hP hS => ?_)
  refine lv_aload_n cx.1 cx.2.1 dJ5_append_3fe6f_10 rfl (lv_at hl 0 rfl) ?_
  refine zThenIx hS (zRunU (As := []) (rest := []) (fun sz => zQi (dC, dI) (bw cyB ad) (fun v T => v = 1 ∧ T = S) (zA ad 2 sz)) 0 cx (c_J5_isLatin1_aae02 l dC dI cyB ad hI S) gJ5_append_3fe6f_J5_isLatin1_aae02_u83J4 rfl ⟨rfl, rfl⟩ rfl (by decide +kernel) ⟨(Nat.le_of_ble_eq_true rfl), (Nat.le_of_ble_eq_true rfl)⟩ (xB_X ad 2) hXs hK hP hS 0 rfl rfl rfl rfl hl.1 rfl (Nat.le_of_ble_eq_true rfl) dJ5_append_3fe6f_11 ⟨(Nat.le_of_ble_eq_true rfl), (Nat.le_of_ble_eq_true rfl)⟩) (fun H locs hP hS => ?_)
  refine lv_if_eq (tgt := 45) cx.1 cx.2.1 dJ5_append_3fe6f_14 (by decide) (fun c => absurd c (by decide)) (fun c => ?_)
  refine lv_iload_n cx.1 cx.2.1 dJ5_append_3fe6f_17 rfl (lv_at hl 1 rfl) ?_
  refine zThenIx hS (zRunS (As := [.int (nI ch)]) (rest := []) (fun sz => zQi (dC, dI) (bw cyB ad) (fun v T => v = 1 ∧ T = S) (zA ad 2 sz)) 1 cx (c_J1_canEncode_fc78d l dC dI S (nI ch) (by rw [show (255 : Int32) = nI 255 by decide]; exact nI_nlt (by omega) (by decide))) gJ5_append_3fe6f_J1_canEncode_fc78d rfl ⟨rfl, rfl⟩ (by decide +kernel) ⟨(Nat.le_of_ble_eq_true rfl), (Nat.le_of_ble_eq_true rfl)⟩ (xB_X ad 2) hXs hK hP hS rfl hl.1 rfl (Nat.le_of_ble_eq_true rfl) dJ5_append_3fe6f_18 ⟨(Nat.le_of_ble_eq_true rfl), (Nat.le_of_ble_eq_true rfl)⟩) (fun H locs hP hS => ?_)
  refine lv_if_eq (tgt := 45) cx.1 cx.2.1 dJ5_append_3fe6f_21 (by decide) (fun c => absurd c (by decide)) (fun c => ?_)
  refine lv_aload_n cx.1 cx.2.1 dJ5_append_3fe6f_24 rfl (lv_at hl 0 rfl) ?_
  refine zGet (CC := RJ4) (T := TJ4) (N := 4) (ref := "java/lang/AbstractStringBuilder") cx hinJ4 hK hP 0 rfl rfl 0 (by decide) (by decide +kernel) rfl (v := .ref (ad 1)) rfl dJ5_append_3fe6f_25 ?_
  refine lv_aload_n cx.1 cx.2.1 dJ5_append_3fe6f_28 rfl (lv_at hl 0 rfl) ?_
  refine lv_dup cx.1 cx.2.1 dJ5_append_3fe6f_29 rfl ?_
  refine zGet (CC := RJ4) (T := TJ4) (N := 4) (ref := "java/lang/AbstractStringBuilder") cx hinJ4 hK hP 0 rfl rfl 3 (by decide) (by decide +kernel) rfl (v := .int (nI n)) (by show some (Value.int (S 1 0)) = _; rw [hn]) dJ5_append_3fe6f_30 ?_
  refine lv_dup_x1 cx.1 cx.2.1 dJ5_append_3fe6f_33 rfl rfl ?_
  refine lv_iconst (v := nI 1) cx.1 cx.2.1 dJ5_append_3fe6f_34 (by decide) ?_
  refine zAddN (a := n) (b := 1) cx.1 cx.2.1 dJ5_append_3fe6f_35 ?_
  refine zPut (CC := RJ4) (T := TJ4) (N := 4) (ref := "java/lang/AbstractStringBuilder") (ty0 := tyJ4) cx hinJ4 tyJ4_ok nmJ4 (bw_W cyB ad) hI hK hP hS 0 rfl rfl 3 (by decide) (by decide +kernel) rfl rfl (ty := .int) (by decide +kernel) rfl rfl (Nat.le_of_ble_eq_true rfl) (zUp S 1 (upd (S 1) 0 (nI (n + 1)))) (bw_cnt cyB ad S (nI (n + 1))) dJ5_append_3fe6f_36 (fun H locs hP hS => ?_)
  refine lv_iload_n cx.1 cx.2.1 dJ5_append_3fe6f_39 rfl (lv_at hl 1 rfl) ?_
  refine lv_i2b (v := nI ch) cx.1 cx.2.1 dJ5_append_3fe6f_40 (b7 ch hch) ?_
  refine zBstN cx (bw_W cyB ad) hI hK hP hS 1 0 rfl rfl n (by omega) (by decide) rfl (nI ch) (b8 ch hch) (zUp (zUp S 1 (upd (S 1) 0 (nI (n + 1)))) 0 (upd (S 0) n (nI ch))) (bw_byt cyB ad _ _) dJ5_append_3fe6f_41 (fun H locs hP hS => ?_)
  refine lv_goto (tgt := 75) cx.1 cx.2.1 dJ5_append_3fe6f_42 (by decide) ?_
  refine lv_aload_n cx.1 cx.2.1 dJ5_append_3fe6f_75 rfl (lv_at hl 0 rfl) ?_
  exact zRetR cx hrt (Or.inl ⟨_, rfl⟩) hlk hS hP rfl dJ5_append_3fe6f_76
set_option maxHeartbeats 1000000 in
set_option maxRecDepth 100000 in
theorem c_J4_append_cf468 (l : Launch) (dC : Nat → ClassId) (dI : Nat → Nat → Nat) (cyB : ClassId) (ad : Nat → Nat) (hI : zI ad 2) (S : zS) (n : Nat) (hn : S 1 0 = nI n) (hn16 : n < 16) (ch : Nat) (hch : ch < 128) : zMr l (dC, dI) [(cyB, .byte)] ad 2 xB (bw cyB ad) yJ4_append_cf468 wsJ4_append_cf468 (rmk 2 0 0) [.ref (ad 0), .int (nI ch)] S (ad 0) (fun T => T = zUp (zUp S 1 (upd (S 1) 0 (nI (n + 1)))) 0 (upd (S 0) n (nI ch))) := by
  intro sz
  refine zStart (Qm := fun sz => va_Qr (fun T => T = zUp (zUp S 1 (upd (S 1) 0 (nI (n + 1)))) 0 (upd (S 0) n (nI ch))) (fun T a t => a = ad 0 ∧ va_P (dC, dI) vwCl (bw cyB ad T) t.heap) (zA ad 2 sz)) (by decide) rfl (Nat.le_of_ble_eq_true rfl) ?_
  intro p e s m args below meth c ls cx hrt hlk hP hK hXs hl
  have hl : lv_has ls 2 [(0, .ref (ad 0)), (1, .int (nI ch))] := hl
  have hS : va_S (zA ad 2 s.heap.size) s.heap s.heap [] := va_S.rf
  refine lv_aload_n cx.1 cx.2.1 dJ4_append_cf468_0 rfl (lv_at hl 0 rfl) ?_
  refine lv_iload_n cx.1 cx.2.1 dJ4_append_cf468_1 rfl (lv_at hl 1 rfl) ?_
  refine zThenR hS (zRunSU (As := [.int (nI ch)]) (rest := []) (fun sz => va_Qr (fun T => T = zUp (zUp S 1 (upd (S 1) 0 (nI (n + 1)))) 0 (upd (S 0) n (nI ch))) (fun T a t => a = ad 0 ∧ va_P (dC, dI) vwCl (bw cyB ad T) t.heap) (zA ad 2 sz)) 1 cx (c_J5_append_3fe6f l dC dI cyB ad hI S n hn hn16 ch hch) gJ4_append_cf468_J5_append_3fe6f_s50 rfl ⟨rfl, rfl⟩ (by decide +kernel) ⟨(Nat.le_of_ble_eq_true rfl), (Nat.le_of_ble_eq_true rfl)⟩ (xB_X ad 2) hXs hK hP hS 0 rfl rfl rfl rfl hl.1 rfl (Nat.le_of_ble_eq_true rfl) dJ4_append_cf468_2 ⟨(Nat.le_of_ble_eq_true rfl), (Nat.le_of_ble_eq_true rfl)⟩) (fun T H locs hT hP hS => ?_)
  refine lv_pop cx.1 cx.2.1 dJ4_append_cf468_5 rfl ?_
  refine lv_aload_n cx.1 cx.2.1 dJ4_append_cf468_6 rfl (lv_at hl 0 rfl) ?_
  exact zRetR cx hrt (Or.inl ⟨_, rfl⟩) hlk hS hP hT dJ4_append_cf468_7
set_option maxHeartbeats 1000000 in
set_option maxRecDepth 100000 in
theorem c_J6_stringSize_0f7a4 (l : Launch) (dC : Nat → ClassId) (dI : Nat → Nat → Nat) {ad : Nat → Nat} {tys : List (ClassId × FieldType)} {n : Nat} {X : (Nat → Prop) → State → Prop} {w : zS → va_W} (S : zS) (d : Nat) (hd : d < 10) : zMi l (dC, dI) tys ad n X w yJ6_stringSize_0f7a4 wsJ6_stringSize_0f7a4 (rmk 0 0 0) [.int (nI d)] S (fun v T => v = nI 1 ∧ T = S) := by
  refine zStartI (by decide) rfl (Nat.le_of_ble_eq_true rfl) ?_
  intro p e s m args below meth c ls cx hrt hlk hP hK hXs hl
  have hl : lv_has ls 4 [(0, .int (nI d))] := hl
  have hS : va_S (zA ad n s.heap.size) s.heap s.heap [] := va_S.rf
  refine lv_iconst (v := 1) cx.1 cx.2.1 dJ6_stringSize_0f7a4_0 (by decide) ?_
  refine lv_istore_n (lv' := [(1, .int 1), (0, .int (nI d))]) cx.1 cx.2.1 dJ6_stringSize_0f7a4_1 rfl hl (by decide) rfl (fun ls hl => ?_)
  refine lv_iload_n cx.1 cx.2.1 dJ6_stringSize_0f7a4_2 rfl (lv_at hl 1 rfl) ?_
  refine lv_if_lt (tgt := 11) cx.1 cx.2.1 dJ6_stringSize_0f7a4_3 (by decide) (fun c => absurd c (nI_pos (by omega))) (fun c => ?_)
  refine lv_iconst (v := 0) cx.1 cx.2.1 dJ6_stringSize_0f7a4_6 (by decide) ?_
  refine lv_istore_n (lv' := [(1, .int 0), (0, .int (nI d))]) cx.1 cx.2.1 dJ6_stringSize_0f7a4_7 rfl hl (by decide) rfl (fun ls hl => ?_)
  refine lv_iload_n cx.1 cx.2.1 dJ6_stringSize_0f7a4_8 rfl (lv_at hl 1 rfl) ?_
  refine lv_ineg cx.1 cx.2.1 dJ6_stringSize_0f7a4_9 ?_
  refine lv_istore_n (lv' := [(0, .int (-(nI d))), (1, .int 0)]) cx.1 cx.2.1 dJ6_stringSize_0f7a4_10 rfl hl (by decide) rfl (fun ls hl => ?_)
  refine lv_bipush (v := (-10)) cx.1 cx.2.1 dJ6_stringSize_0f7a4_11 (by decide) ?_
  refine lv_istore_n (lv' := [(2, .int (-10)), (0, .int (-(nI d))), (1, .int 0)]) cx.1 cx.2.1 dJ6_stringSize_0f7a4_13 rfl hl (by decide) rfl (fun ls hl => ?_)
  refine lv_iconst (v := 1) cx.1 cx.2.1 dJ6_stringSize_0f7a4_14 (by decide) ?_
  refine lv_istore_n (lv' := [(3, .int 1), (2, .int (-10)), (0, .int (-(nI d))), (1, .int 0)]) cx.1 cx.2.1 dJ6_stringSize_0f7a4_15 rfl hl (by decide) rfl (fun ls hl => ?_)
  refine lv_iload_n cx.1 cx.2.1 dJ6_stringSize_0f7a4_16 rfl (lv_at hl 0 rfl) ?_
  refine lv_bipush (v := 10) cx.1 cx.2.1 dJ6_stringSize_0f7a4_17 (by decide) ?_
  refine lv_icmp_ge (tgt := 42) cx.1 cx.2.1 dJ6_stringSize_0f7a4_19 (by decide) (fun c => absurd c (by decide)) (fun c => ?_)
  refine lv_iload_n cx.1 cx.2.1 dJ6_stringSize_0f7a4_22 rfl (lv_at hl 2 rfl) ?_
  refine lv_iload_n cx.1 cx.2.1 dJ6_stringSize_0f7a4_23 rfl (lv_at hl 1 rfl) ?_
  refine lv_icmp_le (tgt := 31) cx.1 cx.2.1 dJ6_stringSize_0f7a4_24 (by decide) (fun c => absurd c (b9 d hd)) (fun c => ?_)
  refine lv_iload_n cx.1 cx.2.1 dJ6_stringSize_0f7a4_27 rfl (lv_at hl 0 rfl) ?_
  refine lv_iload_n cx.1 cx.2.1 dJ6_stringSize_0f7a4_28 rfl (lv_at hl 3 rfl) ?_
  refine lv_iadd cx.1 cx.2.1 dJ6_stringSize_0f7a4_29 ?_
  exact zRetI cx hrt hlk rfl hS hP ⟨by decide, rfl⟩ dJ6_stringSize_0f7a4_30
set_option maxHeartbeats 1000000 in
set_option maxRecDepth 100000 in
theorem c_J6_getChars_ba4f3 (l : Launch) (dC : Nat → ClassId) (dI : Nat → Nat → Nat) (cyB : ClassId) (ad : Nat → Nat) (hI : zI ad 2) (S : zS) (d : Nat) (hd : d < 10) (n : Nat) (hn16 : n < 16) : zMi l (dC, dI) [(cyB, .byte)] ad 2 xB (bw cyB ad) yJ6_getChars_ba4f3 wsJ6_getChars_ba4f3 (rmk 0 0 0) [.int (nI d), .int (nI (n + 1)), .ref (ad 1)] S (fun v T => v = nI n ∧ T = zUp S 0 (upd (S 0) n (nI (48 + d)))) := by
  refine zStartI (by decide) rfl (Nat.le_of_ble_eq_true rfl) ?_
  intro p e s m args below meth c ls cx hrt hlk hP hK hXs hl
  have hl : lv_has ls 7 [(0, .int (nI d)), (1, .int (nI (n + 1))), (2, .ref (ad 1))] := hl
  have hS : va_S (zA ad 2 s.heap.size) s.heap s.heap [] := va_S.rf
  refine lv_iload_n cx.1 cx.2.1 dJ6_getChars_ba4f3_0 rfl (lv_at hl 1 rfl) ?_
  refine lv_istore (lv' := [(5, .int (nI (n + 1))), (0, .int (nI d)), (1, .int (nI (n + 1))), (2, .ref (ad 1))]) cx.1 cx.2.1 dJ6_getChars_ba4f3_1 hl (by decide) rfl (fun ls hl => ?_)
  refine lv_iload_n cx.1 cx.2.1 dJ6_getChars_ba4f3_3 rfl (lv_at hl 1 rfl) ?_
  refine lv_if_ge (tgt := 11) cx.1 cx.2.1 dJ6_getChars_ba4f3_4 (by decide) (fun c => ?_) (fun c => absurd (nI_pos' (by omega)) c)
  refine lv_iconst (v := 0) cx.1 cx.2.1 dJ6_getChars_ba4f3_11 (by decide) ?_
  refine lv_istore (lv' := [(6, .int 0), (5, .int (nI (n + 1))), (0, .int (nI d)), (1, .int (nI (n + 1))), (2, .ref (ad 1))]) cx.1 cx.2.1 dJ6_getChars_ba4f3_12 hl (by decide) rfl (fun ls hl => ?_)
  refine lv_iload cx.1 cx.2.1 dJ6_getChars_ba4f3_14 (lv_at hl 0 rfl) ?_
  refine lv_if_ne (tgt := 22) cx.1 cx.2.1 dJ6_getChars_ba4f3_16 (by decide) (fun c => absurd rfl c) (fun c => ?_)
  refine lv_iload_n cx.1 cx.2.1 dJ6_getChars_ba4f3_19 rfl (lv_at hl 2 rfl) ?_
  refine lv_ineg cx.1 cx.2.1 dJ6_getChars_ba4f3_20 ?_
  refine lv_istore_n (lv' := [(0, .int (-(nI d))), (6, .int 0), (5, .int (nI (n + 1))), (1, .int (nI (n + 1))), (2, .ref (ad 1))]) cx.1 cx.2.1 dJ6_getChars_ba4f3_21 rfl hl (by decide) rfl (fun ls hl => ?_)
  refine lv_iload_n cx.1 cx.2.1 dJ6_getChars_ba4f3_22 rfl (lv_at hl 0 rfl) ?_
  refine lv_bipush (v := (-100)) cx.1 cx.2.1 dJ6_getChars_ba4f3_23 (by decide) ?_
  refine lv_icmp_gt (tgt := 72) cx.1 cx.2.1 dJ6_getChars_ba4f3_25 (by decide) (fun c => ?_) (fun c => absurd (b10 d hd) c)
  refine lv_aload_n cx.1 cx.2.1 dJ6_getChars_ba4f3_72 rfl (lv_at hl 4 rfl) ?_
  refine lv_iinc (v := (nI n)) (lv' := [(5, .int (nI n)), (0, .int (-(nI d))), (6, .int 0), (1, .int (nI (n + 1))), (2, .ref (ad 1))]) cx.1 cx.2.1 dJ6_getChars_ba4f3_73 hl (k := 2) rfl (pk_m1 n) (by decide) rfl (fun ls hl => ?_)
  refine lv_iload cx.1 cx.2.1 dJ6_getChars_ba4f3_76 (lv_at hl 0 rfl) ?_
  obtain ⟨hZ, ⟨t, hD1, hD2⟩, -⟩ := hXs
  refine va_gets cx.1 cx.2.1 hD1 hS cx.2.2.2.1 (cx.2.2.2.2 (.fieldLink RJ6 83 "java/lang/Integer" "DigitOnes" "[B") (by decide +kernel)) (fun _ h => h) dJ6_getChars_ba4f3_78 ?_
  refine lv_iload_n cx.1 cx.2.1 dJ6_getChars_ba4f3_81 rfl (lv_at hl 1 rfl) ?_
  refine lv_ineg cx.1 cx.2.1 dJ6_getChars_ba4f3_82 ?_
  rw [Int32.neg_neg]
  refine va_tb cx.1 cx.2.1 hD2 hS (vp_in_nI (by omega) (by decide)) (v := .int (nI (48 + d))) (by rw [nI_clamp (by omega), Nat.mod_eq_of_lt hd]) dJ6_getChars_ba4f3_83 ?_
  refine zBstN cx (bw_W cyB ad) hI hK hP hS 1 0 rfl rfl n (by omega) (by decide) rfl (nI (48 + d)) (b8 (48 + d) (by omega)) (zUp S 0 (upd (S 0) n (nI (48 + d)))) (bw_byt cyB ad _ _) dJ6_getChars_ba4f3_84 (fun H locs hP hS => ?_)
  refine lv_iload_n cx.1 cx.2.1 dJ6_getChars_ba4f3_85 rfl (lv_at hl 1 rfl) ?_
  refine lv_bipush (v := (-9)) cx.1 cx.2.1 dJ6_getChars_ba4f3_86 (by decide) ?_
  refine lv_icmp_ge (tgt := 104) cx.1 cx.2.1 dJ6_getChars_ba4f3_88 (by decide) (fun c => ?_) (fun c => absurd (b11 d hd) c)
  refine lv_iload cx.1 cx.2.1 dJ6_getChars_ba4f3_104 (lv_at hl 2 rfl) ?_
  refine lv_if_eq (tgt := 118) cx.1 cx.2.1 dJ6_getChars_ba4f3_106 (by decide) (fun c => ?_) (fun c => absurd rfl c)
  refine lv_iload cx.1 cx.2.1 dJ6_getChars_ba4f3_118 (lv_at hl 0 rfl) ?_
  exact zRetI cx hrt hlk rfl hS hP ⟨rfl, rfl⟩ dJ6_getChars_ba4f3_120
set_option maxHeartbeats 1000000 in
set_option maxRecDepth 100000 in
theorem c_J5_append_c97b9 (l : Launch) (dC : Nat → ClassId) (dI : Nat → Nat → Nat) (cyB : ClassId) (ad : Nat → Nat) (hI : zI ad 2) (S : zS) (n : Nat) (hn : S 1 0 = nI n) (hn16 : n < 16) (d : Nat) (hd : d < 10) : zMr l (dC, dI) [(cyB, .byte)] ad 2 xB (bw cyB ad) yJ5_append_c97b9 wsJ5_append_c97b9 (rmk 1 0 0) [.ref (ad 0), .int (nI d)] S (ad 0) (fun T => T = zUp (zUp S 0 (upd (S 0) n (nI (48 + d)))) 1 (upd ((zUp S 0 (upd (S 0) n (nI (48 + d)))) 1) 0 (nI (n + 1)))) := by
  intro sz
  refine zStart (Qm := fun sz => va_Qr (fun T => T = zUp (zUp S 0 (upd (S 0) n (nI (48 + d)))) 1 (upd ((zUp S 0 (upd (S 0) n (nI (48 + d)))) 1) 0 (nI (n + 1)))) (fun T a t => a = ad 0 ∧ va_P (dC, dI) vwCl (bw cyB ad T) t.heap) (zA ad 2 sz)) (by decide) rfl (Nat.le_of_ble_eq_true rfl) ?_
  intro p e s m args below meth c ls cx hrt hlk hP hK hXs hl
  have hl : lv_has ls 4 [(0, .ref (ad 0)), (1, .int (nI d))] := hl
  have hS : va_S (zA ad 2 s.heap.size) s.heap s.heap [] := va_S.rf
  have hinJ4 : ∀ w ∈ u_ws RJ4 TJ4 4, w ∈ wsJ5_append_c97b9 := by decide +kernel
  refine lv_aload_n cx.1 cx.2.1 dJ5_append_c97b9_0 rfl (lv_at hl 0 rfl) ?_
  refine zGet (CC := RJ4) (T := TJ4) (N := 4) (ref := "java/lang/AbstractStringBuilder") cx hinJ4 hK hP 0 rfl rfl 3 (by decide) (by decide +kernel) rfl (v := .int (nI n)) (by show some (Value.int (S 1 0)) = _; rw [hn]) dJ5_append_c97b9_1 ?_
  refine lv_istore_n (lv' := [(2, .int (nI n)), (0, .ref (ad 0)), (1, .int (nI d))]) cx.1 cx.2.1 dJ5_append_c97b9_4 rfl hl (by decide) rfl (fun ls hl => ?_)
  refine lv_iload_n cx.1 cx.2.1 dJ5_append_c97b9_5 rfl (lv_at hl 0 rfl) ?_
  refine lv_iload_n cx.1 cx.2.1 dJ5_append_c97b9_6 rfl (lv_at hl 2 rfl) ?_
  refine zThenIx hS (zRunS (As := [.int (nI d)]) (rest := [.int (nI n)]) (fun sz => zQi (dC, dI) (bw cyB ad) (fun v T => v = nI 1 ∧ T = S) (zA ad 2 sz)) 1 cx (c_J6_stringSize_0f7a4 l dC dI S d hd) gJ5_append_c97b9_J6_stringSize_0f7a4 rfl ⟨rfl, rfl⟩ (by decide +kernel) ⟨(Nat.le_of_ble_eq_true rfl), (Nat.le_of_ble_eq_true rfl)⟩ (xB_X ad 2) hXs hK hP hS rfl hl.1 rfl (Nat.le_of_ble_eq_true rfl) dJ5_append_c97b9_7 ⟨(Nat.le_of_ble_eq_true rfl), (Nat.le_of_ble_eq_true rfl)⟩) (fun H locs hP hS => ?_)
  refine zAddN (a := n) (b := 1) cx.1 cx.2.1 dJ5_append_c97b9_10 ?_
  refine lv_istore_n (lv' := [(3, .int (nI (n + 1))), (2, .int (nI n)), (0, .ref (ad 0)), (1, .int (nI d))]) cx.1 cx.2.1 dJ5_append_c97b9_11 rfl hl (by decide) rfl (fun ls hl => ?_)
  refine lv_aload_n cx.1 cx.2.1 dJ5_append_c97b9_12 rfl (lv_at hl 2 rfl) ?_
  refine lv_iload_n cx.1 cx.2.1 dJ5_append_c97b9_13 rfl (lv_at hl 0 rfl) ?_
  refine zThenVx hS (zRunU (As := [.int (nI (n + 1))]) (rest := []) (fun sz => zQv (dC, dI) (bw cyB ad) (fun T => T = S) (zA ad 2 sz)) 1 cx (c_J5_ensureCapacityInternal_d00df l dC dI cyB ad hI S (n + 1) (by omega)) gJ5_append_c97b9_J5_ensureCapacityInternal_d00df_u100J4 rfl ⟨rfl, rfl⟩ rfl (by decide +kernel) ⟨(Nat.le_of_ble_eq_true rfl), (Nat.le_of_ble_eq_true rfl)⟩ (xB_X ad 2) hXs hK hP hS 0 rfl rfl rfl rfl hl.1 rfl (Nat.le_of_ble_eq_true rfl) dJ5_append_c97b9_14 ⟨(Nat.le_of_ble_eq_true rfl), (Nat.le_of_ble_eq_true rfl)⟩) (fun H locs hP hS => ?_)
  refine lv_aload_n cx.1 cx.2.1 dJ5_append_c97b9_17 rfl (lv_at hl 2 rfl) ?_
  refine zThenIx hS (zRunU (As := []) (rest := []) (fun sz => zQi (dC, dI) (bw cyB ad) (fun v T => v = 1 ∧ T = S) (zA ad 2 sz)) 0 cx (c_J5_isLatin1_aae02 l dC dI cyB ad hI S) gJ5_append_c97b9_J5_isLatin1_aae02_u83J4 rfl ⟨rfl, rfl⟩ rfl (by decide +kernel) ⟨(Nat.le_of_ble_eq_true rfl), (Nat.le_of_ble_eq_true rfl)⟩ (xB_X ad 2) hXs hK hP hS 0 rfl rfl rfl rfl hl.1 rfl (Nat.le_of_ble_eq_true rfl) dJ5_append_c97b9_18 ⟨(Nat.le_of_ble_eq_true rfl), (Nat.le_of_ble_eq_true rfl)⟩) (fun H locs hP hS => ?_)
  refine lv_if_eq (tgt := 37) cx.1 cx.2.1 dJ5_append_c97b9_21 (by decide) (fun c => absurd c (by decide)) (fun c => ?_)
  refine lv_iload_n cx.1 cx.2.1 dJ5_append_c97b9_24 rfl (lv_at hl 3 rfl) ?_
  refine lv_iload_n cx.1 cx.2.1 dJ5_append_c97b9_25 rfl (lv_at hl 0 rfl) ?_
  refine lv_aload_n cx.1 cx.2.1 dJ5_append_c97b9_26 rfl (lv_at hl 2 rfl) ?_
  refine zGet (CC := RJ4) (T := TJ4) (N := 4) (ref := "java/lang/AbstractStringBuilder") cx hinJ4 hK hP 0 rfl rfl 0 (by decide) (by decide +kernel) rfl (v := .ref (ad 1)) rfl dJ5_append_c97b9_27 ?_
  refine zThenIx hS (zRunS (As := [.int (nI d), .int (nI (n + 1)), .ref (ad 1)]) (rest := []) (fun sz => zQi (dC, dI) (bw cyB ad) (fun v T => v = nI n ∧ T = zUp S 0 (upd (S 0) n (nI (48 + d)))) (zA ad 2 sz)) 3 cx (c_J6_getChars_ba4f3 l dC dI cyB ad hI S d hd n hn16) gJ5_append_c97b9_J6_getChars_ba4f3 rfl ⟨rfl, rfl⟩ (by decide +kernel) ⟨(Nat.le_of_ble_eq_true rfl), (Nat.le_of_ble_eq_true rfl)⟩ (xB_X ad 2) hXs hK hP hS rfl hl.1 rfl (Nat.le_of_ble_eq_true rfl) dJ5_append_c97b9_30 ⟨(Nat.le_of_ble_eq_true rfl), (Nat.le_of_ble_eq_true rfl)⟩) (fun H locs hP hS => ?_)
  refine lv_pop cx.1 cx.2.1 dJ5_append_c97b9_33 rfl ?_
  refine lv_goto (tgt := 48) cx.1 cx.2.1 dJ5_append_c97b9_34 (by decide) ?_
  refine lv_aload_n cx.1 cx.2.1 dJ5_append_c97b9_48 rfl (lv_at hl 2 rfl) ?_
  refine lv_iload_n cx.1 cx.2.1 dJ5_append_c97b9_49 rfl (lv_at hl 0 rfl) ?_
  refine zPut (CC := RJ4) (T := TJ4) (N := 4) (ref := "java/lang/AbstractStringBuilder") (ty0 := tyJ4) cx hinJ4 tyJ4_ok nmJ4 (bw_W cyB ad) hI hK hP hS 0 rfl rfl 3 (by decide) (by decide +kernel) rfl rfl (ty := .int) (by decide +kernel) rfl rfl (Nat.le_of_ble_eq_true rfl) (zUp (zUp S 0 (upd (S 0) n (nI (48 + d)))) 1 (upd ((zUp S 0 (upd (S 0) n (nI (48 + d)))) 1) 0 (nI (n + 1)))) (bw_cnt cyB ad (zUp S 0 (upd (S 0) n (nI (48 + d)))) (nI (n + 1))) dJ5_append_c97b9_50 (fun H locs hP hS => ?_)
  refine lv_aload_n cx.1 cx.2.1 dJ5_append_c97b9_53 rfl (lv_at hl 2 rfl) ?_
  exact zRetR cx hrt (Or.inl ⟨_, rfl⟩) hlk hS hP rfl dJ5_append_c97b9_54
set_option maxHeartbeats 1000000 in
set_option maxRecDepth 100000 in
theorem c_J4_append_bf812 (l : Launch) (dC : Nat → ClassId) (dI : Nat → Nat → Nat) (cyB : ClassId) (ad : Nat → Nat) (hI : zI ad 2) (S : zS) (n : Nat) (hn : S 1 0 = nI n) (hn16 : n < 16) (d : Nat) (hd : d < 10) : zMr l (dC, dI) [(cyB, .byte)] ad 2 xB (bw cyB ad) yJ4_append_bf812 wsJ4_append_bf812 (rmk 2 0 0) [.ref (ad 0), .int (nI d)] S (ad 0) (fun T => T = zUp (zUp S 0 (upd (S 0) n (nI (48 + d)))) 1 (upd ((zUp S 0 (upd (S 0) n (nI (48 + d)))) 1) 0 (nI (n + 1)))) := by
  intro sz
  refine zStart (Qm := fun sz => va_Qr (fun T => T = zUp (zUp S 0 (upd (S 0) n (nI (48 + d)))) 1 (upd ((zUp S 0 (upd (S 0) n (nI (48 + d)))) 1) 0 (nI (n + 1)))) (fun T a t => a = ad 0 ∧ va_P (dC, dI) vwCl (bw cyB ad T) t.heap) (zA ad 2 sz)) (by decide) rfl (Nat.le_of_ble_eq_true rfl) ?_
  intro p e s m args below meth c ls cx hrt hlk hP hK hXs hl
  have hl : lv_has ls 2 [(0, .ref (ad 0)), (1, .int (nI d))] := hl
  have hS : va_S (zA ad 2 s.heap.size) s.heap s.heap [] := va_S.rf
  refine lv_aload_n cx.1 cx.2.1 dJ4_append_bf812_0 rfl (lv_at hl 0 rfl) ?_
  refine lv_iload_n cx.1 cx.2.1 dJ4_append_bf812_1 rfl (lv_at hl 1 rfl) ?_
  refine zThenR hS (zRunSU (As := [.int (nI d)]) (rest := []) (fun sz => va_Qr (fun T => T = zUp (zUp S 0 (upd (S 0) n (nI (48 + d)))) 1 (upd ((zUp S 0 (upd (S 0) n (nI (48 + d)))) 1) 0 (nI (n + 1)))) (fun T a t => a = ad 0 ∧ va_P (dC, dI) vwCl (bw cyB ad T) t.heap) (zA ad 2 sz)) 1 cx (c_J5_append_c97b9 l dC dI cyB ad hI S n hn hn16 d hd) gJ4_append_bf812_J5_append_c97b9_s53 rfl ⟨rfl, rfl⟩ (by decide +kernel) ⟨(Nat.le_of_ble_eq_true rfl), (Nat.le_of_ble_eq_true rfl)⟩ (xB_X ad 2) hXs hK hP hS 0 rfl rfl rfl rfl hl.1 rfl (Nat.le_of_ble_eq_true rfl) dJ4_append_bf812_2 ⟨(Nat.le_of_ble_eq_true rfl), (Nat.le_of_ble_eq_true rfl)⟩) (fun T H locs hT hP hS => ?_)
  refine lv_pop cx.1 cx.2.1 dJ4_append_bf812_5 rfl ?_
  refine lv_aload_n cx.1 cx.2.1 dJ4_append_bf812_6 rfl (lv_at hl 0 rfl) ?_
  exact zRetR cx hrt (Or.inl ⟨_, rfl⟩) hlk hS hP hT dJ4_append_bf812_7
set_option maxHeartbeats 1000000 in
set_option maxRecDepth 100000 in
theorem c_J5_length_8abf5 (l : Launch) (dC : Nat → ClassId) (dI : Nat → Nat → Nat) (cyB : ClassId) (ad : Nat → Nat) (hI : zI ad 2) (S : zS) : zMi l (dC, dI) [(cyB, .byte)] ad 2 xB (bw cyB ad) yJ5_length_8abf5 wsJ5_length_8abf5 (rmk 0 0 0) [.ref (ad 0)] S (fun v T => v = S 1 0 ∧ T = S) := by
  refine zStartI (by decide) rfl (Nat.le_of_ble_eq_true rfl) ?_
  intro p e s m args below meth c ls cx hrt hlk hP hK hXs hl
  have hl : lv_has ls 1 [(0, .ref (ad 0))] := hl
  have hS : va_S (zA ad 2 s.heap.size) s.heap s.heap [] := va_S.rf
  have hinJ4 : ∀ w ∈ u_ws RJ4 TJ4 4, w ∈ wsJ5_length_8abf5 := by decide +kernel
  refine lv_aload_n cx.1 cx.2.1 dJ5_length_8abf5_0 rfl (lv_at hl 0 rfl) ?_
  refine zGet (CC := RJ4) (T := TJ4) (N := 4) (ref := "java/lang/AbstractStringBuilder") cx hinJ4 hK hP 0 rfl rfl 3 (by decide) (by decide +kernel) rfl (v := .int (S 1 0)) rfl dJ5_length_8abf5_1 ?_
  exact zRetI cx hrt hlk rfl hS hP ⟨rfl, rfl⟩ dJ5_length_8abf5_4
set_option maxHeartbeats 1000000 in
set_option maxRecDepth 100000 in
theorem c_J4_length_8abf5 (l : Launch) (dC : Nat → ClassId) (dI : Nat → Nat → Nat) (cyB : ClassId) (ad : Nat → Nat) (hI : zI ad 2) (S : zS) : zMi l (dC, dI) [(cyB, .byte)] ad 2 xB (bw cyB ad) yJ4_length_8abf5 wsJ4_length_8abf5 (rmk 1 0 0) [.ref (ad 0)] S (fun v T => v = S 1 0 ∧ T = S) := by
  refine zStartI (by decide) rfl (Nat.le_of_ble_eq_true rfl) ?_
  intro p e s m args below meth c ls cx hrt hlk hP hK hXs hl
  have hl : lv_has ls 1 [(0, .ref (ad 0))] := hl
  have hS : va_S (zA ad 2 s.heap.size) s.heap s.heap [] := va_S.rf
  refine lv_aload_n cx.1 cx.2.1 dJ4_length_8abf5_0 rfl (lv_at hl 0 rfl) ?_
  refine zThenIx hS (zRunSU (As := []) (rest := []) (fun sz => zQi (dC, dI) (bw cyB ad) (fun v T => v = S 1 0 ∧ T = S) (zA ad 2 sz)) 0 cx (c_J5_length_8abf5 l dC dI cyB ad hI S) gJ4_length_8abf5_J5_length_8abf5_s343 rfl ⟨rfl, rfl⟩ (by decide +kernel) ⟨(Nat.le_of_ble_eq_true rfl), (Nat.le_of_ble_eq_true rfl)⟩ (xB_X ad 2) hXs hK hP hS 0 rfl rfl rfl rfl hl.1 rfl (Nat.le_of_ble_eq_true rfl) dJ4_length_8abf5_1 ⟨(Nat.le_of_ble_eq_true rfl), (Nat.le_of_ble_eq_true rfl)⟩) (fun H locs hP hS => ?_)
  exact zRetI cx hrt hlk rfl hS hP ⟨rfl, rfl⟩ dJ4_length_8abf5_4
set_option maxHeartbeats 1000000 in
set_option maxRecDepth 100000 in
theorem c_J5_getValue_6d5f1 (l : Launch) (dC : Nat → ClassId) (dI : Nat → Nat → Nat) (cyB : ClassId) (ad : Nat → Nat) (hI : zI ad 2) (S : zS) : zMr l (dC, dI) [(cyB, .byte)] ad 2 xB (bw cyB ad) yJ5_getValue_6d5f1 wsJ5_getValue_6d5f1 (rmk 0 0 0) [.ref (ad 0)] S (ad 1) (fun T => T = S) := by
  intro sz
  refine zStart (Qm := fun sz => va_Qr (fun T => T = S) (fun T a t => a = ad 1 ∧ va_P (dC, dI) vwCl (bw cyB ad T) t.heap) (zA ad 2 sz)) (by decide) rfl (Nat.le_of_ble_eq_true rfl) ?_
  intro p e s m args below meth c ls cx hrt hlk hP hK hXs hl
  have hl : lv_has ls 1 [(0, .ref (ad 0))] := hl
  have hS : va_S (zA ad 2 s.heap.size) s.heap s.heap [] := va_S.rf
  have hinJ4 : ∀ w ∈ u_ws RJ4 TJ4 4, w ∈ wsJ5_getValue_6d5f1 := by decide +kernel
  refine lv_aload_n cx.1 cx.2.1 dJ5_getValue_6d5f1_0 rfl (lv_at hl 0 rfl) ?_
  refine zGet (CC := RJ4) (T := TJ4) (N := 4) (ref := "java/lang/AbstractStringBuilder") cx hinJ4 hK hP 0 rfl rfl 0 (by decide) (by decide +kernel) rfl (v := .ref (ad 1)) rfl dJ5_getValue_6d5f1_1 ?_
  exact zRetR cx hrt (Or.inr ⟨_, rfl⟩) hlk hS hP rfl dJ5_getValue_6d5f1_4
