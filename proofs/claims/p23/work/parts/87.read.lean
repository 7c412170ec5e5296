def wsb (ad : Nat → Nat) : zS → va_W := fun _ => [(ad 0, .inr (1, [.null, .int 0, .int 0, .int 0]))]
theorem wsb_W (ad : Nat → Nat) : zW ad 1 (wsb ad) := fun _ => rfl
theorem zI_1 (ad : Nat → Nat) : zI ad 1 := fun i j hi hj _ => by omega
theorem keepW {D : va_G} {H H1 : Heap} {ad am : Nat → Nat} {n k : Nat} {w : zS → va_W} {S : zS} (hW : zW ad n w) (hne : ∀ i j, i < n → j < k → ad i ≠ am j) (hP : va_P D vwCl (w S) H) (hk : ∀ q : Nat, q < H.size → ¬ zA am k H.size q → H1[q]? = H[q]?) : va_P D vwCl (w S) H1 :=
  hP.kept (fun i q hq => by
    obtain ⟨h1, h2⟩ := zW_at hW hq
    have hlt := (hP i q hq).lt
    rw [h2] at hlt ⊢
    refine hk _ hlt ?_
    rintro (⟨j, hj, e⟩ | h)
    · exact hne i j h1 hj e
    · omega)
/-- what is made anew stands behind all that was there -/
theorem new_ge {sz : Nat} {ad : Nat → Nat} {n : Nat} {w : zS → va_W} {S : zS} {q : Nat × va_E} (hW : zW ad n w) (hD : va_D (zA ad n sz) (w S ++ [q])) : sz ≤ q.1 ∧ ∀ k, k < n → ad k ≠ q.1 := by
  have hlen : (w S).length = n := by
    have h := congrArg List.length (hW S)
    rw [List.length_map, List.length_map, List.length_range] at h
    exact h
  have hq : (w S ++ [q])[n]? = some q := by
    rw [List.getElem?_append_right (by omega), hlen, Nat.sub_self]
    rfl
  have hne : ∀ k, k < n → ad k ≠ q.1 := by
    intro k hk e
    have h1 : (w S)[k]? = some ((w S)[k]'(by omega)) := List.getElem?_eq_getElem _
    have h2 := (zW_at hW h1).2
    have h3 : (w S ++ [q])[k]? = some ((w S)[k]'(by omega)) := by
      rw [List.getElem?_append_left (by omega)]
      exact h1
    have := hD.1 k n _ _ h3 hq (by rw [h2, e])
    omega
  refine ⟨?_, hne⟩
  rcases hD.2 n q hq with ⟨k, hk, e⟩ | h
  · exact absurd e.symm (hne k hk)
  · exact h
theorem keep_size {H H1 : Heap} (hk : ∀ q : Nat, q < H.size → H1[q]? = H[q]?) : H.size ≤ H1.size := by
  rcases Nat.lt_or_ge H1.size H.size with h | h
  · have e := hk H1.size h
    rw [Array.getElem?_eq_none (Nat.le_refl _), Array.getElem?_eq_getElem h] at e
    cases e
  · exact h
set_option maxHeartbeats 1000000 in
set_option maxRecDepth 100000 in
theorem c_J5_init_d00df (l : Launch) (dC : Nat → ClassId) (dI : Nat → Nat → Nat) (cyB : ClassId) (ad : Nat → Nat) (S : zS) : ∀ sz, Met l yJ5_init_d00df wsJ5_init_d00df (rmk 1 1 16) (zPc (dC, dI) [(cyB, .byte)] ad 1 xB (wsb ad) [.ref (ad 0), .int (nI 16)] S sz) ((fun sz => va_Qv (S := Nat) (fun _ => True) (fun v t => sz ≤ v ∧ va_P (dC, dI) vwCl [(ad 0, .inr (1, [.ref v, .int 0, .int 0, .int 0])), (v, .inl (cyB, 16, .inl (fun _ => 0)))] t.heap) (zA ad 1 sz)) sz) 1 16 (zA ad 1 sz) := by
  intro sz
  refine jStart (Qm := (fun sz => va_Qv (S := Nat) (fun _ => True) (fun v t => sz ≤ v ∧ va_P (dC, dI) vwCl [(ad 0, .inr (1, [.ref v, .int 0, .int 0, .int 0])), (v, .inl (cyB, 16, .inl (fun _ => 0)))] t.heap) (zA ad 1 sz))) sz (by decide) rfl (Nat.le_of_ble_eq_true rfl) ?_
  intro p e s m args below meth c ls cx hrt hlk hin hP hK hXs hl
  have hl : lv_has ls 2 [(0, .ref (ad 0)), (1, .int (nI 16))] := hl
  have hS : va_S (zA ad 1 s.heap.size) s.heap s.heap [] := va_S.rf
  have hinJ4 : ∀ w ∈ u_ws RJ4 TJ4 4, w ∈ wsJ5_init_d00df := by decide +kernel
  refine lv_aload_n cx.1 cx.2.1 dJ5_init_d00df_0 rfl (lv_at hl 0 rfl) ?_
  refine W.objInit cx.1 cx.2.1 cx.2.2.2.1 (cx.2.2.2.2 (.methodLink RJ5 3 objectInit) (by decide +kernel)) (cx.2.2.2.2 (.instanceMethod objectInit) (by decide +kernel)) (cx.2.2.2.2 (.code objectInit ⟨#[0xb1]⟩ 1 none) (by decide +kernel)) rfl (hl.1.trans cx.2.2.1.symm) rfl dJ5_init_d00df_1 (Nat.le_of_ble_eq_true rfl) (Nat.le_of_ble_eq_true rfl) ?_
  refine W.eq (g2 := F0 m 4 ls []) rfl ?_
  refine va_gets cx.1 cx.2.1 hXs.1 hS cx.2.2.2.1 (cx.2.2.2.2 (.fieldLink RJ5 18 "java/lang/String" "COMPACT_STRINGS" "Z") (by decide +kernel)) (fun _ h => h) dJ5_init_d00df_4 ?_
  refine lv_if_eq (tgt := 25) cx.1 cx.2.1 dJ5_init_d00df_7 (by decide) (fun c => absurd c (by decide)) (fun c => ?_)
  refine lv_aload_n cx.1 cx.2.1 dJ5_init_d00df_10 rfl (lv_at hl 0 rfl) ?_
  refine lv_iload_n cx.1 cx.2.1 dJ5_init_d00df_11 rfl (lv_at hl 1 rfl) ?_
  have hD : va_D (zA ad 1 s.heap.size) (wsb ad S) := va_D_ad (wsb_W ad) (zI_1 ad) S
  refine va_newa (atype := .byte) (a0 := (16, .inl (fun _ => 0))) (N' := 16) cx.1 cx.2.1 (cx.2.2.2.2 (.arrayClass .byte) (by decide +kernel)) rfl hK hP hD hS (fun q h => Or.inr h) (fun _ => rfl) (by decide) (by decide) (Nat.le_of_ble_eq_true rfl) (Nat.le_of_ble_eq_true rfl) (Nat.le_of_ble_eq_true rfl) dJ5_init_d00df_12 (fun q cA H hK2 hP hD hS => ?_)
  obtain rfl : cyB = cA := Option.some.inj ((va_nm_byte (hK2.2 0 _ rfl).2).symm.trans (va_nm_byte (hK2.2 1 _ rfl).2))
  have hge := (new_ge (wsb_W ad) hD).1
  refine va_put (D := (dC, dI)) (ci := 1) (v := .ref q) (ty := .array .byte) (C := RJ4) (T := TJ4) (N := 4) cx.1 cx.2.1 cx.2.2.2.2 hinJ4 tyJ4 tyJ4_ok nmJ4 cx.2.2.2.1 hK hP hD hS 0 rfl rfl 0 (by decide) (cx.2.2.2.2 (.fieldLink RJ5 15 "java/lang/AbstractStringBuilder" "value" "[B") (by decide +kernel)) (fun _ h9 => h9) rfl (by decide +kernel) rfl rfl (Nat.le_of_ble_eq_true rfl) dJ5_init_d00df_14 (fun H locs hP hD hS => ?_)
  refine lv_aload_n cx.1 cx.2.1 dJ5_init_d00df_17 rfl (lv_at hl 0 rfl) ?_
  refine lv_iconst (v := 0) cx.1 cx.2.1 dJ5_init_d00df_18 (by decide) ?_
  refine va_put (D := (dC, dI)) (ci := 1) (v := .int 0) (ty := .byte) (C := RJ4) (T := TJ4) (N := 4) cx.1 cx.2.1 cx.2.2.2.2 hinJ4 tyJ4 tyJ4_ok nmJ4 cx.2.2.2.1 hK hP hD hS 0 rfl rfl 1 (by decide) (cx.2.2.2.2 (.fieldLink RJ5 22 "java/lang/AbstractStringBuilder" "coder" "B") (by decide +kernel)) (fun _ h9 => h9) rfl (by decide +kernel) rfl rfl (Nat.le_of_ble_eq_true rfl) dJ5_init_d00df_19 (fun H locs hP hD hS => ?_)
  refine lv_goto (tgt := 38) cx.1 cx.2.1 dJ5_init_d00df_22 (by decide) ?_
  have hP : va_P (dC, dI) vwCl [(ad 0, .inr (1, [.ref q, .int 0, .int 0, .int 0])), (q, .inl (cyB, 16, .inl (fun _ => 0)))] H := hP
  exact W.vret cx.1 cx.2.1 hrt (fun t ht hW => ⟨⟨q, rfl, trivial, hge, by rw [ht]; exact hP⟩, hS.F ht⟩) hS.2.2 dJ5_init_d00df_38
set_option maxHeartbeats 1000000 in
set_option maxRecDepth 100000 in
theorem c_J4_init_da8c8 (l : Launch) (dC : Nat → ClassId) (dI : Nat → Nat → Nat) (cyB : ClassId) (ad : Nat → Nat) (S : zS) : ∀ sz, Met l yJ4_init_da8c8 wsJ4_init_da8c8 (rmk 2 1 16) (zPc (dC, dI) [(cyB, .byte)] ad 1 xB (wsb ad) [.ref (ad 0)] S sz) ((fun sz => va_Qv (S := Nat) (fun _ => True) (fun v t => sz ≤ v ∧ va_P (dC, dI) vwCl [(ad 0, .inr (1, [.ref v, .int 0, .int 0, .int 0])), (v, .inl (cyB, 16, .inl (fun _ => 0)))] t.heap) (zA ad 1 sz)) sz) 1 16 (zA ad 1 sz) := by
  intro sz
  refine jStart (Qm := (fun sz => va_Qv (S := Nat) (fun _ => True) (fun v t => sz ≤ v ∧ va_P (dC, dI) vwCl [(ad 0, .inr (1, [.ref v, .int 0, .int 0, .int 0])), (v, .inl (cyB, 16, .inl (fun _ => 0)))] t.heap) (zA ad 1 sz))) sz (by decide) rfl (Nat.le_of_ble_eq_true rfl) ?_
  intro p e s m args below meth c ls cx hrt hlk hin hP hK hXs hl
  have hl : lv_has ls 1 [(0, .ref (ad 0))] := hl
  have hS : va_S (zA ad 1 s.heap.size) s.heap s.heap [] := va_S.rf
  refine lv_aload_n cx.1 cx.2.1 dJ4_init_da8c8_0 rfl (lv_at hl 0 rfl) ?_
  refine lv_bipush (v := nI 16) cx.1 cx.2.1 dJ4_init_da8c8_1 (by decide) ?_
  refine va_callv (va_runI (As := [.int (nI 16)]) (rest := []) cx (c_J5_init_d00df l dC dI cyB ad S s.heap.size) (cwI 1 cx.2.2.2.2 gJ4_init_da8c8_J5_init_d00df rfl rfl rfl (cx.2.2.2.2 (.initialized RJ5) (by decide +kernel)) (cx.2.2.2.2 (.methodLink RJ4 1 yJ5_init_d00df) (by decide +kernel)) (cx.2.2.2.2 (.instanceMethod yJ5_init_d00df) (by decide +kernel)) rfl (by decide +kernel) ⟨(Nat.le_of_ble_eq_true rfl), (Nat.le_of_ble_eq_true rfl)⟩) ⟨zBlind (xB_X ad 1), zPre (xB_X ad 1) hK hXs hP hS _⟩ rfl rfl hl.1 rfl (lv_room (Nat.le_of_ble_eq_true rfl)) dJ4_init_da8c8_3 ⟨(Nat.le_of_ble_eq_true rfl), (Nat.le_of_ble_eq_true rfl)⟩) hS (zHf hS).1 (zHf hS).2 (fun v t H locs ht hvm _ hB hz1 hk1 hS => ?_)
  obtain ⟨h1, h2⟩ := hB
  rw [ht] at h2
  exact W.vret cx.1 cx.2.1 hrt (fun t2 ht2 hW => ⟨⟨v, rfl, trivial, h1, by rw [ht2]; exact h2⟩, hS.F ht2⟩) hS.2.2 dJ4_init_da8c8_6
set_option maxHeartbeats 1000000 in
set_option maxRecDepth 100000 in
theorem c_J0_coder_7d493 (l : Launch) (dC : Nat → ClassId) (dI : Nat → Nat → Nat) (cyB : ClassId) (ad : Nat → Nat) (S : zS) (a n : Nat) (f : Nat → Int32) : zMi l (dC, dI) [(cyB, .byte)] ad 0 (xQ a n f) w0 yJ0_coder_7d493 wsJ0_coder_7d493 (rmk 0 0 0) [.ref a] S (fun v T => v = 0 ∧ T = S) := by
  refine zStartI (by decide) rfl (Nat.le_of_ble_eq_true rfl) ?_
  intro p e s m args below meth c ls cx hrt hlk hP hK hXs hl
  have hl : lv_has ls 1 [(0, .ref a)] := hl
  have hS : va_S (zA ad 0 s.heap.size) s.heap s.heap [] := va_S.rf
  obtain ⟨v, hO, hCo, hV, hT⟩ := id hXs.2
  refine va_gets cx.1 cx.2.1 hXs.1.1 hS cx.2.2.2.1 (cx.2.2.2.2 (.fieldLink RJ0 38 "java/lang/String" "COMPACT_STRINGS" "Z") (by decide +kernel)) (fun _ h => h) dJ0_coder_7d493_0 ?_
  refine lv_if_eq (tgt := 13) cx.1 cx.2.1 dJ0_coder_7d493_3 (by decide) (fun c => absurd c (by decide)) (fun c => ?_)
  refine lv_aload_n cx.1 cx.2.1 dJ0_coder_7d493_6 rfl (lv_at hl 0 rfl) ?_
  refine vk_getf cx.1 cx.2.1 hCo hS cx.2.2.2.1 (cx.2.2.2.2 (.fieldLink RJ0 15 "java/lang/String" "coder" "B") (by decide +kernel)) (fun _ h => h) dJ0_coder_7d493_7 ?_
  refine lv_goto (tgt := 14) cx.1 cx.2.1 dJ0_coder_7d493_10 (by decide) ?_
  exact zRetI cx hrt hlk rfl hS va_P_0 ⟨rfl, rfl⟩ dJ0_coder_7d493_14
set_option maxHeartbeats 1000000 in
set_option maxRecDepth 100000 in
theorem c_J0_isLatin1_aae02 (l : Launch) (dC : Nat → ClassId) (dI : Nat → Nat → Nat) (cyB : ClassId) (ad : Nat → Nat) (S : zS) (a n : Nat) (f : Nat → Int32) : zMi l (dC, dI) [(cyB, .byte)] ad 0 (xQ a n f) w0 yJ0_isLatin1_aae02 wsJ0_isLatin1_aae02 (rmk 0 0 0) [.ref a] S (fun v T => v = 1 ∧ T = S) := by
  refine zStartI (by decide) rfl (Nat.le_of_ble_eq_true rfl) ?_
  intro p e s m args below meth c ls cx hrt hlk hP hK hXs hl
  have hl : lv_has ls 1 [(0, .ref a)] := hl
  have hS : va_S (zA ad 0 s.heap.size) s.heap s.heap [] := va_S.rf
  obtain ⟨v, hO, hCo, hV, hT⟩ := id hXs.2
  refine va_gets cx.1 cx.2.1 hXs.1.1 hS cx.2.2.2.1 (cx.2.2.2.2 (.fieldLink RJ0 38 "java/lang/String" "COMPACT_STRINGS" "Z") (by decide +kernel)) (fun _ h => h) dJ0_isLatin1_aae02_0 ?_
  refine lv_if_eq (tgt := 17) cx.1 cx.2.1 dJ0_isLatin1_aae02_3 (by decide) (fun c => absurd c (by decide)) (fun c => ?_)
  refine lv_aload_n cx.1 cx.2.1 dJ0_isLatin1_aae02_6 rfl (lv_at hl 0 rfl) ?_
  refine vk_getf cx.1 cx.2.1 hCo hS cx.2.2.2.1 (cx.2.2.2.2 (.fieldLink RJ0 15 "java/lang/String" "coder" "B") (by decide +kernel)) (fun _ h => h) dJ0_isLatin1_aae02_7 ?_
  refine lv_if_ne (tgt := 17) cx.1 cx.2.1 dJ0_isLatin1_aae02_10 (by decide) (fun c => absurd rfl c) (fun c => ?_)
  refine lv_iconst (v := 1) cx.1 cx.2.1 dJ0_isLatin1_aae02_13 (by decide) ?_
  refine lv_goto (tgt := 18) cx.1 cx.2.1 dJ0_isLatin1_aae02_14 (by decide) ?_
  exact zRetI cx hrt hlk rfl hS va_P_0 ⟨rfl, rfl⟩ dJ0_isLatin1_aae02_18
set_option maxHeartbeats 1000000 in
set_option maxRecDepth 100000 in
theorem c_J0_length_8abf5 (l : Launch) (dC : Nat → ClassId) (dI : Nat → Nat → Nat) (cyB : ClassId) (ad : Nat → Nat) (S : zS) (a n : Nat) (f : Nat → Int32) : zMi l (dC, dI) [(cyB, .byte)] ad 0 (xQ a n f) w0 yJ0_length_8abf5 wsJ0_length_8abf5 (rmk 1 0 0) [.ref a] S (fun v T => v = nI n ∧ T = S) := by
  refine zStartI (by decide) rfl (Nat.le_of_ble_eq_true rfl) ?_
  intro p e s m args below meth c ls cx hrt hlk hP hK hXs hl
  have hl : lv_has ls 1 [(0, .ref a)] := hl
  have hS : va_S (zA ad 0 s.heap.size) s.heap s.heap [] := va_S.rf
  obtain ⟨v, hO, hCo, hV, hT⟩ := id hXs.2
  refine lv_aload_n cx.1 cx.2.1 dJ0_length_8abf5_0 rfl (lv_at hl 0 rfl) ?_
  refine vk_getf cx.1 cx.2.1 hV hS cx.2.2.2.1 (cx.2.2.2.2 (.fieldLink RJ0 9 "java/lang/String" "value" "[B") (by decide +kernel)) (fun _ h => h) dJ0_length_8abf5_1 ?_
  refine va_tlen cx.1 cx.2.1 hT hS (v := nI n) rfl dJ0_length_8abf5_4 ?_
  refine lv_aload_n cx.1 cx.2.1 dJ0_length_8abf5_5 rfl (lv_at hl 0 rfl) ?_
  refine gThenI hS (gRunQ (a := a) (k := n) (f := f) (tys' := [(cyB, .byte)]) (ad' := ad) (S := S) (As := []) (rest := [.int (nI n)]) (fun sz => zQi (dC, dI) w0 (fun v T => v = 0 ∧ T = S) (zA ad 0 sz)) 0 cx (c_J0_coder_7d493 l dC dI cyB ad S a n f) gJ0_length_8abf5_J0_coder_7d493 rfl ⟨rfl, rfl⟩ (by decide +kernel) ⟨(Nat.le_of_ble_eq_true rfl), (Nat.le_of_ble_eq_true rfl)⟩ (fun U hU hW => (xQ_X a n f ad 0).1 s U _ _ hXs hU hW hS) (by obtain ⟨cell, g1, g2, g3, -⟩ := hO.kept hS.2.1; exact ⟨cell, g1, g2, g3⟩) hK rfl hl.1 rfl (Nat.le_of_ble_eq_true rfl) dJ0_length_8abf5_6 ⟨(Nat.le_of_ble_eq_true rfl), (Nat.le_of_ble_eq_true rfl)⟩) (fun r T H locs hr hk hS => ?_)
  rw [hr.1]
  refine lv_ishr cx.1 cx.2.1 dJ0_length_8abf5_9 ?_
  rw [sb_shr0]
  exact zRetI cx hrt hlk rfl hS va_P_0 ⟨rfl, rfl⟩ dJ0_length_8abf5_10
set_option maxHeartbeats 1000000 in
set_option maxRecDepth 100000 in
theorem c_J3_checkIndex_8e157_n (l : Launch) (dC : Nat → ClassId) (dI : Nat → Nat → Nat) {ad : Nat → Nat} {tys : List (ClassId × FieldType)} {n : Nat} {X : (Nat → Prop) → State → Prop} {w : zS → va_W} (S : zS) (i n1 : Nat) (hi : i < n1) (hn : n1 < 2 ^ 31) : zMi l (dC, dI) tys ad n X w yJ3_checkIndex_8e157 wsJ3_checkIndex_8e157 (rmk 0 0 0) [.int (nI i), .int (nI n1), .null] S (fun v T => v = nI i ∧ T = S) := by
  refine zStartI (by decide) rfl (Nat.le_of_ble_eq_true rfl) ?_
  intro p e s m args below meth c ls cx hrt hlk hP hK hXs hl
  have hl : lv_has ls 3 [(0, .int (nI i)), (1, .int (nI n1)), (2, .null)] := hl
  have hS : va_S (zA ad n s.heap.size) s.heap s.heap [] := va_S.rf
  refine lv_iload_n cx.1 cx.2.1 dJ3_checkIndex_8e157_0 rfl (lv_at hl 0 rfl) ?_
  refine lv_if_lt (tgt := 9) cx.1 cx.2.1 dJ3_checkIndex_8e157_1 (by decide) (fun c => absurd c (nI_pos (by omega))) (fun c => ?_)
  refine lv_iload_n cx.1 cx.2.1 dJ3_checkIndex_8e157_4 rfl (lv_at hl 0 rfl) ?_
  refine lv_iload_n cx.1 cx.2.1 dJ3_checkIndex_8e157_5 rfl (lv_at hl 1 rfl) ?_
  refine lv_icmp_lt (tgt := 16) cx.1 cx.2.1 dJ3_checkIndex_8e157_6 (by decide) (fun c => ?_) (fun c => absurd (nI_lt hi hn) c)
  refine lv_iload_n cx.1 cx.2.1 dJ3_checkIndex_8e157_16 rfl (lv_at hl 0 rfl) ?_
  exact zRetI cx hrt hlk rfl hS hP ⟨rfl, rfl⟩ dJ3_checkIndex_8e157_17
set_option maxHeartbeats 1000000 in
set_option maxRecDepth 100000 in
theorem c_J3_checkIndex_8e157_r (l : Launch) (dC : Nat → ClassId) (dI : Nat → Nat → Nat) {ad : Nat → Nat} {tys : List (ClassId × FieldType)} {n : Nat} {X : (Nat → Prop) → State → Prop} {w : zS → va_W} (S : zS) (i n1 : Nat) (hi : i < n1) (hn : n1 < 2 ^ 31) (t : Nat) : zMi l (dC, dI) tys ad n X w yJ3_checkIndex_8e157 wsJ3_checkIndex_8e157 (rmk 0 0 0) [.int (nI i), .int (nI n1), .ref t] S (fun v T => v = nI i ∧ T = S) := by
  refine zStartI (by decide) rfl (Nat.le_of_ble_eq_true rfl) ?_
  intro p e s m args below meth c ls cx hrt hlk hP hK hXs hl
  have hl : lv_has ls 3 [(0, .int (nI i)), (1, .int (nI n1)), (2, .ref t)] := hl
  have hS : va_S (zA ad n s.heap.size) s.heap s.heap [] := va_S.rf
  refine lv_iload_n cx.1 cx.2.1 dJ3_checkIndex_8e157_0 rfl (lv_at hl 0 rfl) ?_
  refine lv_if_lt (tgt := 9) cx.1 cx.2.1 dJ3_checkIndex_8e157_1 (by decide) (fun c => absurd c (nI_pos (by omega))) (fun c => ?_)
  refine lv_iload_n cx.1 cx.2.1 dJ3_checkIndex_8e157_4 rfl (lv_at hl 0 rfl) ?_
  refine lv_iload_n cx.1 cx.2.1 dJ3_checkIndex_8e157_5 rfl (lv_at hl 1 rfl) ?_
  refine lv_icmp_lt (tgt := 16) cx.1 cx.2.1 dJ3_checkIndex_8e157_6 (by decide) (fun c => ?_) (fun c => absurd (nI_lt hi hn) c)
  refine lv_iload_n cx.1 cx.2.1 dJ3_checkIndex_8e157_16 rfl (lv_at hl 0 rfl) ?_
  exact zRetI cx hrt hlk rfl hS hP ⟨rfl, rfl⟩ dJ3_checkIndex_8e157_17
set_option maxHeartbeats 1000000 in
set_option maxRecDepth 100000 in
theorem c_J0_checkIndex_df160 (l : Launch) (dC : Nat → ClassId) (dI : Nat → Nat → Nat) (cyB : ClassId) (ad : Nat → Nat) (S : zS) (v n : Nat) (f : Nat → Int32) (i : Nat) (hi : i < n) (hn : n < 2 ^ 31) : zMv l (dC, dI) [(cyB, .byte)] ad 0 (xV v n f) w0 yJ0_checkIndex_df160 wsJ0_checkIndex_df160 (rmk 1 0 0) [.int (nI i), .int (nI n)] S (fun T => T = S) := by
  refine zStartV (by decide) rfl (Nat.le_of_ble_eq_true rfl) ?_
  intro p e s m args below meth c ls cx hrt hlk hP hK hXs hl
  have hl : lv_has ls 2 [(0, .int (nI i)), (1, .int (nI n))] := hl
  have hS : va_S (zA ad 0 s.heap.size) s.heap s.heap [] := va_S.rf
  refine lv_iload_n cx.1 cx.2.1 dJ0_checkIndex_df160_0 rfl (lv_at hl 0 rfl) ?_
  refine lv_iload_n cx.1 cx.2.1 dJ0_checkIndex_df160_1 rfl (lv_at hl 1 rfl) ?_
  rcases hXs.1.2.2 with hZ | ⟨t, hZ⟩
  · refine va_gets cx.1 cx.2.1 hZ hS cx.2.2.2.1 (cx.2.2.2.2 (.fieldLink RJ0 1053 "jdk/internal/util/Preconditions" "SIOOBE_FORMATTER" "Ljava/util/function/BiFunction;") (by decide +kernel)) (fun _ h => h) dJ0_checkIndex_df160_2 ?_
    refine zThenIx hS (zRunS (As := [.int (nI i), .int (nI n), .null]) (rest := []) (fun sz => zQi (dC, dI) w0 (fun v T => v = nI i ∧ T = S) (zA ad 0 sz)) 3 cx (c_J3_checkIndex_8e157_n l dC dI S i n hi hn) gJ0_checkIndex_df160_J3_checkIndex_8e157 rfl ⟨rfl, rfl⟩ (by decide +kernel) ⟨(Nat.le_of_ble_eq_true rfl), (Nat.le_of_ble_eq_true rfl)⟩ (xV_X v n f ad 0) hXs hK hP hS rfl hl.1 rfl (Nat.le_of_ble_eq_true rfl) dJ0_checkIndex_df160_5 ⟨(Nat.le_of_ble_eq_true rfl), (Nat.le_of_ble_eq_true rfl)⟩) (fun H locs hP hS => ?_)
    refine lv_pop cx.1 cx.2.1 dJ0_checkIndex_df160_8 rfl ?_
    exact zRetV cx hrt hlk hS hP rfl dJ0_checkIndex_df160_9
  · refine va_gets cx.1 cx.2.1 hZ hS cx.2.2.2.1 (cx.2.2.2.2 (.fieldLink RJ0 1053 "jdk/internal/util/Preconditions" "SIOOBE_FORMATTER" "Ljava/util/function/BiFunction;") (by decide +kernel)) (fun _ h => h) dJ0_checkIndex_df160_2 ?_
    refine zThenIx hS (zRunS (As := [.int (nI i), .int (nI n), .ref t]) (rest := []) (fun sz => zQi (dC, dI) w0 (fun v T => v = nI i ∧ T = S) (zA ad 0 sz)) 3 cx (c_J3_checkIndex_8e157_r l dC dI S i n hi hn t) gJ0_checkIndex_df160_J3_checkIndex_8e157 rfl ⟨rfl, rfl⟩ (by decide +kernel) ⟨(Nat.le_of_ble_eq_true rfl), (Nat.le_of_ble_eq_true rfl)⟩ (xV_X v n f ad 0) hXs hK hP hS rfl hl.1 rfl (Nat.le_of_ble_eq_true rfl) dJ0_checkIndex_df160_5 ⟨(Nat.le_of_ble_eq_true rfl), (Nat.le_of_ble_eq_true rfl)⟩) (fun H locs hP hS => ?_)
    refine lv_pop cx.1 cx.2.1 dJ0_checkIndex_df160_8 rfl ?_
    exact zRetV cx hrt hlk hS hP rfl dJ0_checkIndex_df160_9
set_option maxHeartbeats 1000000 in
set_option maxRecDepth 100000 in
theorem c_J1_charAt_3b067 (l : Launch) (dC : Nat → ClassId) (dI : Nat → Nat → Nat) (cyB : ClassId) (ad : Nat → Nat) (S : zS) (v n : Nat) (f : Nat → Int32) (i : Nat) (hi : i < n) (hn : n < 2 ^ 31) (ch : Nat) (hch : ch < 128) (hf : f i = nI ch) : zMi l (dC, dI) [(cyB, .byte)] ad 0 (xV v n f) w0 yJ1_charAt_3b067 wsJ1_charAt_3b067 (rmk 2 0 0) [.ref v, .int (nI i)] S (fun v T => v = nI ch ∧ T = S) := by
  refine zStartI (by decide) rfl (Nat.le_of_ble_eq_true rfl) ?_
  intro p e s m args below meth c ls cx hrt hlk hP hK hXs hl
  have hl : lv_has ls 2 [(0, .ref v), (1, .int (nI i))] := hl
  have hS : va_S (zA ad 0 s.heap.size) s.heap s.heap [] := va_S.rf
  refine lv_iload_n cx.1 cx.2.1 dJ1_charAt_3b067_0 rfl (lv_at hl 1 rfl) ?_
  refine lv_aload_n cx.1 cx.2.1 dJ1_charAt_3b067_1 rfl (lv_at hl 0 rfl) ?_
  refine va_tlen cx.1 cx.2.1 hXs.2 hS (v := nI n) rfl dJ1_charAt_3b067_2 ?_
  refine zThenVx hS (zRunS (As := [.int (nI i), .int (nI n)]) (rest := []) (fun sz => zQv (dC, dI) w0 (fun T => T = S) (zA ad 0 sz)) 2 cx (c_J0_checkIndex_df160 l dC dI cyB ad S v n f i hi hn) gJ1_charAt_3b067_J0_checkIndex_df160 rfl ⟨rfl, rfl⟩ (by decide +kernel) ⟨(Nat.le_of_ble_eq_true rfl), (Nat.le_of_ble_eq_true rfl)⟩ (xV_X v n f ad 0) hXs hK hP hS rfl hl.1 rfl (Nat.le_of_ble_eq_true rfl) dJ1_charAt_3b067_3 ⟨(Nat.le_of_ble_eq_true rfl), (Nat.le_of_ble_eq_true rfl)⟩) (fun H locs hP hS => ?_)
  refine lv_aload_n cx.1 cx.2.1 dJ1_charAt_3b067_6 rfl (lv_at hl 0 rfl) ?_
  refine lv_iload_n cx.1 cx.2.1 dJ1_charAt_3b067_7 rfl (lv_at hl 1 rfl) ?_
  refine va_tb cx.1 cx.2.1 hXs.2 hS (vp_in_nI hi hn) (v := .int (nI ch)) (by rw [nI_clamp (by omega), hf]) dJ1_charAt_3b067_8 ?_
  refine lv_sipush (v := 255) cx.1 cx.2.1 dJ1_charAt_3b067_9 (by decide) ?_
  refine lv_iand cx.1 cx.2.1 dJ1_charAt_3b067_12 ?_
  refine lv_i2c (v := nI ch) cx.1 cx.2.1 dJ1_charAt_3b067_13 (b12 ch hch) ?_
  exact zRetI cx hrt hlk (b13 ch hch) hS hP ⟨rfl, rfl⟩ dJ1_charAt_3b067_14
set_option maxHeartbeats 1000000 in
set_option maxRecDepth 100000 in
theorem c_J0_charAt_5068e (l : Launch) (dC : Nat → ClassId) (dI : Nat → Nat → Nat) (cyB : ClassId) (ad : Nat → Nat) (S : zS) (a n : Nat) (f : Nat → Int32) (i : Nat) (hi : i < n) (hn : n < 2 ^ 31) (ch : Nat) (hch : ch < 128) (hf : f i = nI ch) : zMi l (dC, dI) [(cyB, .byte)] ad 0 (xQ a n f) w0 yJ0_charAt_5068e wsJ0_charAt_5068e (rmk 3 0 0) [.ref a, .int (nI i)] S (fun v T => v = nI ch ∧ T = S) := by
  refine zStartI (by decide) rfl (Nat.le_of_ble_eq_true rfl) ?_
  intro p e s m args below meth c ls cx hrt hlk hP hK hXs hl
  have hl : lv_has ls 2 [(0, .ref a), (1, .int (nI i))] := hl
  have hS : va_S (zA ad 0 s.heap.size) s.heap s.heap [] := va_S.rf
  obtain ⟨v, hO, hCo, hV, hT⟩ := id hXs.2
  refine lv_aload_n cx.1 cx.2.1 dJ0_charAt_5068e_0 rfl (lv_at hl 0 rfl) ?_
  refine gThenI hS (gRunQ (a := a) (k := n) (f := f) (tys' := [(cyB, .byte)]) (ad' := ad) (S := S) (As := []) (rest := []) (fun sz => zQi (dC, dI) w0 (fun v T => v = 1 ∧ T = S) (zA ad 0 sz)) 0 cx (c_J0_isLatin1_aae02 l dC dI cyB ad S a n f) gJ0_charAt_5068e_J0_isLatin1_aae02 rfl ⟨rfl, rfl⟩ (by decide +kernel) ⟨(Nat.le_of_ble_eq_true rfl), (Nat.le_of_ble_eq_true rfl)⟩ (fun U hU hW => (xQ_X a n f ad 0).1 s U _ _ hXs hU hW hS) (by obtain ⟨cell, g1, g2, g3, -⟩ := hO.kept hS.2.1; exact ⟨cell, g1, g2, g3⟩) hK rfl hl.1 rfl (Nat.le_of_ble_eq_true rfl) dJ0_charAt_5068e_1 ⟨(Nat.le_of_ble_eq_true rfl), (Nat.le_of_ble_eq_true rfl)⟩) (fun r T H locs hr hk hS => ?_)
  rw [hr.1]
  refine lv_if_eq (tgt := 16) cx.1 cx.2.1 dJ0_charAt_5068e_4 (by decide) (fun c => absurd c (by decide)) (fun c => ?_)
  refine lv_aload_n cx.1 cx.2.1 dJ0_charAt_5068e_7 rfl (lv_at hl 0 rfl) ?_
  refine vk_getf cx.1 cx.2.1 hV hS cx.2.2.2.1 (cx.2.2.2.2 (.fieldLink RJ0 9 "java/lang/String" "value" "[B") (by decide +kernel)) (fun _ h => h) dJ0_charAt_5068e_8 ?_
  refine lv_iload_n cx.1 cx.2.1 dJ0_charAt_5068e_11 rfl (lv_at hl 1 rfl) ?_
  refine gThenI hS (gRunS (tys' := [(cyB, .byte)]) (ad' := ad) (X' := xV v n f) (S := S) (As := [.ref v, .int (nI i)]) (rest := []) (fun sz => zQi (dC, dI) w0 (fun v T => v = nI ch ∧ T = S) (zA ad 0 sz)) 2 cx (c_J1_charAt_3b067 l dC dI cyB ad S v n f i hi hn ch hch hf) gJ0_charAt_5068e_J1_charAt_3b067 rfl ⟨rfl, rfl⟩ (by decide +kernel) ⟨(Nat.le_of_ble_eq_true rfl), (Nat.le_of_ble_eq_true rfl)⟩ (xV_X v n f ad 0) (fun U hU hW => ?_) hK rfl hl.1 rfl (Nat.le_of_ble_eq_true rfl) dJ0_charAt_5068e_12 ⟨(Nat.le_of_ble_eq_true rfl), (Nat.le_of_ble_eq_true rfl)⟩) (fun r T H locs hr hk hS => ?_)
  · refine ⟨?_, ?_⟩
    · rw [hU]
      exact ((xJ.moved hW.alike hXs.1).kept hS.2.1).narrow (zOld hS)
    · rw [hU]
      exact ((va_T.moved hW.alike hT).kept hS.2.1).narrow (zOld hS)
  rw [hr.1]
  exact zRetI cx hrt hlk (b13 ch hch) hS va_P_0 ⟨rfl, rfl⟩ dJ0_charAt_5068e_15
