/-! THE LAW, from its entry -/
theorem LBd_0 {S : zS} (hC : ∀ r, r < 18 → S r = C0 r) (h0 : S 20 = fun _ => 0) (h1 : S 21 = fun _ => 0) (h2 : S 22 = upd (upd (upd (fun _ => 0) 0 1000) 3 3) 4 4) : LBd S := by
  have m : ∀ i, i < 5 → bM S 13 i = M0 13 i := fun i hi => by
    rw [bM_13, h2]
    rcases (show i = 0 ∨ i = 1 ∨ i = 2 ∨ i = 3 ∨ i = 4 by omega) with rfl | rfl | rfl | rfl | rfl <;> rfl
  refine ⟨⟨Rel_move (Rel_lo Rel_0 hC) ?_ ?_ m, ?_, ?_⟩, 0, by decide, ?_⟩
  · rw [bM_0, h0]
    rfl
  · rw [bM_1, h1]
    rfl
  · rw [h0]
    exact fun _ _ => Or.inl rfl
  · rw [h1]
    exact fun _ _ _ => rfl
  · rw [h2]
    rfl
set_option maxHeartbeats 8000000 in
set_option maxRecDepth 100000 in
theorem whole_start {p : Program} {e : Env} {s : State} {m : MethodId} {below : List Frame} {meth : Method} {c : Code} (l : Launch) (hflags : l.flags = flags0) {b L : Nat} {xs : Nat → Int32} (hL : L ≤ 260) (hC : lw_At p s m meth c b L xs) : W p l e room_1 s m #[Value.ref b] below meth c s.heap [] 0 0 (lw_Z below #[Value.ref b] s) (entryFrame m ([Value.ref b] : List Value).toArray 7) := by
  obtain ⟨hx, hb, hr, hml, hown, hts0, hX, hbl, hlocks, hgv⟩ := hC
  have hts : ∀ w ∈ wsL_law, w.before #[Value.ref b] s = true := fun w h => hts0 w (wsL_law_in w h)
  have cx : CallFix p m c cL_law 7 s #[Value.ref b] wsB_law RL := ⟨hx, hb, hml, hown, fun w h => hts0 w (wsB_law_in w h)⟩
  have hlf : l.stackTraces = false := by
    unfold Launch.stackTraces
    rw [hflags]
    decide +kernel
  have hA : ∀ q : Nat, s.heap.size ≤ q → lA s q := fun _ h => h
  obtain ⟨c0, i0, k0⟩ := u_known (C := RJ0) (T := TJ0) (N := 4) (n := 4) hts inlJ0 (hts (.instantiable RJ0 4) (by decide +kernel))
  obtain ⟨c1, i1, k1⟩ := u_known (C := RJ4) (T := TJ4) (N := 4) (n := 4) hts inlJ4 (hts (.instantiable RJ4 4) (by decide +kernel))
  obtain ⟨c2, i2, k2⟩ := u_known (C := RX0) (T := TX0) (N := 2) (n := 2) hts inlX0 (hts (.instantiable RX0 2) (by decide +kernel))
  obtain ⟨c3, i3, k3⟩ := u_known (C := RX1) (T := TX1) (N := 7) (n := 7) hts inlX1 (hts (.instantiable RX1 7) (by decide +kernel))
  obtain ⟨c4, i4, k4⟩ := u_known (C := RX2) (T := TX2) (N := 5) (n := 5) hts inlX2 (hts (.instantiable RX2 5) (by decide +kernel))
  obtain ⟨c5, i5, k5⟩ := u_known (C := RX3) (T := TX3) (N := 5) (n := 5) hts inlX3 (hts (.instantiable RX3 5) (by decide +kernel))
  obtain ⟨c6, i6, k6⟩ := u_known (C := RX4) (T := TX4) (N := 1) (n := 1) hts inlX4 (hts (.instantiable RX4 1) (by decide +kernel))
  obtain ⟨c7, i7, k7⟩ := u_known (C := RX5) (T := TX5) (N := 3) (n := 3) hts inlX5 (hts (.instantiable RX5 3) (by decide +kernel))
  obtain ⟨c8, i8, k8⟩ := u_known (C := RX6) (T := TX6) (N := 5) (n := 5) hts inlX6 (hts (.instantiable RX6 5) (by decide +kernel))
  obtain ⟨dC, dI, hKc⟩ : ∃ (dC : Nat → ClassId) (dI : Nat → Nat → Nat), ∀ (k : Nat) (q : vw_C), vwCl[k]? = some q → u_Kn s q.1 q.2.1 q.2.2 (dC k) (dI k) := by
    refine ⟨fun k => match k with | 0 => c0 | 1 => c1 | 2 => c2 | 3 => c3 | 4 => c4 | 5 => c5 | 6 => c6 | 7 => c7 | _ => c8, fun k => match k with | 0 => i0 | 1 => i1 | 2 => i2 | 3 => i3 | 4 => i4 | 5 => i5 | 6 => i6 | 7 => i7 | _ => i8, ?_⟩
    intro k q hq
    match k, hq with
    | 0, hq => cases hq; exact k0
    | 1, hq => cases hq; exact k1
    | 2, hq => cases hq; exact k2
    | 3, hq => cases hq; exact k3
    | 4, hq => cases hq; exact k4
    | 5, hq => cases hq; exact k5
    | 6, hq => cases hq; exact k6
    | 7, hq => cases hq; exact k7
    | 8, hq => cases hq; exact k8
    | k + 9, hq => simp [vwCl] at hq
  obtain ⟨cyI, aI, nI'⟩ := arrT (hts (.arrayClass .int) (by decide +kernel))
  obtain ⟨cyB, aB, nB'⟩ := arrT (hts (.arrayClass .byte) (by decide +kernel))
  have hK : va_K (dC, dI) vwCl (lTys cyI cyB) s := by
    refine ⟨hKc, fun k q hq => ?_⟩
    match k, hq with
    | 0, hq => cases hq; exact ⟨aI, nI'⟩
    | 1, hq => cases hq; exact ⟨aB, nB'⟩
    | k + 2, hq => simp [lTys] at hq
  have hS : va_S (lA s) s.heap s.heap [] := va_S.rf
  have hP : va_P (dC, dI) vwCl [] s.heap := fun k q h => by simp at h
  have hD : va_D (lA s) [] := ⟨fun i j p q h => by simp at h, fun k q h => by simp at h⟩
  have hl := lv_entry ([.ref b]) (n := 7) (Nat.le_of_ble_eq_true rfl)
  rw [lg_entry_eq]
  generalize (lg_sl ([.ref b]) ++ List.replicate (7 - (lg_sl ([.ref b])).length) Slot.unset).toArray = ls at hl ⊢
  have hl : lv_has ls 7 [(0, .ref b)] := hl
  refine va_new (ci := 8) (fs := [.null, .null, .null, .null, .null]) (C := RX6) (T := TX6) (N := 5) hx hb hts inlX6 tyX6 tyX6_ok hown (hts (.classLink RL 9 RX6) (by decide +kernel)) (hts (.instantiable RX6 5) (by decide +kernel)) (hts (.initialized RX6) (by decide +kernel)) hK hP hD hS hA rfl (fun j hj => by rcases (show j = 0 ∨ j = 1 ∨ j = 2 ∨ j = 3 ∨ j = 4 by omega) with rfl | rfl | rfl | rfl | rfl <;> rfl) (Nat.le_of_ble_eq_true rfl) (Nat.le_of_ble_eq_true rfl) dL_law_0 (fun h0 H hP hD hS => ?_)
  have hP : va_P (dC, dI) vwCl [(h0, .inr (8, [.null, .null, .null, .null, .null]))] H := hP
  have hD : va_D (lA s) [(h0, .inr (8, [.null, .null, .null, .null, .null]))] := hD
  refine lv_dup hx hb dL_law_3 rfl ?_
  refine iCallI (As := []) (rest := [.ref h0]) (wr := []) (tys' := [(cyI, .int)]) 0 cx (c_X6_init l dC dI cyI h0) gB_law_X6_init rfl ⟨rfl, rfl⟩ (inB (by decide +kernel)) (inB (by decide +kernel)) (inB (by decide +kernel)) rfl (by decide +kernel) ⟨(Nat.le_of_ble_eq_true rfl), (Nat.le_of_ble_eq_true rfl)⟩ xI_X (xI_start hts0) (hK.sub [0] rfl) hP hD hS hA [0] [] rfl rfl rfl (by decide) (by decide) rfl hl.1 rfl (Nat.le_of_ble_eq_true rfl) dL_law_4 ⟨(Nat.le_of_ble_eq_true rfl), (Nat.le_of_ble_eq_true rfl)⟩ (fun u H locs hu hP hD hS => ?_)
  refine lv_astore_n (lv' := [(1, .ref h0), (0, .ref b)]) hx hb dL_law_7 rfl hl (by decide) rfl (fun ls hl => ?_)
  have hP : va_P (dC, dI) vwCl (cw cyI u C0) H := hP
  have hD : va_D (lA s) (cw cyI u C0) := hD
  refine lv_bipush (v := 64) hx hb dL_law_8 (by decide) ?_
  refine va_newa (atype := .int) (a0 := (64, .inl (fun _ => 0))) (N' := 64) hx hb (hts (.arrayClass .int) (by decide +kernel)) rfl hK hP hD hS hA (fun _ => rfl) (by decide) (by decide) (Nat.le_of_ble_eq_true rfl) (Nat.le_of_ble_eq_true rfl) (Nat.le_of_ble_eq_true rfl) dL_law_10 (fun q1 cA H hKn hP hD hS => ?_)
  obtain rfl : cyI = cA := Option.some.inj ((va_nm_int (hKn.2 0 _ rfl).2).symm.trans (va_nm_int (hKn.2 2 _ rfl).2))
  refine lv_astore_n (lv' := [(2, .ref q1), (1, .ref h0), (0, .ref b)]) hx hb dL_law_12 rfl hl (by decide) rfl (fun ls hl => ?_)
  refine lv_bipush (v := 64) hx hb dL_law_13 (by decide) ?_
  refine va_newa (atype := .int) (a0 := (64, .inl (fun _ => 0))) (N' := 64) hx hb (hts (.arrayClass .int) (by decide +kernel)) rfl hK hP hD hS hA (fun _ => rfl) (by decide) (by decide) (Nat.le_of_ble_eq_true rfl) (Nat.le_of_ble_eq_true rfl) (Nat.le_of_ble_eq_true rfl) dL_law_15 (fun q2 cA H hKn hP hD hS => ?_)
  obtain rfl : cyI = cA := Option.some.inj ((va_nm_int (hKn.2 0 _ rfl).2).symm.trans (va_nm_int (hKn.2 2 _ rfl).2))
  refine lv_astore_n (lv' := [(3, .ref q2), (2, .ref q1), (1, .ref h0), (0, .ref b)]) hx hb dL_law_17 rfl hl (by decide) rfl (fun ls hl => ?_)
  refine lv_iconst (v := 5) hx hb dL_law_18 (by decide) ?_
  refine va_newa (atype := .int) (a0 := (5, .inl (fun _ => 0))) (N' := 5) hx hb (hts (.arrayClass .int) (by decide +kernel)) rfl hK hP hD hS hA (fun _ => rfl) (by decide) (by decide) (Nat.le_of_ble_eq_true rfl) (Nat.le_of_ble_eq_true rfl) (Nat.le_of_ble_eq_true rfl) dL_law_19 (fun q3 cA H hKn hP hD hS => ?_)
  obtain rfl : cyI = cA := Option.some.inj ((va_nm_int (hKn.2 0 _ rfl).2).symm.trans (va_nm_int (hKn.2 2 _ rfl).2))
  refine lv_astore (lv' := [(4, .ref q3), (3, .ref q2), (2, .ref q1), (1, .ref h0), (0, .ref b)]) hx hb dL_law_21 hl (by decide) rfl (fun ls hl => ?_)
  obtain ⟨ad, had⟩ : ∃ ad, ad = adL u q1 q2 q3 := ⟨_, rfl⟩
  obtain ⟨S, hSd⟩ : ∃ S, S = zUp (zUp (zUp C0 20 (fun _ => 0)) 21 (fun _ => 0)) 22 (fun _ => 0) := ⟨_, rfl⟩
  have hD : va_D (lA s) (qw cyI ad S) := by
    rw [had, hSd]
    exact hD
  have hP : va_P (dC, dI) vwCl (qw cyI ad S) H := by
    rw [had, hSd]
    exact hP
  obtain ⟨hI, hAd⟩ := zI_of (qw_W cyI ad) hD
  have hA2 : zA ad 39 s.heap.size = lA s := zA_L hAd
  have hl : lv_has ls 7 [(4, .ref (ad 38)), (3, .ref (ad 37)), (2, .ref (ad 36)), (1, .ref (ad 0)), (0, .ref b)] := by
    rw [had, show adL u q1 q2 q3 0 = h0 from hu]
    exact hl
  have s20 : S 20 = fun _ => 0 := by
    rw [hSd]
    rfl
  have s21 : S 21 = fun _ => 0 := by
    rw [hSd]
    rfl
  have s22 : S 22 = fun _ => 0 := by
    rw [hSd]
    rfl
  have sC : ∀ r, r < 18 → S r = C0 r := fun r hr => by
    rw [hSd, zUp_n _ _ (by omega), zUp_n _ _ (by omega), zUp_n _ _ (by omega)]
  clear hD hSd had hu
  obtain ⟨scr, x1, x2, x3, x4, x5⟩ := hX
  have hXs : xZ b L xs (zA ad 39 s.heap.size) s := by
    rw [hA2]
    refine ⟨xL_start hts0 hgv, scr, x1, x2, x3, by omega, ?_, x5, Nat.not_le.mpr hbl⟩
    rw [x4]
  rw [← hA2] at hS
  refine lv_aload hx hb dL_law_23 (lv_at hl 0 rfl) ?_
  refine lv_iconst (v := nI 0) hx hb dL_law_25 (by decide) ?_
  refine lv_sipush (v := 1000) hx hb dL_law_26 (by decide) ?_
  refine zIstN cx (qw_W cyI ad) hI hK hP hS 38 0 rfl rfl 0 (by omega) (by decide) rfl (zUp S 22 (upd (S 22) 0 1000)) rfl dL_law_29 (fun H locs hP hS => ?_)
  refine lv_aload hx hb dL_law_30 (lv_at hl 0 rfl) ?_
  refine lv_iconst (v := nI 3) hx hb dL_law_32 (by decide) ?_
  refine lv_iconst (v := 3) hx hb dL_law_33 (by decide) ?_
  refine zIstN cx (qw_W cyI ad) hI hK hP hS 38 0 rfl rfl 3 (by omega) (by decide) rfl (zUp (zUp S 22 (upd (S 22) 0 1000)) 22 (upd ((zUp S 22 (upd (S 22) 0 1000)) 22) 3 3)) rfl dL_law_34 (fun H locs hP hS => ?_)
  refine lv_aload hx hb dL_law_35 (lv_at hl 0 rfl) ?_
  refine lv_iconst (v := nI 4) hx hb dL_law_37 (by decide) ?_
  refine lv_iconst (v := 4) hx hb dL_law_38 (by decide) ?_
  refine zIstN cx (qw_W cyI ad) hI hK hP hS 38 0 rfl rfl 4 (by omega) (by decide) rfl (zUp (zUp (zUp S 22 (upd (S 22) 0 1000)) 22 (upd ((zUp S 22 (upd (S 22) 0 1000)) 22) 3 3)) 22 (upd ((zUp (zUp S 22 (upd (S 22) 0 1000)) 22 (upd ((zUp S 22 (upd (S 22) 0 1000)) 22) 3 3)) 22) 4 4)) rfl dL_law_39 (fun H locs hP hS => ?_)
  obtain ⟨T, hT⟩ : ∃ T, T = (zUp (zUp (zUp S 22 (upd (S 22) 0 1000)) 22 (upd ((zUp S 22 (upd (S 22) 0 1000)) 22) 3 3)) 22 (upd ((zUp (zUp S 22 (upd (S 22) 0 1000)) 22 (upd ((zUp S 22 (upd (S 22) 0 1000)) 22) 3 3)) 22) 4 4)) := ⟨_, rfl⟩
  rw [← hT] at hP
  have hB : LBd T := by
    refine LBd_0 (fun r hr => ?_) ?_ ?_ ?_
    · rw [hT, zUp_n _ _ (by omega), zUp_n _ _ (by omega), zUp_n _ _ (by omega)]
      exact sC r hr
    · rw [hT, zUp_n _ _ (by omega), zUp_n _ _ (by omega), zUp_n _ _ (by omega)]
      exact s20
    · rw [hT, zUp_n _ _ (by omega), zUp_n _ _ (by omega), zUp_n _ _ (by omega)]
      exact s21
    · rw [hT, zUp_s, zUp_s, zUp_s, s22]
  clear hT
  refine lv_aload_n hx hb dL_law_40 rfl (lv_at hl 3 rfl) ?_
  refine lv_aload_n hx hb dL_law_41 rfl (lv_at hl 2 rfl) ?_
  refine lv_aload_n hx hb dL_law_42 rfl (lv_at hl 1 rfl) ?_
  refine lv_aload hx hb dL_law_43 (lv_at hl 0 rfl) ?_
  refine lv_iconst (v := nI 0) hx hb dL_law_45 (by decide) ?_
  refine lv_bipush (v := nI 63) hx hb dL_law_46 (by decide) ?_
  refine bCall (As := [.ref (ad 0), .ref (ad 36), .ref (ad 37), .ref (ad 38), .int (nI 0), .int (nI 63)]) (rest := []) 6 cx (c_L_isTownB l dC dI cyI cyB ad hI hlf T hB 0 63 (by decide) (by decide)) gL_law_L_isTown rfl ⟨rfl, rfl⟩ (by decide +kernel) ⟨Nat.le_of_ble_eq_true rfl, Nat.le_of_ble_eq_true rfl⟩ (xL_X ad 39) hXs.1 hK hP hS rfl hl.1 rfl (Nat.le_of_ble_eq_true rfl) dL_law_48 ⟨Nat.le_of_ble_eq_true rfl, Nat.le_of_ble_eq_true rfl⟩ (fun r4 T4 H locs hp hP hS => ?_)
  obtain ⟨h6, h7⟩ := hp
  subst h6
  rw [h7] at hP
  refine lv_istore (lv' := [(5, .int 1), (4, .ref (ad 38)), (3, .ref (ad 37)), (2, .ref (ad 36)), (1, .ref (ad 0)), (0, .ref b)]) hx hb dL_law_51 hl (by decide) rfl (fun ls hl => ?_)
  refine lv_iconst (v := nI 0) hx hb dL_law_53 (by decide) ?_
  refine lv_istore (lv' := [(6, .int (nI 0)), (5, .int 1), (4, .ref (ad 38)), (3, .ref (ad 37)), (2, .ref (ad 36)), (1, .ref (ad 0)), (0, .ref b)]) hx hb dL_law_54 hl (by decide) rfl (fun ls hl => ?_)
  exact law_loop hI hlf cx hr hlocks hK hXs hA2 (by omega) 40 0 rfl T hB H locs ls _ _ hP hS (lv_sub hl [6, 5, 4, 3, 2, 1, 0] rfl) (Nat.le_of_ble_eq_true rfl) (Nat.le_of_ble_eq_true rfl)
