theorem zI_of {A : Nat → Prop} {ad : Nat → Nat} {n : Nat} {w : zS → va_W} (hW : zW ad n w) {S : zS} (hD : va_D A (w S)) : zI ad n ∧ ∀ i, i < n → A (ad i) := by
  have hlen : (w S).length = n := by
    have h := congrArg List.length (hW S)
    rw [List.length_map, List.length_map, List.length_range] at h
    exact h
  have hat : ∀ i, i < n → ∃ q, (w S)[i]? = some q ∧ q.1 = ad i := fun i hi => by
    have hq : (w S)[i]? = some ((w S)[i]'(by omega)) := List.getElem?_eq_getElem _
    exact ⟨_, hq, (zW_at hW hq).2⟩
  refine ⟨fun i j hi hj e => ?_, fun i hi => ?_⟩
  · obtain ⟨q, h1, h2⟩ := hat i hi
    obtain ⟨q', h1', h2'⟩ := hat j hj
    exact hD.1 i j q q' h1 h1' (by rw [h2, h2', e])
  · obtain ⟨q, h1, h2⟩ := hat i hi
    rw [← h2]
    exact hD.2 i q h1
theorem zI_apart {A : Nat → Prop} {ad am : Nat → Nat} {n k : Nat} {w v : zS → va_W} (hW : zW ad n w) (hV : zW am k v) {S T : zS} (hD : va_D A (w S ++ v T)) : ∀ i j, i < n → j < k → ad i ≠ am j := by
  intro i j hi hj e
  have hlen : (w S).length = n := by
    have h := congrArg List.length (hW S)
    rw [List.length_map, List.length_map, List.length_range] at h
    exact h
  have hlen2 : (v T).length = k := by
    have h := congrArg List.length (hV T)
    rw [List.length_map, List.length_map, List.length_range] at h
    exact h
  have hq : (w S)[i]? = some ((w S)[i]'(by omega)) := List.getElem?_eq_getElem _
  have hq' : (v T)[j]? = some ((v T)[j]'(by omega)) := List.getElem?_eq_getElem _
  have e1 := (zW_at hW hq).2
  have e2 := (zW_at hV hq').2
  have h1 : (w S ++ v T)[i]? = some ((w S)[i]'(by omega)) := by
    rw [List.getElem?_append_left (by omega)]
    exact hq
  have h2 : (w S ++ v T)[n + j]? = some ((v T)[j]'(by omega)) := by
    rw [List.getElem?_append_right (by omega), hlen, Nat.add_sub_cancel_left]
    exact hq'
  have := hD.1 i (n + j) _ _ h1 h2 (by rw [e1, e2, e])
  omega
set_option maxHeartbeats 8000000 in
set_option maxRecDepth 100000 in
/-- THE LAW, from its entry -/
theorem whole_start {p : Program} {e : Env} {s : State} {m : MethodId} {below : List Frame} {meth : Method} {c : Code} (l : Launch) (hflags : l.flags = flags0) {b L : Nat} {xs : Nat → Int32} (hL : L ≤ 1536) (hC : lw_At p s m meth c b L xs) : W p l e room_1 s m #[Value.ref b] below meth c s.heap [] 0 0 (lw_Z below #[Value.ref b] s) (entryFrame m ([Value.ref b] : List Value).toArray 7) := by
  obtain ⟨hx, hb, hr, hml, hown, hts0, hX, hbl, hlocks, hgv⟩ := hC
  have hts : ∀ w ∈ wsL_law, w.before #[Value.ref b] s = true := fun w h => hts0 w (wsL_law_in w h)
  have cx : CallFix p m c cL_law 7 s #[Value.ref b] wsL_law RL := ⟨hx, hb, hml, hown, hts⟩
  have hlf : l.stackTraces = false := by
    unfold Launch.stackTraces
    rw [hflags]
    decide +kernel
  have hA : ∀ q : Nat, s.heap.size ≤ q → lA s q := fun _ h => h
  obtain ⟨c0, i0, k0⟩ := u_known (C := RJ0) (T := TJ0) (N := 4) (n := 4) hts inlJ0 (hts (.instantiable RJ0 4) (by decide +kernel))
  obtain ⟨c1, i1, k1⟩ := u_known (C := RJ4) (T := TJ4) (N := 4) (n := 4) hts inlJ4 (hts (.instantiable RJ4 4) (by decide +kernel))
  obtain ⟨c2, i2, k2⟩ := u_known (C := RX0) (T := TX0) (N := 2) (n := 2) hts inlX0 (hts (.instantiable RX0 2) (by decide +kernel))
  obtain ⟨c3, i3, k3⟩ := u_known (C := RX1) (T := TX1) (N := 7) (n := 7) hts inlX1 (hts (.instantiable RX1 7) (by decide +kernel))
  obtain ⟨c4, i4, k4⟩ := u_known (C := RX2) (T := TX2) (N := 5) (n := 5) hts inlX2 (hts (.instantiable RX2 5) (by decide +kernel))
  obtain ⟨c5, i5, k5⟩ := u_known (C := RX3) (T := TX3) (N := 5) (n := 5) hts inlX3 (hts (.instantiable RX3 5) (by decide +kernel))
  obtain ⟨c6, i6, k6⟩ := u_known (C := RX4) (T := TX4) (N := 1) (n := 1) hts inlX4 (hts (.instantiable RX4 1) (by decide +kernel))
  obtain ⟨c7, i7, k7⟩ := u_known (C := RX5) (T := TX5) (N := 3) (n := 3) hts inlX5 (hts (.instantiable RX5 3) (by decide +kernel))
  obtain ⟨c8, i8, k8⟩ := u_known (C := RX6) (T := TX6) (N := 5) (n := 5) hts inlX6 (hts (.instantiable RX6 5) (by decide +kernel))
  obtain ⟨c9, i9, k9⟩ := u_known (C := RX7) (T := TX7) (N := 19) (n := 19) hts inlX7 (hts (.instantiable RX7 19) (by decide +kernel))
  obtain ⟨dC, dI, hKc⟩ : ∃ (dC : Nat → ClassId) (dI : Nat → Nat → Nat), ∀ (k : Nat) (q : vw_C), vwCl[k]? = some q → u_Kn s q.1 q.2.1 q.2.2 (dC k) (dI k) := by
    refine ⟨fun k => match k with | 0 => c0 | 1 => c1 | 2 => c2 | 3 => c3 | 4 => c4 | 5 => c5 | 6 => c6 | 7 => c7 | 8 => c8 | _ => c9, fun k => match k with | 0 => i0 | 1 => i1 | 2 => i2 | 3 => i3 | 4 => i4 | 5 => i5 | 6 => i6 | 7 => i7 | 8 => i8 | _ => i9, ?_⟩
    intro k q hq
    match k, hq with
    | 0, hq => cases hq; exact k0
    | 1, hq => cases hq; exact k1
    | 2, hq => cases hq; exact k2
    | 3, hq => cases hq; exact k3
    | 4, hq => cases hq; exact k4
    | 5, hq => cases hq; exact k5
    | 6, hq => cases hq; exact k6
    | 7, hq => cases hq; exact k7
    | 8, hq => cases hq; exact k8
    | 9, hq => cases hq; exact k9
    | k + 10, hq => simp [vwCl] at hq
  obtain ⟨cyI, aI, nI'⟩ := arrT (hts (.arrayClass .int) (by decide +kernel))
  obtain ⟨cyJ, aJ, nJ'⟩ := arrT (hts (.arrayClass .long) (by decide +kernel))
  obtain ⟨cyB, aB, nB'⟩ := arrT (hts (.arrayClass .byte) (by decide +kernel))
  obtain ⟨cyZ, aZ, nZ'⟩ := arrT (hts (.arrayClass .boolean) (by decide +kernel))
  have hK : va_K (dC, dI) vwCl [(cyI, .int), (cyJ, .long), (cyB, .byte), (cyZ, .boolean)] s := by
    refine ⟨hKc, fun k q hq => ?_⟩
    match k, hq with
    | 0, hq => cases hq; exact ⟨aI, nI'⟩
    | 1, hq => cases hq; exact ⟨aJ, nJ'⟩
    | 2, hq => cases hq; exact ⟨aB, nB'⟩
    | 3, hq => cases hq; exact ⟨aZ, nZ'⟩
    | k + 4, hq => simp at hq
  have hS : va_S (lA s) s.heap s.heap [] := va_S.rf
  have hP : va_P (dC, dI) vwCl [] s.heap := fun k q h => by simp at h
  have hD : va_D (lA s) [] := ⟨fun i j p q h => by simp at h, fun k q h => by simp at h⟩
  have hl := lv_entry ([.ref b]) (n := 7) (Nat.le_of_ble_eq_true rfl)
  rw [lg_entry_eq]
  generalize (lg_sl ([.ref b]) ++ List.replicate (7 - (lg_sl ([.ref b])).length) Slot.unset).toArray = ls at hl ⊢
  have hl : lv_has ls 7 [(0, .ref b)] := hl
  refine va_new (ci := 8) (fs := [.null, .null, .null, .null, .null]) (C := RX6) (T := TX6) (N := 5) hx hb hts inlX6 tyX6 tyX6_ok hown (hts (.classLink RL 8 RX6) (by decide +kernel)) (hts (.instantiable RX6 5) (by decide +kernel)) (hts (.initialized RX6) (by decide +kernel)) hK hP hD hS hA rfl (fun j hj => by rcases (show j = 0 ∨ j = 1 ∨ j = 2 ∨ j = 3 ∨ j = 4 by omega) with rfl | rfl | rfl | rfl | rfl <;> rfl) (Nat.le_of_ble_eq_true rfl) (Nat.le_of_ble_eq_true rfl) dL_law_0 (fun h0 H hP hD hS => ?_)
  have hP : va_P (dC, dI) vwCl [(h0, .inr (8, [.null, .null, .null, .null, .null]))] H := hP
  have hD : va_D (lA s) [(h0, .inr (8, [.null, .null, .null, .null, .null]))] := hD
  refine lv_dup hx hb dL_law_3 rfl ?_
  refine iCallI (As := []) (rest := [.ref h0]) (wr := []) (tys' := [(cyI, .int)]) 0 cx (c_X6_init l dC dI cyI h0) gL_law_X6_init rfl ⟨rfl, rfl⟩ (by decide +kernel) (by decide +kernel) (by decide +kernel) rfl (by decide +kernel) ⟨(Nat.le_of_ble_eq_true rfl), (Nat.le_of_ble_eq_true rfl)⟩ xI_X (xI_start hts0) (hK.sub [0] rfl) hP hD hS hA [0] [] rfl rfl rfl (by decide) (by decide) rfl hl.1 rfl (Nat.le_of_ble_eq_true rfl) dL_law_4 ⟨(Nat.le_of_ble_eq_true rfl), (Nat.le_of_ble_eq_true rfl)⟩ (fun u H locs hu hP hD hS => ?_)
  refine lv_astore_n (lv' := [(1, .ref h0), (0, .ref b)]) hx hb dL_law_7 rfl hl (by decide) rfl (fun ls hl => ?_)
  have hP : va_P (dC, dI) vwCl (cw cyI u C0) H := hP
  have hD : va_D (lA s) (cw cyI u C0) := hD
  refine va_new (ci := 9) (fs := [.int 0, .int 0, .int 0, .int 0, .int 0, .null, .null, .null, .null, .null, .null, .null, .null, .null, .null, .null, .null, .null, .int 0]) (C := RX7) (T := TX7) (N := 19) hx hb hts inlX7 tyX7 tyX7_ok hown (hts (.classLink RL 72 RX7) (by decide +kernel)) (hts (.instantiable RX7 19) (by decide +kernel)) (hts (.initialized RX7) (by decide +kernel)) hK hP hD hS hA rfl (fun j hj => by rcases (show j = 0 ∨ j = 1 ∨ j = 2 ∨ j = 3 ∨ j = 4 ∨ j = 5 ∨ j = 6 ∨ j = 7 ∨ j = 8 ∨ j = 9 ∨ j = 10 ∨ j = 11 ∨ j = 12 ∨ j = 13 ∨ j = 14 ∨ j = 15 ∨ j = 16 ∨ j = 17 ∨ j = 18 by omega) with rfl | rfl | rfl | rfl | rfl | rfl | rfl | rfl | rfl | rfl | rfl | rfl | rfl | rfl | rfl | rfl | rfl | rfl | rfl <;> rfl) (Nat.le_of_ble_eq_true rfl) (Nat.le_of_ble_eq_true rfl) dL_law_8 (fun h1 H hP hD hS => ?_)
  refine lv_dup hx hb dL_law_11 rfl ?_
  refine iCallI (As := []) (rest := [.ref h1]) (wr := cw cyI u C0) (wc := [(h1, .inr (9, [.int 0, .int 0, .int 0, .int 0, .int 0, .null, .null, .null, .null, .null, .null, .null, .null, .null, .null, .null, .null, .null, .int 0]))]) (tys' := [(cyI, .int), (cyZ, .boolean)]) 0 cx (c_X7_init l dC dI cyI cyZ h1) gL_law_X7_init rfl ⟨rfl, rfl⟩ (by decide +kernel) (by decide +kernel) (by decide +kernel) rfl (by decide +kernel) ⟨(Nat.le_of_ble_eq_true rfl), (Nat.le_of_ble_eq_true rfl)⟩ iX_t trivial (hK.sub [0, 3] rfl) hP hD hS hA [36] (List.range 36) rfl rfl rfl (by decide) (by decide) rfl hl.1 rfl (Nat.le_of_ble_eq_true rfl) dL_law_12 ⟨(Nat.le_of_ble_eq_true rfl), (Nat.le_of_ble_eq_true rfl)⟩ (fun v H locs hv hP hD hS => ?_)
  refine lv_astore_n (lv' := [(2, .ref h1), (1, .ref h0), (0, .ref b)]) hx hb dL_law_15 rfl hl (by decide) rfl (fun ls hl => ?_)
  refine lv_iconst (v := 1) hx hb dL_law_16 (by decide) ?_
  refine va_newa (atype := .long) (a0 := (1, .inr (.inl (fun _ => 0)))) (N' := 1) hx hb (hts (.arrayClass .long) (by decide +kernel)) rfl hK hP hD hS hA (fun _ => rfl) (by decide) (by decide) (Nat.le_of_ble_eq_true rfl) (Nat.le_of_ble_eq_true rfl) (Nat.le_of_ble_eq_true rfl) dL_law_17 (fun q cA H hK2 hP hD hS => ?_)
  obtain rfl : cyJ = cA := Option.some.inj ((va_nm_long (hK2.2 1 _ rfl).2).symm.trans (va_nm_long (hK2.2 4 _ rfl).2))
  refine lv_astore_n (lv' := [(3, .ref q), (2, .ref h1), (1, .ref h0), (0, .ref b)]) hx hb dL_law_19 rfl hl (by decide) rfl (fun ls hl => ?_)
  refine lv_iconst (v := nI 0) hx hb dL_law_20 (by decide) ?_
  refine lv_istore (lv' := [(4, .int (nI 0)), (3, .ref q), (2, .ref h1), (1, .ref h0), (0, .ref b)]) hx hb dL_law_21 hl (by decide) rfl (fun ls hl => ?_)
  have eo : (fun _ => (0 : Int64)) = oV (C0 18 0) := by
    funext j
    show (0 : Int64) = vp_updL (fun _ => 0) 0 (0 : Int32).toInt64 j
    unfold vp_updL
    split <;> rfl
  rw [eo] at hP hD
  obtain ⟨aC, haC⟩ : ∃ aC : Nat → Nat, aC = fun k => if k < 36 then u k else q := ⟨_, rfl⟩
  have hD2 : va_D (lA s) (lw cyI cyJ aC C0 ++ mw cyI cyZ v M0) := by
    rw [haC]
    exact hD.sub (List.range 36 ++ [50] ++ [36, 37, 38, 39, 40, 41, 42, 43, 44, 45, 46, 47, 48, 49]) (by decide) rfl
  have hPC : va_P (dC, dI) vwCl (lw cyI cyJ aC C0) H := by
    rw [haC]
    exact hP.sub (List.range 36 ++ [50]) rfl
  have hPM : va_P (dC, dI) vwCl (mw cyI cyZ v M0) H := hP.sub [36, 37, 38, 39, 40, 41, 42, 43, 44, 45, 46, 47, 48, 49] rfl
  have hDC : va_D (lA s) (lw cyI cyJ aC C0) := by
    rw [haC]
    exact hD.sub (List.range 36 ++ [50]) (by decide) rfl
  have hDM : va_D (lA s) (mw cyI cyZ v M0) := hD.sub [36, 37, 38, 39, 40, 41, 42, 43, 44, 45, 46, 47, 48, 49] (by decide) rfl
  obtain ⟨zC, gC⟩ := zI_of (lw_W cyI cyJ aC) hDC
  obtain ⟨zM, gM⟩ := zI_of (mw_W cyI cyZ v) hDM
  have hLC : LC (dC, dI) cyI cyZ cyJ cyB aC v s := ⟨zC, zM, zI_apart (lw_W cyI cyJ aC) (mw_W cyI cyZ v) hD2, gC, gM, hK, xL_start hts0 hgv⟩
  have e0 : aC 0 = h0 := by
    rw [haC]
    exact hu
  have e36 : aC 36 = q := by rw [haC]; rfl
  have hl9 : lv_has ls 7 [(0, .ref b), (1, .ref (aC 0)), (2, .ref (v 0)), (3, .ref (aC 36)), (4, .int (nI 0))] := by
    rw [e0, e36, hv]
    exact lv_sub hl [4, 3, 2, 1, 0] rfl
  exact law_loop hlf cx hr hlocks hX hbl hLC hL (L + 1) 0 (Nat.zero_le L) (by omega) C0 M0 H _ ls _ _ ⟨Rel_0, fun k _ => by show (0 : Int32) ∈ _; decide⟩ ⟨hPC, hPM⟩ hS hl9 (by omega) (by omega)
