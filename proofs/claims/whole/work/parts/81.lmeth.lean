theorem tE_build (S : zS) (x0 x1 : Int32) : t_X6_build S x0 x1 = none ∨ t_X6_build S x0 x1 = some xIO ∨ t_X6_build S x0 x1 = some xIA ∨ t_X6_build S x0 x1 = some xIS := by
  unfold t_X6_build
  rcases tE_cell x0 with h | h
  · rcases tE_range x1 1 6 with h2 | h2
    · rw [h, h2]
      split
      · rcases tE_cash S (f_X6_costOf x1) with h3 | h3
        · rw [h3]
          exact Or.inl rfl
        · rw [h3]
          exact Or.inr (Or.inr (Or.inr rfl))
      · exact Or.inr (Or.inr (Or.inr rfl))
    · rw [h, h2]
      exact Or.inr (Or.inr (Or.inl rfl))
  · rw [h]
    exact Or.inr (Or.inl rfl)
theorem tE_tear (S : zS) (x0 : Int32) : t_X6_tear S x0 = none ∨ t_X6_tear S x0 = some xIO ∨ t_X6_tear S x0 = some xIS := by
  unfold t_X6_tear
  rcases tE_cell x0 with h | h
  · rw [h]
    split
    · rcases tE_cash S 5 with h3 | h3
      · rw [h3]
        exact Or.inl rfl
      · rw [h3]
        exact Or.inr (Or.inr rfl)
    · exact Or.inr (Or.inr rfl)
  · rw [h]
    exact Or.inr (Or.inl rfl)
theorem tE_setTax (S : zS) (x0 x1 : Int32) : t_X6_setTax S x0 x1 = none ∨ t_X6_setTax S x0 x1 = some xIA := by
  unfold t_X6_setTax
  rcases tE_range x1 0 20 with h | h
  · rw [h]
    exact Or.inl rfl
  · rw [h]
    exact Or.inr rfl
theorem tE_pass (S : zS) (x0 : Int32) : t_X6_pass S x0 = none ∨ t_X6_pass S x0 = some xIA := by
  unfold t_X6_pass
  rcases tE_range x0 1 12 with h | h
  · rw [h]
    exact Or.inl rfl
  · rw [h]
    exact Or.inr rfl
theorem tE_borrow (S : zS) (x0 : Int32) : t_X6_borrow S x0 = none ∨ t_X6_borrow S x0 = some xIA ∨ t_X6_borrow S x0 = some xIS := by
  unfold t_X6_borrow
  rcases tE_range x0 1 1000 with h | h
  · rw [h]
    split
    · exact Or.inl rfl
    · exact Or.inr (Or.inr rfl)
  · rw [h]
    exact Or.inr (Or.inl rfl)
theorem tE_repay (S : zS) (x0 : Int32) : t_X6_repay S x0 = none ∨ t_X6_repay S x0 = some xIA ∨ t_X6_repay S x0 = some xIS := by
  unfold t_X6_repay
  rcases tE_range x0 1 5000 with h | h
  · rw [h]
    split
    · rcases tE_cash S x0 with h3 | h3
      · rw [h3]
        exact Or.inl rfl
      · rw [h3]
        exact Or.inr (Or.inr rfl)
    · exact Or.inr (Or.inr rfl)
  · rw [h]
    exact Or.inr (Or.inl rfl)
theorem tE_kind (S : zS) (x0 : Int32) : t_X6_kind S x0 = none ∨ t_X6_kind S x0 = some xIO := by
  unfold t_X6_kind
  rcases tE_cell x0 with h | h
  · rw [h]
    exact Or.inl rfl
  · rw [h]
    exact Or.inr rfl
theorem tE_level (S : zS) (x0 : Int32) : t_X6_level S x0 = none ∨ t_X6_level S x0 = some xIO := by
  unfold t_X6_level
  rcases tE_cell x0 with h | h
  · rw [h]
    exact Or.inl rfl
  · rw [h]
    exact Or.inr rfl
theorem tE_net (S : zS) (x0 : Int32) : t_X6_net S x0 = none ∨ t_X6_net S x0 = some xIO := by
  unfold t_X6_net
  rcases tE_cell x0 with h | h
  · rw [h]
    exact Or.inl rfl
  · rw [h]
    exact Or.inr rfl
theorem tE_isServed (S : zS) (x0 : Int32) : t_X6_isServed S x0 = none ∨ t_X6_isServed S x0 = some xIO := by
  unfold t_X6_isServed
  rcases tE_cell x0 with h | h
  · rw [h]
    exact Or.inl rfl
  · rw [h]
    exact Or.inr rfl
theorem tE_placed (S : zS) (x0 : Int32) : t_X6_placed S x0 = none ∨ t_X6_placed S x0 = some xIO := by
  unfold t_X6_placed
  rcases tE_cell x0 with h | h
  · rw [h]
    exact Or.inl rfl
  · rw [h]
    exact Or.inr rfl
theorem tE_traffic (S : zS) (x0 : Int32) : t_X6_traffic S x0 = none ∨ t_X6_traffic S x0 = some xIO := by
  unfold t_X6_traffic
  rcases tE_cell x0 with h | h
  · rw [h]
    exact Or.inl rfl
  · rw [h]
    exact Or.inr rfl
theorem tE_value (S : zS) (x0 : Int32) : t_X6_value S x0 = none ∨ t_X6_value S x0 = some xIO := by
  unfold t_X6_value
  rcases tE_cell x0 with h | h
  · rw [h]
    exact Or.inl rfl
  · rw [h]
    exact Or.inr rfl
theorem tE_powerLeft (S : zS) (x0 : Int32) : t_X6_powerLeft S x0 = none ∨ t_X6_powerLeft S x0 = some xIO := by
  unfold t_X6_powerLeft
  rw [ite_self]
  rcases tE_cell x0 with h | h
  · rw [h]
    exact Or.inl rfl
  · rw [h]
    exact Or.inr rfl
theorem tE_steps (S : zS) (x0 x1 : Int32) : t_X6_steps S x0 x1 = none ∨ t_X6_steps S x0 x1 = some xIO := by
  unfold t_X6_steps
  rcases tE_cell x0 with h | h
  · rcases tE_cell x1 with h2 | h2
    · rw [h, h2]
      exact Or.inl rfl
    · rw [h, h2]
      exact Or.inr rfl
  · rw [h]
    exact Or.inr rfl
theorem tE_going (S : zS) (x0 x1 : Int32) : t_X6_going S x0 x1 = none ∨ t_X6_going S x0 x1 = some xIO := by
  unfold t_X6_going
  rcases tE_cell x0 with h | h
  · rcases tE_cell x1 with h2 | h2
    · rw [h, h2]
      exact Or.inl rfl
    · rw [h, h2]
      exact Or.inr rfl
  · rw [h]
    exact Or.inr rfl
set_option maxHeartbeats 1000000 in
set_option maxRecDepth 100000 in
theorem c_L_build (l : Launch) (dC : Nat → ClassId) (dI : Nat → Nat → Nat) (cyI cyJ cyB : ClassId) (ad : Nat → Nat) (hI : zI ad 37) (hlf : l.stackTraces = false) (S : zS) (x0 x1 : Int32) : lMet l (dC, dI) cyI cyJ cyB ad yL_build wsL_build ({ frames := 8, cells := 4, slots := 24, locals := 161 } : Room) [.ref (ad 0), .int x0, .int x1, .ref (ad 36)] S 4 24 (lPost nB (t_X6_build S x0 x1) (f_X6_build S x0 x1) (g_X6_build S x0 x1) S) := by
  refine lStart (by decide) rfl (Nat.le_of_ble_eq_true rfl) ?_
  intro p e s m args below meth c ls cx hrt hlk hex hP hK hXs hl
  have hl : lv_has ls 5 [(0, .ref (ad 0)), (1, .int x0), (2, .int x1), (3, .ref (ad 36))] := hl
  have hS : va_S (zA ad 37 s.heap.size) s.heap s.heap [] := va_S.rf
  have hI6 : zI ad 36 := fun i j hi hj => hI i j (by omega) (by omega)
  refine lv_aload_n cx.1 cx.2.1 dL_build_0 rfl (lv_at hl 3 rfl) ?_
  refine lv_iconst (v := 0) cx.1 cx.2.1 dL_build_1 (by decide) ?_
  refine lv_aload_n cx.1 cx.2.1 dL_build_2 rfl (lv_at hl 0 rfl) ?_
  refine lv_iload_n cx.1 cx.2.1 dL_build_3 rfl (lv_at hl 1 rfl) ?_
  refine lv_iload_n cx.1 cx.2.1 dL_build_4 rfl (lv_at hl 2 rfl) ?_
  refine lCall (X := xT) (tys' := [(cyI, .int)]) (As := [.int x0, .int x1]) (rest := [.int 0, .ref (ad 36)]) 2 cx (c_X6_build l dC dI cyI ad hI6 hlf S x0 x1) gL_build_X6_build rfl ⟨rfl, rfl⟩ (by decide +kernel) ⟨(Nat.le_of_ble_eq_true rfl), (Nat.le_of_ble_eq_true rfl)⟩ (xT_X ad 36) (fun _ _ h => h.1.1) hI hXs (hK.sub (tys' := [(cyI, .int)]) [0] rfl) hP hS rfl hl.1 rfl (Nat.le_of_ble_eq_true rfl) dL_build_5 ⟨(Nat.le_of_ble_eq_true rfl), (Nat.le_of_ble_eq_true rfl)⟩ (fun E ce q9 H1 locs1 hE hP hS hce hcv hcl => ?_) (fun r T H1 locs1 hp hP hS => ?_)
  · rcases tE_build S x0 x1 with h9 | h9 | h9 | h9
    · rw [h9] at hE; cases hE
    · rw [h9] at hE
      obtain rfl : xIO = E := Option.some.inj hE
      refine vx_catch (own := RL) (name := xIO) (E := xIO) (hown := cx.2.2.2.1) [] (⟨0, 10, 13, 13⟩ : ExceptionTableEntry) [(⟨0, 10, 17, 15⟩ : ExceptionTableEntry), (⟨0, 10, 21, 17⟩ : ExceptionTableEntry)] (by rw [hex]; rfl) (fun z hz => by cases hz) rfl (by decide) (cx.2.2.2.2 (Cond.classLink RL 13 "java/lang/IndexOutOfBoundsException") (by decide +kernel)) (va_Nw.use rfl (hXs.1.1.2.2.2.2.2 xIO (by decide))) hce hcv hcl ?_
      refine lv_astore (lv' := [(4, .ref q9), (0, .ref (ad 0)), (1, .int x0), (2, .int x1), (3, .ref (ad 36))]) cx.1 cx.2.1 dL_build_13 hl (by decide) rfl (fun ls hl => ?_)
      refine lv_iconst (v := 1) cx.1 cx.2.1 dL_build_15 (by decide) ?_
      exact lRet cx hrt hlk rfl hS hP (Or.inr ⟨(xIO, 1), by decide, h9, rfl, rfl⟩) (Nat.le_of_ble_eq_true rfl) (Nat.le_of_ble_eq_true rfl) dL_build_16
    · rw [h9] at hE
      obtain rfl : xIA = E := Option.some.inj hE
      refine vx_catch (own := RL) (name := xIA) (E := xIA) (hown := cx.2.2.2.1) [(⟨0, 10, 13, 13⟩ : ExceptionTableEntry)] (⟨0, 10, 17, 15⟩ : ExceptionTableEntry) [(⟨0, 10, 21, 17⟩ : ExceptionTableEntry)] (by rw [hex]; rfl) (fun z hz => by
        simp only [List.mem_cons, List.not_mem_nil, or_false] at hz
        rcases hz with rfl
        · exact Or.inr ⟨by decide, xIO, cx.2.2.2.2 (Cond.classLink RL 13 "java/lang/IndexOutOfBoundsException") (by decide +kernel), hXs.2.1⟩) rfl (by decide) (cx.2.2.2.2 (Cond.classLink RL 15 "java/lang/IllegalArgumentException") (by decide +kernel)) (va_Nw.use rfl (hXs.1.1.2.2.2.2.2 xIA (by decide))) hce hcv hcl ?_
      refine lv_astore (lv' := [(4, .ref q9), (0, .ref (ad 0)), (1, .int x0), (2, .int x1), (3, .ref (ad 36))]) cx.1 cx.2.1 dL_build_17 hl (by decide) rfl (fun ls hl => ?_)
      refine lv_iconst (v := 2) cx.1 cx.2.1 dL_build_19 (by decide) ?_
      exact lRet cx hrt hlk rfl hS hP (Or.inr ⟨(xIA, 2), by decide, h9, rfl, rfl⟩) (Nat.le_of_ble_eq_true rfl) (Nat.le_of_ble_eq_true rfl) dL_build_20
    · rw [h9] at hE
      obtain rfl : xIS = E := Option.some.inj hE
      refine vx_catch (own := RL) (name := xIS) (E := xIS) (hown := cx.2.2.2.1) [(⟨0, 10, 13, 13⟩ : ExceptionTableEntry), (⟨0, 10, 17, 15⟩ : ExceptionTableEntry)] (⟨0, 10, 21, 17⟩ : ExceptionTableEntry) [] (by rw [hex]; rfl) (fun z hz => by
        simp only [List.mem_cons, List.not_mem_nil, or_false] at hz
        rcases hz with rfl | rfl
        · exact Or.inr ⟨by decide, xIO, cx.2.2.2.2 (Cond.classLink RL 13 "java/lang/IndexOutOfBoundsException") (by decide +kernel), hXs.2.2.1⟩
        · exact Or.inr ⟨by decide, xIA, cx.2.2.2.2 (Cond.classLink RL 15 "java/lang/IllegalArgumentException") (by decide +kernel), hXs.2.2.2⟩) rfl (by decide) (cx.2.2.2.2 (Cond.classLink RL 17 "java/lang/IllegalStateException") (by decide +kernel)) (va_Nw.use rfl (hXs.1.1.2.2.2.2.2 xIS (by decide))) hce hcv hcl ?_
      refine lv_astore (lv' := [(4, .ref q9), (0, .ref (ad 0)), (1, .int x0), (2, .int x1), (3, .ref (ad 36))]) cx.1 cx.2.1 dL_build_21 hl (by decide) rfl (fun ls hl => ?_)
      refine lv_iconst (v := 3) cx.1 cx.2.1 dL_build_23 (by decide) ?_
      exact lRet cx hrt hlk rfl hS hP (Or.inr ⟨(xIS, 3), by decide, h9, rfl, rfl⟩) (Nat.le_of_ble_eq_true rfl) (Nat.le_of_ble_eq_true rfl) dL_build_24
  · obtain ⟨h7, h8, h9⟩ := hp
    subst h7
    rw [h8] at hP
    refine lv_i2l (v := (f_X6_build S x0 x1).toInt64) cx.1 cx.2.1 dL_build_8 rfl ?_
    refine lStore (v := (f_X6_build S x0 x1)) cx hI hK hP hS dL_build_9 (fun H locs hP hS => ?_)
    refine lv_goto (tgt := 25) cx.1 cx.2.1 dL_build_10 (by decide) ?_
    refine lv_iconst (v := 0) cx.1 cx.2.1 dL_build_25 (by decide) ?_
    exact lRet cx hrt hlk rfl hS hP (Or.inl ⟨h9, rfl, rfl⟩) (Nat.le_of_ble_eq_true rfl) (Nat.le_of_ble_eq_true rfl) dL_build_26
set_option maxHeartbeats 1000000 in
set_option maxRecDepth 100000 in
theorem c_L_tear (l : Launch) (dC : Nat → ClassId) (dI : Nat → Nat → Nat) (cyI cyJ cyB : ClassId) (ad : Nat → Nat) (hI : zI ad 37) (hlf : l.stackTraces = false) (S : zS) (x0 : Int32) : lMet l (dC, dI) cyI cyJ cyB ad yL_tear wsL_tear ({ frames := 8, cells := 4, slots := 24, locals := 161 } : Room) [.ref (ad 0), .int x0, .ref (ad 36)] S 4 24 (lPost nT (t_X6_tear S x0) (f_X6_tear S x0) (g_X6_tear S x0) S) := by
  refine lStart (by decide) rfl (Nat.le_of_ble_eq_true rfl) ?_
  intro p e s m args below meth c ls cx hrt hlk hex hP hK hXs hl
  have hl : lv_has ls 4 [(0, .ref (ad 0)), (1, .int x0), (2, .ref (ad 36))] := hl
  have hS : va_S (zA ad 37 s.heap.size) s.heap s.heap [] := va_S.rf
  have hI6 : zI ad 36 := fun i j hi hj => hI i j (by omega) (by omega)
  refine lv_aload_n cx.1 cx.2.1 dL_tear_0 rfl (lv_at hl 2 rfl) ?_
  refine lv_iconst (v := 0) cx.1 cx.2.1 dL_tear_1 (by decide) ?_
  refine lv_aload_n cx.1 cx.2.1 dL_tear_2 rfl (lv_at hl 0 rfl) ?_
  refine lv_iload_n cx.1 cx.2.1 dL_tear_3 rfl (lv_at hl 1 rfl) ?_
  refine lCall (X := xT) (tys' := [(cyI, .int)]) (As := [.int x0]) (rest := [.int 0, .ref (ad 36)]) 1 cx (c_X6_tear l dC dI cyI ad hI6 hlf S x0) gL_tear_X6_tear rfl ⟨rfl, rfl⟩ (by decide +kernel) ⟨(Nat.le_of_ble_eq_true rfl), (Nat.le_of_ble_eq_true rfl)⟩ (xT_X ad 36) (fun _ _ h => h.1.1) hI hXs (hK.sub (tys' := [(cyI, .int)]) [0] rfl) hP hS rfl hl.1 rfl (Nat.le_of_ble_eq_true rfl) dL_tear_4 ⟨(Nat.le_of_ble_eq_true rfl), (Nat.le_of_ble_eq_true rfl)⟩ (fun E ce q9 H1 locs1 hE hP hS hce hcv hcl => ?_) (fun r T H1 locs1 hp hP hS => ?_)
  · rcases tE_tear S x0 with h9 | h9 | h9
    · rw [h9] at hE; cases hE
    · rw [h9] at hE
      obtain rfl : xIO = E := Option.some.inj hE
      refine vx_catch (own := RL) (name := xIO) (E := xIO) (hown := cx.2.2.2.1) [] (⟨0, 9, 12, 13⟩ : ExceptionTableEntry) [(⟨0, 9, 15, 17⟩ : ExceptionTableEntry)] (by rw [hex]; rfl) (fun z hz => by cases hz) rfl (by decide) (cx.2.2.2.2 (Cond.classLink RL 13 "java/lang/IndexOutOfBoundsException") (by decide +kernel)) (va_Nw.use rfl (hXs.1.1.2.2.2.2.2 xIO (by decide))) hce hcv hcl ?_
      refine lv_astore_n (lv' := [(3, .ref q9), (0, .ref (ad 0)), (1, .int x0), (2, .ref (ad 36))]) cx.1 cx.2.1 dL_tear_12 rfl hl (by decide) rfl (fun ls hl => ?_)
      refine lv_iconst (v := 1) cx.1 cx.2.1 dL_tear_13 (by decide) ?_
      exact lRet cx hrt hlk rfl hS hP (Or.inr ⟨(xIO, 1), by decide, h9, rfl, rfl⟩) (Nat.le_of_ble_eq_true rfl) (Nat.le_of_ble_eq_true rfl) dL_tear_14
    · rw [h9] at hE
      obtain rfl : xIS = E := Option.some.inj hE
      refine vx_catch (own := RL) (name := xIS) (E := xIS) (hown := cx.2.2.2.1) [(⟨0, 9, 12, 13⟩ : ExceptionTableEntry)] (⟨0, 9, 15, 17⟩ : ExceptionTableEntry) [] (by rw [hex]; rfl) (fun z hz => by
        simp only [List.mem_cons, List.not_mem_nil, or_false] at hz
        rcases hz with rfl
        · exact Or.inr ⟨by decide, xIO, cx.2.2.2.2 (Cond.classLink RL 13 "java/lang/IndexOutOfBoundsException") (by decide +kernel), hXs.2.2.1⟩) rfl (by decide) (cx.2.2.2.2 (Cond.classLink RL 17 "java/lang/IllegalStateException") (by decide +kernel)) (va_Nw.use rfl (hXs.1.1.2.2.2.2.2 xIS (by decide))) hce hcv hcl ?_
      refine lv_astore_n (lv' := [(3, .ref q9), (0, .ref (ad 0)), (1, .int x0), (2, .ref (ad 36))]) cx.1 cx.2.1 dL_tear_15 rfl hl (by decide) rfl (fun ls hl => ?_)
      refine lv_iconst (v := 2) cx.1 cx.2.1 dL_tear_16 (by decide) ?_
      exact lRet cx hrt hlk rfl hS hP (Or.inr ⟨(xIS, 2), by decide, h9, rfl, rfl⟩) (Nat.le_of_ble_eq_true rfl) (Nat.le_of_ble_eq_true rfl) dL_tear_17
  · obtain ⟨h7, h8, h9⟩ := hp
    subst h7
    rw [h8] at hP
    refine lv_i2l (v := (f_X6_tear S x0).toInt64) cx.1 cx.2.1 dL_tear_7 rfl ?_
    refine lStore (v := (f_X6_tear S x0)) cx hI hK hP hS dL_tear_8 (fun H locs hP hS => ?_)
    refine lv_goto (tgt := 18) cx.1 cx.2.1 dL_tear_9 (by decide) ?_
    refine lv_iconst (v := 0) cx.1 cx.2.1 dL_tear_18 (by decide) ?_
    exact lRet cx hrt hlk rfl hS hP (Or.inl ⟨h9, rfl, rfl⟩) (Nat.le_of_ble_eq_true rfl) (Nat.le_of_ble_eq_true rfl) dL_tear_19
set_option maxHeartbeats 1000000 in
set_option maxRecDepth 100000 in
theorem c_L_setTax (l : Launch) (dC : Nat → ClassId) (dI : Nat → Nat → Nat) (cyI cyJ cyB : ClassId) (ad : Nat → Nat) (hI : zI ad 37) (hlf : l.stackTraces = false) (S : zS) (x0 x1 : Int32) : lMet l (dC, dI) cyI cyJ cyB ad yL_setTax wsL_setTax ({ frames := 8, cells := 4, slots := 24, locals := 134 } : Room) [.ref (ad 0), .int x0, .int x1, .ref (ad 36)] S 4 24 (lPost nA (t_X6_setTax S x0 x1) (f_X6_setTax S x0 x1) (g_X6_setTax S x0 x1) S) := by
  refine lStart (by decide) rfl (Nat.le_of_ble_eq_true rfl) ?_
  intro p e s m args below meth c ls cx hrt hlk hex hP hK hXs hl
  have hl : lv_has ls 5 [(0, .ref (ad 0)), (1, .int x0), (2, .int x1), (3, .ref (ad 36))] := hl
  have hS : va_S (zA ad 37 s.heap.size) s.heap s.heap [] := va_S.rf
  have hI6 : zI ad 36 := fun i j hi hj => hI i j (by omega) (by omega)
  refine lv_aload_n cx.1 cx.2.1 dL_setTax_0 rfl (lv_at hl 3 rfl) ?_
  refine lv_iconst (v := 0) cx.1 cx.2.1 dL_setTax_1 (by decide) ?_
  refine lv_aload_n cx.1 cx.2.1 dL_setTax_2 rfl (lv_at hl 0 rfl) ?_
  refine lv_iload_n cx.1 cx.2.1 dL_setTax_3 rfl (lv_at hl 1 rfl) ?_
  refine lv_iload_n cx.1 cx.2.1 dL_setTax_4 rfl (lv_at hl 2 rfl) ?_
  refine lCall (X := xT) (tys' := [(cyI, .int)]) (As := [.int x0, .int x1]) (rest := [.int 0, .ref (ad 36)]) 2 cx (c_X6_setTax l dC dI cyI ad hI6 hlf S x0 x1) gL_setTax_X6_setTax rfl ⟨rfl, rfl⟩ (by decide +kernel) ⟨(Nat.le_of_ble_eq_true rfl), (Nat.le_of_ble_eq_true rfl)⟩ (xT_X ad 36) (fun _ _ h => h.1.1) hI hXs (hK.sub (tys' := [(cyI, .int)]) [0] rfl) hP hS rfl hl.1 rfl (Nat.le_of_ble_eq_true rfl) dL_setTax_5 ⟨(Nat.le_of_ble_eq_true rfl), (Nat.le_of_ble_eq_true rfl)⟩ (fun E ce q9 H1 locs1 hE hP hS hce hcv hcl => ?_) (fun r T H1 locs1 hp hP hS => ?_)
  · rcases tE_setTax S x0 x1 with h9 | h9
    · rw [h9] at hE; cases hE
    · rw [h9] at hE
      obtain rfl : xIA = E := Option.some.inj hE
      refine vx_catch (own := RL) (name := xIA) (E := xIA) (hown := cx.2.2.2.1) [] (⟨0, 10, 13, 15⟩ : ExceptionTableEntry) [] (by rw [hex]; rfl) (fun z hz => by cases hz) rfl (by decide) (cx.2.2.2.2 (Cond.classLink RL 15 "java/lang/IllegalArgumentException") (by decide +kernel)) (va_Nw.use rfl (hXs.1.1.2.2.2.2.2 xIA (by decide))) hce hcv hcl ?_
      refine lv_astore (lv' := [(4, .ref q9), (0, .ref (ad 0)), (1, .int x0), (2, .int x1), (3, .ref (ad 36))]) cx.1 cx.2.1 dL_setTax_13 hl (by decide) rfl (fun ls hl => ?_)
      refine lv_iconst (v := 1) cx.1 cx.2.1 dL_setTax_15 (by decide) ?_
      exact lRet cx hrt hlk rfl hS hP (Or.inr ⟨(xIA, 1), by decide, h9, rfl, rfl⟩) (Nat.le_of_ble_eq_true rfl) (Nat.le_of_ble_eq_true rfl) dL_setTax_16
  · obtain ⟨h7, h8, h9⟩ := hp
    subst h7
    rw [h8] at hP
    refine lv_i2l (v := (f_X6_setTax S x0 x1).toInt64) cx.1 cx.2.1 dL_setTax_8 rfl ?_
    refine lStore (v := (f_X6_setTax S x0 x1)) cx hI hK hP hS dL_setTax_9 (fun H locs hP hS => ?_)
    refine lv_goto (tgt := 17) cx.1 cx.2.1 dL_setTax_10 (by decide) ?_
    refine lv_iconst (v := 0) cx.1 cx.2.1 dL_setTax_17 (by decide) ?_
    exact lRet cx hrt hlk rfl hS hP (Or.inl ⟨h9, rfl, rfl⟩) (Nat.le_of_ble_eq_true rfl) (Nat.le_of_ble_eq_true rfl) dL_setTax_18
set_option maxHeartbeats 1000000 in
set_option maxRecDepth 100000 in
theorem c_L_borrow (l : Launch) (dC : Nat → ClassId) (dI : Nat → Nat → Nat) (cyI cyJ cyB : ClassId) (ad : Nat → Nat) (hI : zI ad 37) (hlf : l.stackTraces = false) (S : zS) (x0 : Int32) : lMet l (dC, dI) cyI cyJ cyB ad yL_borrow wsL_borrow ({ frames := 8, cells := 4, slots := 24, locals := 133 } : Room) [.ref (ad 0), .int x0, .ref (ad 36)] S 4 24 (lPost nG (t_X6_borrow S x0) (f_X6_borrow S x0) (g_X6_borrow S x0) S) := by
  refine lStart (by decide) rfl (Nat.le_of_ble_eq_true rfl) ?_
  intro p e s m args below meth c ls cx hrt hlk hex hP hK hXs hl
  have hl : lv_has ls 4 [(0, .ref (ad 0)), (1, .int x0), (2, .ref (ad 36))] := hl
  have hS : va_S (zA ad 37 s.heap.size) s.heap s.heap [] := va_S.rf
  have hI6 : zI ad 36 := fun i j hi hj => hI i j (by omega) (by omega)
  refine lv_aload_n cx.1 cx.2.1 dL_borrow_0 rfl (lv_at hl 2 rfl) ?_
  refine lv_iconst (v := 0) cx.1 cx.2.1 dL_borrow_1 (by decide) ?_
  refine lv_aload_n cx.1 cx.2.1 dL_borrow_2 rfl (lv_at hl 0 rfl) ?_
  refine lv_iload_n cx.1 cx.2.1 dL_borrow_3 rfl (lv_at hl 1 rfl) ?_
  refine lCall (X := xT) (tys' := [(cyI, .int)]) (As := [.int x0]) (rest := [.int 0, .ref (ad 36)]) 1 cx (c_X6_borrow l dC dI cyI ad hI6 hlf S x0) gL_borrow_X6_borrow rfl ⟨rfl, rfl⟩ (by decide +kernel) ⟨(Nat.le_of_ble_eq_true rfl), (Nat.le_of_ble_eq_true rfl)⟩ (xT_X ad 36) (fun _ _ h => h.1.1) hI hXs (hK.sub (tys' := [(cyI, .int)]) [0] rfl) hP hS rfl hl.1 rfl (Nat.le_of_ble_eq_true rfl) dL_borrow_4 ⟨(Nat.le_of_ble_eq_true rfl), (Nat.le_of_ble_eq_true rfl)⟩ (fun E ce q9 H1 locs1 hE hP hS hce hcv hcl => ?_) (fun r T H1 locs1 hp hP hS => ?_)
  · rcases tE_borrow S x0 with h9 | h9 | h9
    · rw [h9] at hE; cases hE
    · rw [h9] at hE
      obtain rfl : xIA = E := Option.some.inj hE
      refine vx_catch (own := RL) (name := xIA) (E := xIA) (hown := cx.2.2.2.1) [] (⟨0, 9, 12, 15⟩ : ExceptionTableEntry) [(⟨0, 9, 15, 17⟩ : ExceptionTableEntry)] (by rw [hex]; rfl) (fun z hz => by cases hz) rfl (by decide) (cx.2.2.2.2 (Cond.classLink RL 15 "java/lang/IllegalArgumentException") (by decide +kernel)) (va_Nw.use rfl (hXs.1.1.2.2.2.2.2 xIA (by decide))) hce hcv hcl ?_
      refine lv_astore_n (lv' := [(3, .ref q9), (0, .ref (ad 0)), (1, .int x0), (2, .ref (ad 36))]) cx.1 cx.2.1 dL_borrow_12 rfl hl (by decide) rfl (fun ls hl => ?_)
      refine lv_iconst (v := 1) cx.1 cx.2.1 dL_borrow_13 (by decide) ?_
      exact lRet cx hrt hlk rfl hS hP (Or.inr ⟨(xIA, 1), by decide, h9, rfl, rfl⟩) (Nat.le_of_ble_eq_true rfl) (Nat.le_of_ble_eq_true rfl) dL_borrow_14
    · rw [h9] at hE
      obtain rfl : xIS = E := Option.some.inj hE
      refine vx_catch (own := RL) (name := xIS) (E := xIS) (hown := cx.2.2.2.1) [(⟨0, 9, 12, 15⟩ : ExceptionTableEntry)] (⟨0, 9, 15, 17⟩ : ExceptionTableEntry) [] (by rw [hex]; rfl) (fun z hz => by
        simp only [List.mem_cons, List.not_mem_nil, or_false] at hz
        rcases hz with rfl
        · exact Or.inr ⟨by decide, xIA, cx.2.2.2.2 (Cond.classLink RL 15 "java/lang/IllegalArgumentException") (by decide +kernel), hXs.2.2.2⟩) rfl (by decide) (cx.2.2.2.2 (Cond.classLink RL 17 "java/lang/IllegalStateException") (by decide +kernel)) (va_Nw.use rfl (hXs.1.1.2.2.2.2.2 xIS (by decide))) hce hcv hcl ?_
      refine lv_astore_n (lv' := [(3, .ref q9), (0, .ref (ad 0)), (1, .int x0), (2, .ref (ad 36))]) cx.1 cx.2.1 dL_borrow_15 rfl hl (by decide) rfl (fun ls hl => ?_)
      refine lv_iconst (v := 2) cx.1 cx.2.1 dL_borrow_16 (by decide) ?_
      exact lRet cx hrt hlk rfl hS hP (Or.inr ⟨(xIS, 2), by decide, h9, rfl, rfl⟩) (Nat.le_of_ble_eq_true rfl) (Nat.le_of_ble_eq_true rfl) dL_borrow_17
  · obtain ⟨h7, h8, h9⟩ := hp
    subst h7
    rw [h8] at hP
    refine lv_i2l (v := (f_X6_borrow S x0).toInt64) cx.1 cx.2.1 dL_borrow_7 rfl ?_
    refine lStore (v := (f_X6_borrow S x0)) cx hI hK hP hS dL_borrow_8 (fun H locs hP hS => ?_)
    refine lv_goto (tgt := 18) cx.1 cx.2.1 dL_borrow_9 (by decide) ?_
    refine lv_iconst (v := 0) cx.1 cx.2.1 dL_borrow_18 (by decide) ?_
    exact lRet cx hrt hlk rfl hS hP (Or.inl ⟨h9, rfl, rfl⟩) (Nat.le_of_ble_eq_true rfl) (Nat.le_of_ble_eq_true rfl) dL_borrow_19
set_option maxHeartbeats 1000000 in
set_option maxRecDepth 100000 in
theorem c_L_repay (l : Launch) (dC : Nat → ClassId) (dI : Nat → Nat → Nat) (cyI cyJ cyB : ClassId) (ad : Nat → Nat) (hI : zI ad 37) (hlf : l.stackTraces = false) (S : zS) (x0 : Int32) : lMet l (dC, dI) cyI cyJ cyB ad yL_repay wsL_repay ({ frames := 8, cells := 4, slots := 24, locals := 133 } : Room) [.ref (ad 0), .int x0, .ref (ad 36)] S 4 24 (lPost nG (t_X6_repay S x0) (f_X6_repay S x0) (g_X6_repay S x0) S) := by
  refine lStart (by decide) rfl (Nat.le_of_ble_eq_true rfl) ?_
  intro p e s m args below meth c ls cx hrt hlk hex hP hK hXs hl
  have hl : lv_has ls 4 [(0, .ref (ad 0)), (1, .int x0), (2, .ref (ad 36))] := hl
  have hS : va_S (zA ad 37 s.heap.size) s.heap s.heap [] := va_S.rf
  have hI6 : zI ad 36 := fun i j hi hj => hI i j (by omega) (by omega)
  refine lv_aload_n cx.1 cx.2.1 dL_repay_0 rfl (lv_at hl 2 rfl) ?_
  refine lv_iconst (v := 0) cx.1 cx.2.1 dL_repay_1 (by decide) ?_
  refine lv_aload_n cx.1 cx.2.1 dL_repay_2 rfl (lv_at hl 0 rfl) ?_
  refine lv_iload_n cx.1 cx.2.1 dL_repay_3 rfl (lv_at hl 1 rfl) ?_
  refine lCall (X := xT) (tys' := [(cyI, .int)]) (As := [.int x0]) (rest := [.int 0, .ref (ad 36)]) 1 cx (c_X6_repay l dC dI cyI ad hI6 hlf S x0) gL_repay_X6_repay rfl ⟨rfl, rfl⟩ (by decide +kernel) ⟨(Nat.le_of_ble_eq_true rfl), (Nat.le_of_ble_eq_true rfl)⟩ (xT_X ad 36) (fun _ _ h => h.1.1) hI hXs (hK.sub (tys' := [(cyI, .int)]) [0] rfl) hP hS rfl hl.1 rfl (Nat.le_of_ble_eq_true rfl) dL_repay_4 ⟨(Nat.le_of_ble_eq_true rfl), (Nat.le_of_ble_eq_true rfl)⟩ (fun E ce q9 H1 locs1 hE hP hS hce hcv hcl => ?_) (fun r T H1 locs1 hp hP hS => ?_)
  · rcases tE_repay S x0 with h9 | h9 | h9
    · rw [h9] at hE; cases hE
    · rw [h9] at hE
      obtain rfl : xIA = E := Option.some.inj hE
      refine vx_catch (own := RL) (name := xIA) (E := xIA) (hown := cx.2.2.2.1) [] (⟨0, 9, 12, 15⟩ : ExceptionTableEntry) [(⟨0, 9, 15, 17⟩ : ExceptionTableEntry)] (by rw [hex]; rfl) (fun z hz => by cases hz) rfl (by decide) (cx.2.2.2.2 (Cond.classLink RL 15 "java/lang/IllegalArgumentException") (by decide +kernel)) (va_Nw.use rfl (hXs.1.1.2.2.2.2.2 xIA (by decide))) hce hcv hcl ?_
      refine lv_astore_n (lv' := [(3, .ref q9), (0, .ref (ad 0)), (1, .int x0), (2, .ref (ad 36))]) cx.1 cx.2.1 dL_repay_12 rfl hl (by decide) rfl (fun ls hl => ?_)
      refine lv_iconst (v := 1) cx.1 cx.2.1 dL_repay_13 (by decide) ?_
      exact lRet cx hrt hlk rfl hS hP (Or.inr ⟨(xIA, 1), by decide, h9, rfl, rfl⟩) (Nat.le_of_ble_eq_true rfl) (Nat.le_of_ble_eq_true rfl) dL_repay_14
    · rw [h9] at hE
      obtain rfl : xIS = E := Option.some.inj hE
      refine vx_catch (own := RL) (name := xIS) (E := xIS) (hown := cx.2.2.2.1) [(⟨0, 9, 12, 15⟩ : ExceptionTableEntry)] (⟨0, 9, 15, 17⟩ : ExceptionTableEntry) [] (by rw [hex]; rfl) (fun z hz => by
        simp only [List.mem_cons, List.not_mem_nil, or_false] at hz
        rcases hz with rfl
        · exact Or.inr ⟨by decide, xIA, cx.2.2.2.2 (Cond.classLink RL 15 "java/lang/IllegalArgumentException") (by decide +kernel), hXs.2.2.2⟩) rfl (by decide) (cx.2.2.2.2 (Cond.classLink RL 17 "java/lang/IllegalStateException") (by decide +kernel)) (va_Nw.use rfl (hXs.1.1.2.2.2.2.2 xIS (by decide))) hce hcv hcl ?_
      refine lv_astore_n (lv' := [(3, .ref q9), (0, .ref (ad 0)), (1, .int x0), (2, .ref (ad 36))]) cx.1 cx.2.1 dL_repay_15 rfl hl (by decide) rfl (fun ls hl => ?_)
      refine lv_iconst (v := 2) cx.1 cx.2.1 dL_repay_16 (by decide) ?_
      exact lRet cx hrt hlk rfl hS hP (Or.inr ⟨(xIS, 2), by decide, h9, rfl, rfl⟩) (Nat.le_of_ble_eq_true rfl) (Nat.le_of_ble_eq_true rfl) dL_repay_17
  · obtain ⟨h7, h8, h9⟩ := hp
    subst h7
    rw [h8] at hP
    refine lv_i2l (v := (f_X6_repay S x0).toInt64) cx.1 cx.2.1 dL_repay_7 rfl ?_
    refine lStore (v := (f_X6_repay S x0)) cx hI hK hP hS dL_repay_8 (fun H locs hP hS => ?_)
    refine lv_goto (tgt := 18) cx.1 cx.2.1 dL_repay_9 (by decide) ?_
    refine lv_iconst (v := 0) cx.1 cx.2.1 dL_repay_18 (by decide) ?_
    exact lRet cx hrt hlk rfl hS hP (Or.inl ⟨h9, rfl, rfl⟩) (Nat.le_of_ble_eq_true rfl) (Nat.le_of_ble_eq_true rfl) dL_repay_19
set_option maxHeartbeats 1000000 in
set_option maxRecDepth 100000 in
theorem c_L_pass (l : Launch) (dC : Nat → ClassId) (dI : Nat → Nat → Nat) (cyI cyJ cyB : ClassId) (ad : Nat → Nat) (hI : zI ad 37) (hlf : l.stackTraces = false) (S : zS) (x0 : Int32) : lMet l (dC, dI) cyI cyJ cyB ad yL_pass wsL_pass ({ frames := 8, cells := 4, slots := 24, locals := 179 } : Room) [.ref (ad 0), .int x0, .ref (ad 36)] S 4 24 (lPost nA (t_X6_pass S x0) (f_X6_pass S x0) (g_X6_pass S x0) S) := by
  refine lStart (by decide) rfl (Nat.le_of_ble_eq_true rfl) ?_
  intro p e s m args below meth c ls cx hrt hlk hex hP hK hXs hl
  have hl : lv_has ls 4 [(0, .ref (ad 0)), (1, .int x0), (2, .ref (ad 36))] := hl
  have hS : va_S (zA ad 37 s.heap.size) s.heap s.heap [] := va_S.rf
  have hI6 : zI ad 36 := fun i j hi hj => hI i j (by omega) (by omega)
  refine lv_aload_n cx.1 cx.2.1 dL_pass_0 rfl (lv_at hl 2 rfl) ?_
  refine lv_iconst (v := 0) cx.1 cx.2.1 dL_pass_1 (by decide) ?_
  refine lv_aload_n cx.1 cx.2.1 dL_pass_2 rfl (lv_at hl 0 rfl) ?_
  refine lv_iload_n cx.1 cx.2.1 dL_pass_3 rfl (lv_at hl 1 rfl) ?_
  refine lCall (X := xT) (tys' := [(cyI, .int)]) (As := [.int x0]) (rest := [.int 0, .ref (ad 36)]) 1 cx (c_X6_pass l dC dI cyI ad hI6 hlf S x0) gL_pass_X6_pass rfl ⟨rfl, rfl⟩ (by decide +kernel) ⟨(Nat.le_of_ble_eq_true rfl), (Nat.le_of_ble_eq_true rfl)⟩ (xT_X ad 36) (fun _ _ h => h.1.1) hI hXs (hK.sub (tys' := [(cyI, .int)]) [0] rfl) hP hS rfl hl.1 rfl (Nat.le_of_ble_eq_true rfl) dL_pass_4 ⟨(Nat.le_of_ble_eq_true rfl), (Nat.le_of_ble_eq_true rfl)⟩ (fun E ce q9 H1 locs1 hE hP hS hce hcv hcl => ?_) (fun r T H1 locs1 hp hP hS => ?_)
  · rcases tE_pass S x0 with h9 | h9
    · rw [h9] at hE; cases hE
    · rw [h9] at hE
      obtain rfl : xIA = E := Option.some.inj hE
      refine vx_catch (own := RL) (name := xIA) (E := xIA) (hown := cx.2.2.2.1) [] (⟨0, 9, 12, 15⟩ : ExceptionTableEntry) [] (by rw [hex]; rfl) (fun z hz => by cases hz) rfl (by decide) (cx.2.2.2.2 (Cond.classLink RL 15 "java/lang/IllegalArgumentException") (by decide +kernel)) (va_Nw.use rfl (hXs.1.1.2.2.2.2.2 xIA (by decide))) hce hcv hcl ?_
      refine lv_astore_n (lv' := [(3, .ref q9), (0, .ref (ad 0)), (1, .int x0), (2, .ref (ad 36))]) cx.1 cx.2.1 dL_pass_12 rfl hl (by decide) rfl (fun ls hl => ?_)
      refine lv_iconst (v := 1) cx.1 cx.2.1 dL_pass_13 (by decide) ?_
      exact lRet cx hrt hlk rfl hS hP (Or.inr ⟨(xIA, 1), by decide, h9, rfl, rfl⟩) (Nat.le_of_ble_eq_true rfl) (Nat.le_of_ble_eq_true rfl) dL_pass_14
  · obtain ⟨h7, h8, h9⟩ := hp
    subst h7
    rw [h8] at hP
    refine lv_i2l (v := (f_X6_pass S x0).toInt64) cx.1 cx.2.1 dL_pass_7 rfl ?_
    refine lStore (v := (f_X6_pass S x0)) cx hI hK hP hS dL_pass_8 (fun H locs hP hS => ?_)
    refine lv_goto (tgt := 15) cx.1 cx.2.1 dL_pass_9 (by decide) ?_
    refine lv_iconst (v := 0) cx.1 cx.2.1 dL_pass_15 (by decide) ?_
    exact lRet cx hrt hlk rfl hS hP (Or.inl ⟨h9, rfl, rfl⟩) (Nat.le_of_ble_eq_true rfl) (Nat.le_of_ble_eq_true rfl) dL_pass_16
