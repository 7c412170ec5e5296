set_option maxHeartbeats 1000000 in
set_option maxRecDepth 100000 in
theorem c_L_kind (l : Launch) (dC : Nat → ClassId) (dI : Nat → Nat → Nat) (cyI cyJ cyB : ClassId) (ad : Nat → Nat) (hI : zI ad 37) (hlf : l.stackTraces = false) (S : zS) (x0 : Int32) : lMet l (dC, dI) cyI cyJ cyB ad yL_kind wsL_kind ({ frames := 8, cells := 4, slots := 24, locals := 131 } : Room) [.ref (ad 0), .int x0, .ref (ad 36)] S 4 24 (lPost nO (t_X6_kind S x0) (f_X6_kind S x0) S S) := by
  refine lStart (by decide) rfl (Nat.le_of_ble_eq_true rfl) ?_
  intro p e s m args below meth c ls cx hrt hlk hex hP hK hXs hl
  have hl : lv_has ls 4 [(0, .ref (ad 0)), (1, .int x0), (2, .ref (ad 36))] := hl
  have hS : va_S (zA ad 37 s.heap.size) s.heap s.heap [] := va_S.rf
  have hI6 : zI ad 36 := fun i j hi hj => hI i j (by omega) (by omega)
  refine lv_aload_n cx.1 cx.2.1 dL_kind_0 rfl (lv_at hl 2 rfl) ?_
  refine lv_iconst (v := 0) cx.1 cx.2.1 dL_kind_1 (by decide) ?_
  refine lv_aload_n cx.1 cx.2.1 dL_kind_2 rfl (lv_at hl 0 rfl) ?_
  refine lv_iload_n cx.1 cx.2.1 dL_kind_3 rfl (lv_at hl 1 rfl) ?_
  refine lCall (X := xT) (tys' := [(cyI, .int)]) (As := [.int x0]) (rest := [.int 0, .ref (ad 36)]) 1 cx (c_X6_kind l dC dI cyI ad hI6 hlf S x0) gL_kind_X6_kind rfl ⟨rfl, rfl⟩ (by decide +kernel) ⟨(Nat.le_of_ble_eq_true rfl), (Nat.le_of_ble_eq_true rfl)⟩ (xT_X ad 36) (fun _ _ h => h.1.1) hI hXs (hK.sub (tys' := [(cyI, .int)]) [0] rfl) hP hS rfl hl.1 rfl (Nat.le_of_ble_eq_true rfl) dL_kind_4 ⟨(Nat.le_of_ble_eq_true rfl), (Nat.le_of_ble_eq_true rfl)⟩ (fun E ce q9 H1 locs1 hE hP hS hce hcv hcl => ?_) (fun r T H1 locs1 hp hP hS => ?_)
  · rcases tE_kind S x0 with h9 | h9
    · rw [h9] at hE; cases hE
    · rw [h9] at hE
      obtain rfl : xIO = E := Option.some.inj hE
      refine vx_catch (own := RL) (name := xIO) (E := xIO) (hown := cx.2.2.2.1) [] (⟨0, 9, 12, 13⟩ : ExceptionTableEntry) [] (by rw [hex]; rfl) (fun z hz => by cases hz) rfl (by decide) (cx.2.2.2.2 (Cond.classLink RL 13 "java/lang/IndexOutOfBoundsException") (by decide +kernel)) (va_Nw.use rfl (hXs.1.1.2.2.2.2.2 xIO (by decide))) hce hcv hcl ?_
      refine lv_astore_n (lv' := [(3, .ref q9), (0, .ref (ad 0)), (1, .int x0), (2, .ref (ad 36))]) cx.1 cx.2.1 dL_kind_12 rfl hl (by decide) rfl (fun ls hl => ?_)
      refine lv_iconst (v := 1) cx.1 cx.2.1 dL_kind_13 (by decide) ?_
      exact lRet cx hrt hlk rfl hS hP (Or.inr ⟨(xIO, 1), by decide, h9, rfl, rfl⟩) (Nat.le_of_ble_eq_true rfl) (Nat.le_of_ble_eq_true rfl) dL_kind_14
  · obtain ⟨h7, h8, h9⟩ := hp
    subst h7
    rw [h8] at hP
    refine lv_i2l (v := (f_X6_kind S x0).toInt64) cx.1 cx.2.1 dL_kind_7 rfl ?_
    refine lStore (v := (f_X6_kind S x0)) cx hI hK hP hS dL_kind_8 (fun H locs hP hS => ?_)
    refine lv_goto (tgt := 15) cx.1 cx.2.1 dL_kind_9 (by decide) ?_
    refine lv_iconst (v := 0) cx.1 cx.2.1 dL_kind_15 (by decide) ?_
    exact lRet cx hrt hlk rfl hS hP (Or.inl ⟨h9, rfl, rfl⟩) (Nat.le_of_ble_eq_true rfl) (Nat.le_of_ble_eq_true rfl) dL_kind_16
set_option maxHeartbeats 1000000 in
set_option maxRecDepth 100000 in
theorem c_L_level (l : Launch) (dC : Nat → ClassId) (dI : Nat → Nat → Nat) (cyI cyJ cyB : ClassId) (ad : Nat → Nat) (hI : zI ad 37) (hlf : l.stackTraces = false) (S : zS) (x0 : Int32) : lMet l (dC, dI) cyI cyJ cyB ad yL_level wsL_level ({ frames := 8, cells := 4, slots := 24, locals := 131 } : Room) [.ref (ad 0), .int x0, .ref (ad 36)] S 4 24 (lPost nO (t_X6_level S x0) (f_X6_level S x0) S S) := by
  refine lStart (by decide) rfl (Nat.le_of_ble_eq_true rfl) ?_
  intro p e s m args below meth c ls cx hrt hlk hex hP hK hXs hl
  have hl : lv_has ls 4 [(0, .ref (ad 0)), (1, .int x0), (2, .ref (ad 36))] := hl
  have hS : va_S (zA ad 37 s.heap.size) s.heap s.heap [] := va_S.rf
  have hI6 : zI ad 36 := fun i j hi hj => hI i j (by omega) (by omega)
  refine lv_aload_n cx.1 cx.2.1 dL_level_0 rfl (lv_at hl 2 rfl) ?_
  refine lv_iconst (v := 0) cx.1 cx.2.1 dL_level_1 (by decide) ?_
  refine lv_aload_n cx.1 cx.2.1 dL_level_2 rfl (lv_at hl 0 rfl) ?_
  refine lv_iload_n cx.1 cx.2.1 dL_level_3 rfl (lv_at hl 1 rfl) ?_
  refine lCall (X := xT) (tys' := [(cyI, .int)]) (As := [.int x0]) (rest := [.int 0, .ref (ad 36)]) 1 cx (c_X6_level l dC dI cyI ad hI6 hlf S x0) gL_level_X6_level rfl ⟨rfl, rfl⟩ (by decide +kernel) ⟨(Nat.le_of_ble_eq_true rfl), (Nat.le_of_ble_eq_true rfl)⟩ (xT_X ad 36) (fun _ _ h => h.1.1) hI hXs (hK.sub (tys' := [(cyI, .int)]) [0] rfl) hP hS rfl hl.1 rfl (Nat.le_of_ble_eq_true rfl) dL_level_4 ⟨(Nat.le_of_ble_eq_true rfl), (Nat.le_of_ble_eq_true rfl)⟩ (fun E ce q9 H1 locs1 hE hP hS hce hcv hcl => ?_) (fun r T H1 locs1 hp hP hS => ?_)
  · rcases tE_level S x0 with h9 | h9
    · rw [h9] at hE; cases hE
    · rw [h9] at hE
      obtain rfl : xIO = E := Option.some.inj hE
      refine vx_catch (own := RL) (name := xIO) (E := xIO) (hown := cx.2.2.2.1) [] (⟨0, 9, 12, 13⟩ : ExceptionTableEntry) [] (by rw [hex]; rfl) (fun z hz => by cases hz) rfl (by decide) (cx.2.2.2.2 (Cond.classLink RL 13 "java/lang/IndexOutOfBoundsException") (by decide +kernel)) (va_Nw.use rfl (hXs.1.1.2.2.2.2.2 xIO (by decide))) hce hcv hcl ?_
      refine lv_astore_n (lv' := [(3, .ref q9), (0, .ref (ad 0)), (1, .int x0), (2, .ref (ad 36))]) cx.1 cx.2.1 dL_level_12 rfl hl (by decide) rfl (fun ls hl => ?_)
      refine lv_iconst (v := 1) cx.1 cx.2.1 dL_level_13 (by decide) ?_
      exact lRet cx hrt hlk rfl hS hP (Or.inr ⟨(xIO, 1), by decide, h9, rfl, rfl⟩) (Nat.le_of_ble_eq_true rfl) (Nat.le_of_ble_eq_true rfl) dL_level_14
  · obtain ⟨h7, h8, h9⟩ := hp
    subst h7
    rw [h8] at hP
    refine lv_i2l (v := (f_X6_level S x0).toInt64) cx.1 cx.2.1 dL_level_7 rfl ?_
    refine lStore (v := (f_X6_level S x0)) cx hI hK hP hS dL_level_8 (fun H locs hP hS => ?_)
    refine lv_goto (tgt := 15) cx.1 cx.2.1 dL_level_9 (by decide) ?_
    refine lv_iconst (v := 0) cx.1 cx.2.1 dL_level_15 (by decide) ?_
    exact lRet cx hrt hlk rfl hS hP (Or.inl ⟨h9, rfl, rfl⟩) (Nat.le_of_ble_eq_true rfl) (Nat.le_of_ble_eq_true rfl) dL_level_16
set_option maxHeartbeats 1000000 in
set_option maxRecDepth 100000 in
theorem c_L_net (l : Launch) (dC : Nat → ClassId) (dI : Nat → Nat → Nat) (cyI cyJ cyB : ClassId) (ad : Nat → Nat) (hI : zI ad 37) (hlf : l.stackTraces = false) (S : zS) (x0 : Int32) : lMet l (dC, dI) cyI cyJ cyB ad yL_net wsL_net ({ frames := 8, cells := 4, slots := 24, locals := 131 } : Room) [.ref (ad 0), .int x0, .ref (ad 36)] S 4 24 (lPost nO (t_X6_net S x0) (f_X6_net S x0) S S) := by
  refine lStart (by decide) rfl (Nat.le_of_ble_eq_true rfl) ?_
  intro p e s m args below meth c ls cx hrt hlk hex hP hK hXs hl
  have hl : lv_has ls 4 [(0, .ref (ad 0)), (1, .int x0), (2, .ref (ad 36))] := hl
  have hS : va_S (zA ad 37 s.heap.size) s.heap s.heap [] := va_S.rf
  have hI6 : zI ad 36 := fun i j hi hj => hI i j (by omega) (by omega)
  refine lv_aload_n cx.1 cx.2.1 dL_net_0 rfl (lv_at hl 2 rfl) ?_
  refine lv_iconst (v := 0) cx.1 cx.2.1 dL_net_1 (by decide) ?_
  refine lv_aload_n cx.1 cx.2.1 dL_net_2 rfl (lv_at hl 0 rfl) ?_
  refine lv_iload_n cx.1 cx.2.1 dL_net_3 rfl (lv_at hl 1 rfl) ?_
  refine lCall (X := xT) (tys' := [(cyI, .int)]) (As := [.int x0]) (rest := [.int 0, .ref (ad 36)]) 1 cx (c_X6_net l dC dI cyI ad hI6 hlf S x0) gL_net_X6_net rfl ⟨rfl, rfl⟩ (by decide +kernel) ⟨(Nat.le_of_ble_eq_true rfl), (Nat.le_of_ble_eq_true rfl)⟩ (xT_X ad 36) (fun _ _ h => h.1.1) hI hXs (hK.sub (tys' := [(cyI, .int)]) [0] rfl) hP hS rfl hl.1 rfl (Nat.le_of_ble_eq_true rfl) dL_net_4 ⟨(Nat.le_of_ble_eq_true rfl), (Nat.le_of_ble_eq_true rfl)⟩ (fun E ce q9 H1 locs1 hE hP hS hce hcv hcl => ?_) (fun r T H1 locs1 hp hP hS => ?_)
  · rcases tE_net S x0 with h9 | h9
    · rw [h9] at hE; cases hE
    · rw [h9] at hE
      obtain rfl : xIO = E := Option.some.inj hE
      refine vx_catch (own := RL) (name := xIO) (E := xIO) (hown := cx.2.2.2.1) [] (⟨0, 9, 12, 13⟩ : ExceptionTableEntry) [] (by rw [hex]; rfl) (fun z hz => by cases hz) rfl (by decide) (cx.2.2.2.2 (Cond.classLink RL 13 "java/lang/IndexOutOfBoundsException") (by decide +kernel)) (va_Nw.use rfl (hXs.1.1.2.2.2.2.2 xIO (by decide))) hce hcv hcl ?_
      refine lv_astore_n (lv' := [(3, .ref q9), (0, .ref (ad 0)), (1, .int x0), (2, .ref (ad 36))]) cx.1 cx.2.1 dL_net_12 rfl hl (by decide) rfl (fun ls hl => ?_)
      refine lv_iconst (v := 1) cx.1 cx.2.1 dL_net_13 (by decide) ?_
      exact lRet cx hrt hlk rfl hS hP (Or.inr ⟨(xIO, 1), by decide, h9, rfl, rfl⟩) (Nat.le_of_ble_eq_true rfl) (Nat.le_of_ble_eq_true rfl) dL_net_14
  · obtain ⟨h7, h8, h9⟩ := hp
    subst h7
    rw [h8] at hP
    refine lv_i2l (v := (f_X6_net S x0).toInt64) cx.1 cx.2.1 dL_net_7 rfl ?_
    refine lStore (v := (f_X6_net S x0)) cx hI hK hP hS dL_net_8 (fun H locs hP hS => ?_)
    refine lv_goto (tgt := 15) cx.1 cx.2.1 dL_net_9 (by decide) ?_
    refine lv_iconst (v := 0) cx.1 cx.2.1 dL_net_15 (by decide) ?_
    exact lRet cx hrt hlk rfl hS hP (Or.inl ⟨h9, rfl, rfl⟩) (Nat.le_of_ble_eq_true rfl) (Nat.le_of_ble_eq_true rfl) dL_net_16
set_option maxHeartbeats 1000000 in
set_option maxRecDepth 100000 in
theorem c_L_steps (l : Launch) (dC : Nat → ClassId) (dI : Nat → Nat → Nat) (cyI cyJ cyB : ClassId) (ad : Nat → Nat) (hI : zI ad 37) (hlf : l.stackTraces = false) (S : zS) (x0 x1 : Int32) : lMet l (dC, dI) cyI cyJ cyB ad yL_steps wsL_steps ({ frames := 8, cells := 4, slots := 24, locals := 132 } : Room) [.ref (ad 0), .int x0, .int x1, .ref (ad 36)] S 4 24 (lPost nO (t_X6_steps S x0 x1) (f_X6_steps S x0 x1) S S) := by
  refine lStart (by decide) rfl (Nat.le_of_ble_eq_true rfl) ?_
  intro p e s m args below meth c ls cx hrt hlk hex hP hK hXs hl
  have hl : lv_has ls 5 [(0, .ref (ad 0)), (1, .int x0), (2, .int x1), (3, .ref (ad 36))] := hl
  have hS : va_S (zA ad 37 s.heap.size) s.heap s.heap [] := va_S.rf
  have hI6 : zI ad 36 := fun i j hi hj => hI i j (by omega) (by omega)
  refine lv_aload_n cx.1 cx.2.1 dL_steps_0 rfl (lv_at hl 3 rfl) ?_
  refine lv_iconst (v := 0) cx.1 cx.2.1 dL_steps_1 (by decide) ?_
  refine lv_aload_n cx.1 cx.2.1 dL_steps_2 rfl (lv_at hl 0 rfl) ?_
  refine lv_iload_n cx.1 cx.2.1 dL_steps_3 rfl (lv_at hl 1 rfl) ?_
  refine lv_iload_n cx.1 cx.2.1 dL_steps_4 rfl (lv_at hl 2 rfl) ?_
  refine lCall (X := xT) (tys' := [(cyI, .int)]) (As := [.int x0, .int x1]) (rest := [.int 0, .ref (ad 36)]) 2 cx (c_X6_steps l dC dI cyI ad hI6 hlf S x0 x1) gL_steps_X6_steps rfl ⟨rfl, rfl⟩ (by decide +kernel) ⟨(Nat.le_of_ble_eq_true rfl), (Nat.le_of_ble_eq_true rfl)⟩ (xT_X ad 36) (fun _ _ h => h.1.1) hI hXs (hK.sub (tys' := [(cyI, .int)]) [0] rfl) hP hS rfl hl.1 rfl (Nat.le_of_ble_eq_true rfl) dL_steps_5 ⟨(Nat.le_of_ble_eq_true rfl), (Nat.le_of_ble_eq_true rfl)⟩ (fun E ce q9 H1 locs1 hE hP hS hce hcv hcl => ?_) (fun r T H1 locs1 hp hP hS => ?_)
  · rcases tE_steps S x0 x1 with h9 | h9
    · rw [h9] at hE; cases hE
    · rw [h9] at hE
      obtain rfl : xIO = E := Option.some.inj hE
      refine vx_catch (own := RL) (name := xIO) (E := xIO) (hown := cx.2.2.2.1) [] (⟨0, 10, 13, 13⟩ : ExceptionTableEntry) [] (by rw [hex]; rfl) (fun z hz => by cases hz) rfl (by decide) (cx.2.2.2.2 (Cond.classLink RL 13 "java/lang/IndexOutOfBoundsException") (by decide +kernel)) (va_Nw.use rfl (hXs.1.1.2.2.2.2.2 xIO (by decide))) hce hcv hcl ?_
      refine lv_astore (lv' := [(4, .ref q9), (0, .ref (ad 0)), (1, .int x0), (2, .int x1), (3, .ref (ad 36))]) cx.1 cx.2.1 dL_steps_13 hl (by decide) rfl (fun ls hl => ?_)
      refine lv_iconst (v := 1) cx.1 cx.2.1 dL_steps_15 (by decide) ?_
      exact lRet cx hrt hlk rfl hS hP (Or.inr ⟨(xIO, 1), by decide, h9, rfl, rfl⟩) (Nat.le_of_ble_eq_true rfl) (Nat.le_of_ble_eq_true rfl) dL_steps_16
  · obtain ⟨h7, h8, h9⟩ := hp
    subst h7
    rw [h8] at hP
    refine lv_i2l (v := (f_X6_steps S x0 x1).toInt64) cx.1 cx.2.1 dL_steps_8 rfl ?_
    refine lStore (v := (f_X6_steps S x0 x1)) cx hI hK hP hS dL_steps_9 (fun H locs hP hS => ?_)
    refine lv_goto (tgt := 17) cx.1 cx.2.1 dL_steps_10 (by decide) ?_
    refine lv_iconst (v := 0) cx.1 cx.2.1 dL_steps_17 (by decide) ?_
    exact lRet cx hrt hlk rfl hS hP (Or.inl ⟨h9, rfl, rfl⟩) (Nat.le_of_ble_eq_true rfl) (Nat.le_of_ble_eq_true rfl) dL_steps_18
set_option maxHeartbeats 1000000 in
set_option maxRecDepth 100000 in
theorem c_L_isServed (l : Launch) (dC : Nat → ClassId) (dI : Nat → Nat → Nat) (cyI cyJ cyB : ClassId) (ad : Nat → Nat) (hI : zI ad 37) (hlf : l.stackTraces = false) (S : zS) (x0 : Int32) : lMet l (dC, dI) cyI cyJ cyB ad yL_isServed wsL_isServed ({ frames := 8, cells := 4, slots := 24, locals := 131 } : Room) [.ref (ad 0), .int x0, .ref (ad 36)] S 4 24 (lPost nO (t_X6_isServed S x0) (f_X6_isServed S x0) S S) := by
  refine lStart (by decide) rfl (Nat.le_of_ble_eq_true rfl) ?_
  intro p e s m args below meth c ls cx hrt hlk hex hP hK hXs hl
  have hl : lv_has ls 4 [(0, .ref (ad 0)), (1, .int x0), (2, .ref (ad 36))] := hl
  have hS : va_S (zA ad 37 s.heap.size) s.heap s.heap [] := va_S.rf
  have hI6 : zI ad 36 := fun i j hi hj => hI i j (by omega) (by omega)
  refine lv_aload_n cx.1 cx.2.1 dL_isServed_0 rfl (lv_at hl 2 rfl) ?_
  refine lv_iconst (v := 0) cx.1 cx.2.1 dL_isServed_1 (by decide) ?_
  refine lv_aload_n cx.1 cx.2.1 dL_isServed_2 rfl (lv_at hl 0 rfl) ?_
  refine lv_iload_n cx.1 cx.2.1 dL_isServed_3 rfl (lv_at hl 1 rfl) ?_
  refine lCall (X := xT) (tys' := [(cyI, .int)]) (As := [.int x0]) (rest := [.int 0, .ref (ad 36)]) 1 cx (c_X6_isServed l dC dI cyI ad hI6 hlf S x0) gL_isServed_X6_isServed rfl ⟨rfl, rfl⟩ (by decide +kernel) ⟨(Nat.le_of_ble_eq_true rfl), (Nat.le_of_ble_eq_true rfl)⟩ (xT_X ad 36) (fun _ _ h => h.1.1) hI hXs (hK.sub (tys' := [(cyI, .int)]) [0] rfl) hP hS rfl hl.1 rfl (Nat.le_of_ble_eq_true rfl) dL_isServed_4 ⟨(Nat.le_of_ble_eq_true rfl), (Nat.le_of_ble_eq_true rfl)⟩ (fun E ce q9 H1 locs1 hE hP hS hce hcv hcl => ?_) (fun r T H1 locs1 hp hP hS => ?_)
  · rcases tE_isServed S x0 with h9 | h9
    · rw [h9] at hE; cases hE
    · rw [h9] at hE
      obtain rfl : xIO = E := Option.some.inj hE
      refine vx_catch (own := RL) (name := xIO) (E := xIO) (hown := cx.2.2.2.1) [] (⟨0, 16, 19, 13⟩ : ExceptionTableEntry) [] (by rw [hex]; rfl) (fun z hz => by cases hz) rfl (by decide) (cx.2.2.2.2 (Cond.classLink RL 13 "java/lang/IndexOutOfBoundsException") (by decide +kernel)) (va_Nw.use rfl (hXs.1.1.2.2.2.2.2 xIO (by decide))) hce hcv hcl ?_
      refine lv_astore_n (lv' := [(3, .ref q9), (0, .ref (ad 0)), (1, .int x0), (2, .ref (ad 36))]) cx.1 cx.2.1 dL_isServed_19 rfl hl (by decide) rfl (fun ls hl => ?_)
      refine lv_iconst (v := 1) cx.1 cx.2.1 dL_isServed_20 (by decide) ?_
      exact lRet cx hrt hlk rfl hS hP (Or.inr ⟨(xIO, 1), by decide, h9, rfl, rfl⟩) (Nat.le_of_ble_eq_true rfl) (Nat.le_of_ble_eq_true rfl) dL_isServed_21
  · obtain ⟨h7, h8, h9⟩ := hp
    subst h7
    rw [h8] at hP
    have h01 : (f_X6_isServed S x0) = 0 ∨ (f_X6_isServed S x0) = 1 := by
      unfold f_X6_isServed f_X5_serves
      split
      · exact Or.inl rfl
      · exact Or.inr rfl
    have tail : ∀ (v : Int32), v = (f_X6_isServed S x0) → W p l e (headSpec wsL_isServed ({ frames := 8, cells := 4, slots := 24, locals := 131 } : Room)).room s m args below meth c H1 locs1 (0 + 4) (0 + 24) (MQ below (zQi (dC, dI) (lw cyI cyJ ad) (lPost nO (t_X6_isServed S x0) (f_X6_isServed S x0) S S) (zA ad 37 s.heap.size)) args s 4 24 (zA ad 37 s.heap.size)) (F0 m 15 ls [.long v.toInt64, .int 0, .ref (ad 36)]) := by
      intro v hv
      refine lStore (v := v) cx hI hK hP hS dL_isServed_15 (fun H locs hP hS => ?_)
      refine lv_goto (tgt := 22) cx.1 cx.2.1 dL_isServed_16 (by decide) ?_
      refine lv_iconst (v := 0) cx.1 cx.2.1 dL_isServed_22 (by decide) ?_
      exact lRet cx hrt hlk rfl hS hP (Or.inl ⟨h9, rfl, by first | rfl | rw [hv]⟩) (Nat.le_of_ble_eq_true rfl) (Nat.le_of_ble_eq_true rfl) dL_isServed_23
    refine lv_if_eq (tgt := 14) cx.1 cx.2.1 dL_isServed_7 (by decide) (fun c1 => ?_) (fun c1 => ?_)
    · refine lv_lconst (v := (0 : Int32).toInt64) cx.1 cx.2.1 dL_isServed_14 (by decide) ?_
      exact tail 0 c1.symm
    · refine lv_lconst (v := (1 : Int32).toInt64) cx.1 cx.2.1 dL_isServed_10 (by decide) ?_
      refine lv_goto (tgt := 15) cx.1 cx.2.1 dL_isServed_11 (by decide) ?_
      exact tail 1 (h01.resolve_left c1).symm
set_option maxHeartbeats 1000000 in
set_option maxRecDepth 100000 in
theorem c_L_placed (l : Launch) (dC : Nat → ClassId) (dI : Nat → Nat → Nat) (cyI cyJ cyB : ClassId) (ad : Nat → Nat) (hI : zI ad 37) (hlf : l.stackTraces = false) (S : zS) (x0 : Int32) : lMet l (dC, dI) cyI cyJ cyB ad yL_placed wsL_placed ({ frames := 8, cells := 4, slots := 24, locals := 131 } : Room) [.ref (ad 0), .int x0, .ref (ad 36)] S 4 24 (lPost nO (t_X6_placed S x0) (f_X6_placed S x0) S S) := by
  refine lStart (by decide) rfl (Nat.le_of_ble_eq_true rfl) ?_
  intro p e s m args below meth c ls cx hrt hlk hex hP hK hXs hl
  have hl : lv_has ls 4 [(0, .ref (ad 0)), (1, .int x0), (2, .ref (ad 36))] := hl
  have hS : va_S (zA ad 37 s.heap.size) s.heap s.heap [] := va_S.rf
  have hI6 : zI ad 36 := fun i j hi hj => hI i j (by omega) (by omega)
  refine lv_aload_n cx.1 cx.2.1 dL_placed_0 rfl (lv_at hl 2 rfl) ?_
  refine lv_iconst (v := 0) cx.1 cx.2.1 dL_placed_1 (by decide) ?_
  refine lv_aload_n cx.1 cx.2.1 dL_placed_2 rfl (lv_at hl 0 rfl) ?_
  refine lv_iload_n cx.1 cx.2.1 dL_placed_3 rfl (lv_at hl 1 rfl) ?_
  refine lCall (X := xT) (tys' := [(cyI, .int)]) (As := [.int x0]) (rest := [.int 0, .ref (ad 36)]) 1 cx (c_X6_placed l dC dI cyI ad hI6 hlf S x0) gL_placed_X6_placed rfl ⟨rfl, rfl⟩ (by decide +kernel) ⟨(Nat.le_of_ble_eq_true rfl), (Nat.le_of_ble_eq_true rfl)⟩ (xT_X ad 36) (fun _ _ h => h.1.1) hI hXs (hK.sub (tys' := [(cyI, .int)]) [0] rfl) hP hS rfl hl.1 rfl (Nat.le_of_ble_eq_true rfl) dL_placed_4 ⟨(Nat.le_of_ble_eq_true rfl), (Nat.le_of_ble_eq_true rfl)⟩ (fun E ce q9 H1 locs1 hE hP hS hce hcv hcl => ?_) (fun r T H1 locs1 hp hP hS => ?_)
  · rcases tE_placed S x0 with h9 | h9
    · rw [h9] at hE; cases hE
    · rw [h9] at hE
      obtain rfl : xIO = E := Option.some.inj hE
      refine vx_catch (own := RL) (name := xIO) (E := xIO) (hown := cx.2.2.2.1) [] (⟨0, 9, 12, 13⟩ : ExceptionTableEntry) [] (by rw [hex]; rfl) (fun z hz => by cases hz) rfl (by decide) (cx.2.2.2.2 (Cond.classLink RL 13 "java/lang/IndexOutOfBoundsException") (by decide +kernel)) (va_Nw.use rfl (hXs.1.1.2.2.2.2.2 xIO (by decide))) hce hcv hcl ?_
      refine lv_astore_n (lv' := [(3, .ref q9), (0, .ref (ad 0)), (1, .int x0), (2, .ref (ad 36))]) cx.1 cx.2.1 dL_placed_12 rfl hl (by decide) rfl (fun ls hl => ?_)
      refine lv_iconst (v := 1) cx.1 cx.2.1 dL_placed_13 (by decide) ?_
      exact lRet cx hrt hlk rfl hS hP (Or.inr ⟨(xIO, 1), by decide, h9, rfl, rfl⟩) (Nat.le_of_ble_eq_true rfl) (Nat.le_of_ble_eq_true rfl) dL_placed_14
  · obtain ⟨h7, h8, h9⟩ := hp
    subst h7
    rw [h8] at hP
    refine lv_i2l (v := (f_X6_placed S x0).toInt64) cx.1 cx.2.1 dL_placed_7 rfl ?_
    refine lStore (v := (f_X6_placed S x0)) cx hI hK hP hS dL_placed_8 (fun H locs hP hS => ?_)
    refine lv_goto (tgt := 15) cx.1 cx.2.1 dL_placed_9 (by decide) ?_
    refine lv_iconst (v := 0) cx.1 cx.2.1 dL_placed_15 (by decide) ?_
    exact lRet cx hrt hlk rfl hS hP (Or.inl ⟨h9, rfl, rfl⟩) (Nat.le_of_ble_eq_true rfl) (Nat.le_of_ble_eq_true rfl) dL_placed_16
set_option maxHeartbeats 1000000 in
set_option maxRecDepth 100000 in
theorem c_L_traffic (l : Launch) (dC : Nat → ClassId) (dI : Nat → Nat → Nat) (cyI cyJ cyB : ClassId) (ad : Nat → Nat) (hI : zI ad 37) (hlf : l.stackTraces = false) (S : zS) (x0 : Int32) : lMet l (dC, dI) cyI cyJ cyB ad yL_traffic wsL_traffic ({ frames := 8, cells := 4, slots := 24, locals := 131 } : Room) [.ref (ad 0), .int x0, .ref (ad 36)] S 4 24 (lPost nO (t_X6_traffic S x0) (f_X6_traffic S x0) S S) := by
  refine lStart (by decide) rfl (Nat.le_of_ble_eq_true rfl) ?_
  intro p e s m args below meth c ls cx hrt hlk hex hP hK hXs hl
  have hl : lv_has ls 4 [(0, .ref (ad 0)), (1, .int x0), (2, .ref (ad 36))] := hl
  have hS : va_S (zA ad 37 s.heap.size) s.heap s.heap [] := va_S.rf
  have hI6 : zI ad 36 := fun i j hi hj => hI i j (by omega) (by omega)
  refine lv_aload_n cx.1 cx.2.1 dL_traffic_0 rfl (lv_at hl 2 rfl) ?_
  refine lv_iconst (v := 0) cx.1 cx.2.1 dL_traffic_1 (by decide) ?_
  refine lv_aload_n cx.1 cx.2.1 dL_traffic_2 rfl (lv_at hl 0 rfl) ?_
  refine lv_iload_n cx.1 cx.2.1 dL_traffic_3 rfl (lv_at hl 1 rfl) ?_
  refine lCall (X := xT) (tys' := [(cyI, .int)]) (As := [.int x0]) (rest := [.int 0, .ref (ad 36)]) 1 cx (c_X6_traffic l dC dI cyI ad hI6 hlf S x0) gL_traffic_X6_traffic rfl ⟨rfl, rfl⟩ (by decide +kernel) ⟨(Nat.le_of_ble_eq_true rfl), (Nat.le_of_ble_eq_true rfl)⟩ (xT_X ad 36) (fun _ _ h => h.1.1) hI hXs (hK.sub (tys' := [(cyI, .int)]) [0] rfl) hP hS rfl hl.1 rfl (Nat.le_of_ble_eq_true rfl) dL_traffic_4 ⟨(Nat.le_of_ble_eq_true rfl), (Nat.le_of_ble_eq_true rfl)⟩ (fun E ce q9 H1 locs1 hE hP hS hce hcv hcl => ?_) (fun r T H1 locs1 hp hP hS => ?_)
  · rcases tE_traffic S x0 with h9 | h9
    · rw [h9] at hE; cases hE
    · rw [h9] at hE
      obtain rfl : xIO = E := Option.some.inj hE
      refine vx_catch (own := RL) (name := xIO) (E := xIO) (hown := cx.2.2.2.1) [] (⟨0, 9, 12, 13⟩ : ExceptionTableEntry) [] (by rw [hex]; rfl) (fun z hz => by cases hz) rfl (by decide) (cx.2.2.2.2 (Cond.classLink RL 13 "java/lang/IndexOutOfBoundsException") (by decide +kernel)) (va_Nw.use rfl (hXs.1.1.2.2.2.2.2 xIO (by decide))) hce hcv hcl ?_
      refine lv_astore_n (lv' := [(3, .ref q9), (0, .ref (ad 0)), (1, .int x0), (2, .ref (ad 36))]) cx.1 cx.2.1 dL_traffic_12 rfl hl (by decide) rfl (fun ls hl => ?_)
      refine lv_iconst (v := 1) cx.1 cx.2.1 dL_traffic_13 (by decide) ?_
      exact lRet cx hrt hlk rfl hS hP (Or.inr ⟨(xIO, 1), by decide, h9, rfl, rfl⟩) (Nat.le_of_ble_eq_true rfl) (Nat.le_of_ble_eq_true rfl) dL_traffic_14
  · obtain ⟨h7, h8, h9⟩ := hp
    subst h7
    rw [h8] at hP
    refine lv_i2l (v := (f_X6_traffic S x0).toInt64) cx.1 cx.2.1 dL_traffic_7 rfl ?_
    refine lStore (v := (f_X6_traffic S x0)) cx hI hK hP hS dL_traffic_8 (fun H locs hP hS => ?_)
    refine lv_goto (tgt := 15) cx.1 cx.2.1 dL_traffic_9 (by decide) ?_
    refine lv_iconst (v := 0) cx.1 cx.2.1 dL_traffic_15 (by decide) ?_
    exact lRet cx hrt hlk rfl hS hP (Or.inl ⟨h9, rfl, rfl⟩) (Nat.le_of_ble_eq_true rfl) (Nat.le_of_ble_eq_true rfl) dL_traffic_16
set_option maxHeartbeats 1000000 in
set_option maxRecDepth 100000 in
theorem c_L_value (l : Launch) (dC : Nat → ClassId) (dI : Nat → Nat → Nat) (cyI cyJ cyB : ClassId) (ad : Nat → Nat) (hI : zI ad 37) (hlf : l.stackTraces = false) (S : zS) (x0 : Int32) : lMet l (dC, dI) cyI cyJ cyB ad yL_value wsL_value ({ frames := 8, cells := 4, slots := 24, locals := 131 } : Room) [.ref (ad 0), .int x0, .ref (ad 36)] S 4 24 (lPost nO (t_X6_value S x0) (f_X6_value S x0) S S) := by
  refine lStart (by decide) rfl (Nat.le_of_ble_eq_true rfl) ?_
  intro p e s m args below meth c ls cx hrt hlk hex hP hK hXs hl
  have hl : lv_has ls 4 [(0, .ref (ad 0)), (1, .int x0), (2, .ref (ad 36))] := hl
  have hS : va_S (zA ad 37 s.heap.size) s.heap s.heap [] := va_S.rf
  have hI6 : zI ad 36 := fun i j hi hj => hI i j (by omega) (by omega)
  refine lv_aload_n cx.1 cx.2.1 dL_value_0 rfl (lv_at hl 2 rfl) ?_
  refine lv_iconst (v := 0) cx.1 cx.2.1 dL_value_1 (by decide) ?_
  refine lv_aload_n cx.1 cx.2.1 dL_value_2 rfl (lv_at hl 0 rfl) ?_
  refine lv_iload_n cx.1 cx.2.1 dL_value_3 rfl (lv_at hl 1 rfl) ?_
  refine lCall (X := xT) (tys' := [(cyI, .int)]) (As := [.int x0]) (rest := [.int 0, .ref (ad 36)]) 1 cx (c_X6_value l dC dI cyI ad hI6 hlf S x0) gL_value_X6_value rfl ⟨rfl, rfl⟩ (by decide +kernel) ⟨(Nat.le_of_ble_eq_true rfl), (Nat.le_of_ble_eq_true rfl)⟩ (xT_X ad 36) (fun _ _ h => h.1.1) hI hXs (hK.sub (tys' := [(cyI, .int)]) [0] rfl) hP hS rfl hl.1 rfl (Nat.le_of_ble_eq_true rfl) dL_value_4 ⟨(Nat.le_of_ble_eq_true rfl), (Nat.le_of_ble_eq_true rfl)⟩ (fun E ce q9 H1 locs1 hE hP hS hce hcv hcl => ?_) (fun r T H1 locs1 hp hP hS => ?_)
  · rcases tE_value S x0 with h9 | h9
    · rw [h9] at hE; cases hE
    · rw [h9] at hE
      obtain rfl : xIO = E := Option.some.inj hE
      refine vx_catch (own := RL) (name := xIO) (E := xIO) (hown := cx.2.2.2.1) [] (⟨0, 9, 12, 13⟩ : ExceptionTableEntry) [] (by rw [hex]; rfl) (fun z hz => by cases hz) rfl (by decide) (cx.2.2.2.2 (Cond.classLink RL 13 "java/lang/IndexOutOfBoundsException") (by decide +kernel)) (va_Nw.use rfl (hXs.1.1.2.2.2.2.2 xIO (by decide))) hce hcv hcl ?_
      refine lv_astore_n (lv' := [(3, .ref q9), (0, .ref (ad 0)), (1, .int x0), (2, .ref (ad 36))]) cx.1 cx.2.1 dL_value_12 rfl hl (by decide) rfl (fun ls hl => ?_)
      refine lv_iconst (v := 1) cx.1 cx.2.1 dL_value_13 (by decide) ?_
      exact lRet cx hrt hlk rfl hS hP (Or.inr ⟨(xIO, 1), by decide, h9, rfl, rfl⟩) (Nat.le_of_ble_eq_true rfl) (Nat.le_of_ble_eq_true rfl) dL_value_14
  · obtain ⟨h7, h8, h9⟩ := hp
    subst h7
    rw [h8] at hP
    refine lv_i2l (v := (f_X6_value S x0).toInt64) cx.1 cx.2.1 dL_value_7 rfl ?_
    refine lStore (v := (f_X6_value S x0)) cx hI hK hP hS dL_value_8 (fun H locs hP hS => ?_)
    refine lv_goto (tgt := 15) cx.1 cx.2.1 dL_value_9 (by decide) ?_
    refine lv_iconst (v := 0) cx.1 cx.2.1 dL_value_15 (by decide) ?_
    exact lRet cx hrt hlk rfl hS hP (Or.inl ⟨h9, rfl, rfl⟩) (Nat.le_of_ble_eq_true rfl) (Nat.le_of_ble_eq_true rfl) dL_value_16
set_option maxHeartbeats 1000000 in
set_option maxRecDepth 100000 in
theorem c_L_powerLeft (l : Launch) (dC : Nat → ClassId) (dI : Nat → Nat → Nat) (cyI cyJ cyB : ClassId) (ad : Nat → Nat) (hI : zI ad 37) (hlf : l.stackTraces = false) (S : zS) (x0 : Int32) : lMet l (dC, dI) cyI cyJ cyB ad yL_powerLeft wsL_powerLeft ({ frames := 8, cells := 4, slots := 24, locals := 132 } : Room) [.ref (ad 0), .int x0, .ref (ad 36)] S 4 24 (lPost nO (t_X6_powerLeft S x0) (f_X6_powerLeft S x0) S S) := by
  refine lStart (by decide) rfl (Nat.le_of_ble_eq_true rfl) ?_
  intro p e s m args below meth c ls cx hrt hlk hex hP hK hXs hl
  have hl : lv_has ls 4 [(0, .ref (ad 0)), (1, .int x0), (2, .ref (ad 36))] := hl
  have hS : va_S (zA ad 37 s.heap.size) s.heap s.heap [] := va_S.rf
  have hI6 : zI ad 36 := fun i j hi hj => hI i j (by omega) (by omega)
  refine lv_aload_n cx.1 cx.2.1 dL_powerLeft_0 rfl (lv_at hl 2 rfl) ?_
  refine lv_iconst (v := 0) cx.1 cx.2.1 dL_powerLeft_1 (by decide) ?_
  refine lv_aload_n cx.1 cx.2.1 dL_powerLeft_2 rfl (lv_at hl 0 rfl) ?_
  refine lv_iload_n cx.1 cx.2.1 dL_powerLeft_3 rfl (lv_at hl 1 rfl) ?_
  refine lCall (X := xT) (tys' := [(cyI, .int)]) (As := [.int x0]) (rest := [.int 0, .ref (ad 36)]) 1 cx (c_X6_powerLeft l dC dI cyI ad hI6 hlf S x0) gL_powerLeft_X6_powerLeft rfl ⟨rfl, rfl⟩ (by decide +kernel) ⟨(Nat.le_of_ble_eq_true rfl), (Nat.le_of_ble_eq_true rfl)⟩ (xT_X ad 36) (fun _ _ h => h.1.1) hI hXs (hK.sub (tys' := [(cyI, .int)]) [0] rfl) hP hS rfl hl.1 rfl (Nat.le_of_ble_eq_true rfl) dL_powerLeft_4 ⟨(Nat.le_of_ble_eq_true rfl), (Nat.le_of_ble_eq_true rfl)⟩ (fun E ce q9 H1 locs1 hE hP hS hce hcv hcl => ?_) (fun r T H1 locs1 hp hP hS => ?_)
  · rcases tE_powerLeft S x0 with h9 | h9
    · rw [h9] at hE; cases hE
    · rw [h9] at hE
      obtain rfl : xIO = E := Option.some.inj hE
      refine vx_catch (own := RL) (name := xIO) (E := xIO) (hown := cx.2.2.2.1) [] (⟨0, 9, 12, 13⟩ : ExceptionTableEntry) [] (by rw [hex]; rfl) (fun z hz => by cases hz) rfl (by decide) (cx.2.2.2.2 (Cond.classLink RL 13 "java/lang/IndexOutOfBoundsException") (by decide +kernel)) (va_Nw.use rfl (hXs.1.1.2.2.2.2.2 xIO (by decide))) hce hcv hcl ?_
      refine lv_astore_n (lv' := [(3, .ref q9), (0, .ref (ad 0)), (1, .int x0), (2, .ref (ad 36))]) cx.1 cx.2.1 dL_powerLeft_12 rfl hl (by decide) rfl (fun ls hl => ?_)
      refine lv_iconst (v := 1) cx.1 cx.2.1 dL_powerLeft_13 (by decide) ?_
      exact lRet cx hrt hlk rfl hS hP (Or.inr ⟨(xIO, 1), by decide, h9, rfl, rfl⟩) (Nat.le_of_ble_eq_true rfl) (Nat.le_of_ble_eq_true rfl) dL_powerLeft_14
  · obtain ⟨h7, h8, h9⟩ := hp
    subst h7
    rw [h8] at hP
    refine lv_i2l (v := (f_X6_powerLeft S x0).toInt64) cx.1 cx.2.1 dL_powerLeft_7 rfl ?_
    refine lStore (v := (f_X6_powerLeft S x0)) cx hI hK hP hS dL_powerLeft_8 (fun H locs hP hS => ?_)
    refine lv_goto (tgt := 15) cx.1 cx.2.1 dL_powerLeft_9 (by decide) ?_
    refine lv_iconst (v := 0) cx.1 cx.2.1 dL_powerLeft_15 (by decide) ?_
    exact lRet cx hrt hlk rfl hS hP (Or.inl ⟨h9, rfl, rfl⟩) (Nat.le_of_ble_eq_true rfl) (Nat.le_of_ble_eq_true rfl) dL_powerLeft_16
set_option maxHeartbeats 1000000 in
set_option maxRecDepth 100000 in
theorem c_L_going (l : Launch) (dC : Nat → ClassId) (dI : Nat → Nat → Nat) (cyI cyJ cyB : ClassId) (ad : Nat → Nat) (hI : zI ad 37) (hlf : l.stackTraces = false) (S : zS) (x0 x1 : Int32) : lMet l (dC, dI) cyI cyJ cyB ad yL_going wsL_going ({ frames := 8, cells := 4, slots := 24, locals := 132 } : Room) [.ref (ad 0), .int x0, .int x1, .ref (ad 36)] S 4 24 (lPost nO (t_X6_going S x0 x1) (f_X6_going S x0 x1) S S) := by
  refine lStart (by decide) rfl (Nat.le_of_ble_eq_true rfl) ?_
  intro p e s m args below meth c ls cx hrt hlk hex hP hK hXs hl
  have hl : lv_has ls 5 [(0, .ref (ad 0)), (1, .int x0), (2, .int x1), (3, .ref (ad 36))] := hl
  have hS : va_S (zA ad 37 s.heap.size) s.heap s.heap [] := va_S.rf
  have hI6 : zI ad 36 := fun i j hi hj => hI i j (by omega) (by omega)
  refine lv_aload_n cx.1 cx.2.1 dL_going_0 rfl (lv_at hl 3 rfl) ?_
  refine lv_iconst (v := 0) cx.1 cx.2.1 dL_going_1 (by decide) ?_
  refine lv_aload_n cx.1 cx.2.1 dL_going_2 rfl (lv_at hl 0 rfl) ?_
  refine lv_iload_n cx.1 cx.2.1 dL_going_3 rfl (lv_at hl 1 rfl) ?_
  refine lv_iload_n cx.1 cx.2.1 dL_going_4 rfl (lv_at hl 2 rfl) ?_
  refine lCall (X := xT) (tys' := [(cyI, .int)]) (As := [.int x0, .int x1]) (rest := [.int 0, .ref (ad 36)]) 2 cx (c_X6_going l dC dI cyI ad hI6 hlf S x0 x1) gL_going_X6_going rfl ⟨rfl, rfl⟩ (by decide +kernel) ⟨(Nat.le_of_ble_eq_true rfl), (Nat.le_of_ble_eq_true rfl)⟩ (xT_X ad 36) (fun _ _ h => h.1.1) hI hXs (hK.sub (tys' := [(cyI, .int)]) [0] rfl) hP hS rfl hl.1 rfl (Nat.le_of_ble_eq_true rfl) dL_going_5 ⟨(Nat.le_of_ble_eq_true rfl), (Nat.le_of_ble_eq_true rfl)⟩ (fun E ce q9 H1 locs1 hE hP hS hce hcv hcl => ?_) (fun r T H1 locs1 hp hP hS => ?_)
  · rcases tE_going S x0 x1 with h9 | h9
    · rw [h9] at hE; cases hE
    · rw [h9] at hE
      obtain rfl : xIO = E := Option.some.inj hE
      refine vx_catch (own := RL) (name := xIO) (E := xIO) (hown := cx.2.2.2.1) [] (⟨0, 10, 13, 13⟩ : ExceptionTableEntry) [] (by rw [hex]; rfl) (fun z hz => by cases hz) rfl (by decide) (cx.2.2.2.2 (Cond.classLink RL 13 "java/lang/IndexOutOfBoundsException") (by decide +kernel)) (va_Nw.use rfl (hXs.1.1.2.2.2.2.2 xIO (by decide))) hce hcv hcl ?_
      refine lv_astore (lv' := [(4, .ref q9), (0, .ref (ad 0)), (1, .int x0), (2, .int x1), (3, .ref (ad 36))]) cx.1 cx.2.1 dL_going_13 hl (by decide) rfl (fun ls hl => ?_)
      refine lv_iconst (v := 1) cx.1 cx.2.1 dL_going_15 (by decide) ?_
      exact lRet cx hrt hlk rfl hS hP (Or.inr ⟨(xIO, 1), by decide, h9, rfl, rfl⟩) (Nat.le_of_ble_eq_true rfl) (Nat.le_of_ble_eq_true rfl) dL_going_16
  · obtain ⟨h7, h8, h9⟩ := hp
    subst h7
    rw [h8] at hP
    refine lv_i2l (v := (f_X6_going S x0 x1).toInt64) cx.1 cx.2.1 dL_going_8 rfl ?_
    refine lStore (v := (f_X6_going S x0 x1)) cx hI hK hP hS dL_going_9 (fun H locs hP hS => ?_)
    refine lv_goto (tgt := 17) cx.1 cx.2.1 dL_going_10 (by decide) ?_
    refine lv_iconst (v := 0) cx.1 cx.2.1 dL_going_17 (by decide) ?_
    exact lRet cx hrt hlk rfl hS hP (Or.inl ⟨h9, rfl, rfl⟩) (Nat.le_of_ble_eq_true rfl) (Nat.le_of_ble_eq_true rfl) dL_going_18
