/-! THE LAW DOES -/
set_option maxHeartbeats 2000000 in
set_option maxRecDepth 100000 in
theorem c_L_does0 (l : Launch) (dC : Nat → ClassId) (dI : Nat → Nat → Nat) (cyI cyB : ClassId) (ad : Nat → Nat) (hI : zI ad 39) (hlf : l.stackTraces = false) (S : zS) (xa : Int32) (xb : Int32) : bMet l (dC, dI) (lTys cyI cyB) ad 39 xL (qw cyI ad) yL_does wsL_does ({ frames := 8, cells := 4, slots := 24, locals := 179 } : Room) [.ref (ad 0), .int 0, .int xa, .int xb] S 4 24 (dPost (t_X6_build S xa xb) (f_X6_build S xa xb) (g_X6_build S xa xb) S) := by
  refine bStartW (by decide) rfl (Nat.le_of_ble_eq_true rfl) ?_
  intro p e s m args below meth c ls cx hrt hlk hex hP hK hXs hl
  have hl : lv_has ls 5 [(0, .ref (ad 0)), (1, .int 0), (2, .int xa), (3, .int xb)] := hl
  have hS : va_S (zA ad 39 s.heap.size) s.heap s.heap [] := va_S.rf
  have hI6 : zI ad 36 := fun i j hi hj => hI i j (by omega) (by omega)
  refine lv_iload_n cx.1 cx.2.1 dL_does_0 rfl (lv_at hl 1 rfl) ?_
  refine lv_if_ne (tgt := 13) cx.1 cx.2.1 dL_does_1 (by decide) (fun c0 => ?_) (fun c0 => ?_)
  · exact absurd c0 (by decide)
  refine lv_aload_n cx.1 cx.2.1 dL_does_4 rfl (lv_at hl 0 rfl) ?_
  refine lv_iload_n cx.1 cx.2.1 dL_does_5 rfl (lv_at hl 2 rfl) ?_
  refine lv_iload_n cx.1 cx.2.1 dL_does_6 rfl (lv_at hl 3 rfl) ?_
  refine bCallX (As := [.int xa, .int xb]) (rest := []) 2 cx (xLift (qE_OK cyI ad) hI (fun U h => lTys_I U h) (fun A B U h hAB => xL_T A B U h hAB) (c_X6_build l dC dI cyI ad hI6 hlf S xa xb)) gL_does_X6_build rfl ⟨rfl, rfl⟩ (by decide +kernel) ⟨(Nat.le_of_ble_eq_true rfl), (Nat.le_of_ble_eq_true rfl)⟩ (xL_X ad 39) hXs hK hP hS rfl rfl hl.1 rfl (Nat.le_of_ble_eq_true rfl) dL_does_7 ⟨(Nat.le_of_ble_eq_true rfl), (Nat.le_of_ble_eq_true rfl)⟩ (fun E ce q9 H1 locs1 hE hP hS hce hcv hcl => ?_) (fun r T H1 locs1 hp hP hS => ?_)
  · rcases tE_build S xa xb with h9 | h9 | h9 | h9
    · rw [h9] at hE
      cases hE
    · rw [h9] at hE
      obtain rfl : xIO = E := Option.some.inj hE
      refine vx_catch (own := RL) (name := xIO) (E := xIO) (hown := cx.2.2.2.1) [] (⟨0, 80, 81, 31⟩ : ExceptionTableEntry) [(⟨0, 80, 86, 34⟩ : ExceptionTableEntry), (⟨0, 80, 91, 37⟩ : ExceptionTableEntry)] (by rw [hex]; rfl) (fun z hz => by cases hz) rfl (by decide) (cx.2.2.2.2 (Cond.classLink RL 31 "java/lang/IndexOutOfBoundsException") (by decide +kernel)) (va_Nw.use rfl (hXs.1.1.2.2.2.2.2 xIO (by decide))) hce hcv hcl ?_
      refine lv_astore (lv' := [(4, .ref q9), (0, .ref (ad 0)), (1, .int 0), (2, .int xa), (3, .int xb)]) cx.1 cx.2.1 dL_does_81 hl (by decide) rfl (fun ls hl => ?_)
      refine lv_ldc (own := RL) (v := (-3000000)) cx.1 cx.2.1 cx.2.2.2.1 (cx.2.2.2.2 (Cond.constant RL 33 (-3000000)) (by decide +kernel)) dL_does_83 ?_
      exact bRet cx hrt hlk rfl hS hP (Or.inr ⟨(xIO, (-3000000)), by decide, h9, rfl, rfl⟩) (Nat.le_of_ble_eq_true rfl) (Nat.le_of_ble_eq_true rfl) dL_does_85
    · rw [h9] at hE
      obtain rfl : xIA = E := Option.some.inj hE
      refine vx_catch (own := RL) (name := xIA) (E := xIA) (hown := cx.2.2.2.1) [(⟨0, 80, 81, 31⟩ : ExceptionTableEntry)] (⟨0, 80, 86, 34⟩ : ExceptionTableEntry) [(⟨0, 80, 91, 37⟩ : ExceptionTableEntry)] (by rw [hex]; rfl) (fun z hz => by
          simp only [List.mem_cons, List.not_mem_nil, or_false] at hz
          rcases hz with rfl
          · exact Or.inr ⟨by decide, xIO, cx.2.2.2.2 (Cond.classLink RL 31 "java/lang/IndexOutOfBoundsException") (by decide +kernel), hXs.2.1⟩) rfl (by decide) (cx.2.2.2.2 (Cond.classLink RL 34 "java/lang/IllegalArgumentException") (by decide +kernel)) (va_Nw.use rfl (hXs.1.1.2.2.2.2.2 xIA (by decide))) hce hcv hcl ?_
      refine lv_astore (lv' := [(4, .ref q9), (0, .ref (ad 0)), (1, .int 0), (2, .int xa), (3, .int xb)]) cx.1 cx.2.1 dL_does_86 hl (by decide) rfl (fun ls hl => ?_)
      refine lv_ldc (own := RL) (v := (-2000000)) cx.1 cx.2.1 cx.2.2.2.1 (cx.2.2.2.2 (Cond.constant RL 36 (-2000000)) (by decide +kernel)) dL_does_88 ?_
      exact bRet cx hrt hlk rfl hS hP (Or.inr ⟨(xIA, (-2000000)), by decide, h9, rfl, rfl⟩) (Nat.le_of_ble_eq_true rfl) (Nat.le_of_ble_eq_true rfl) dL_does_90
    · rw [h9] at hE
      obtain rfl : xIS = E := Option.some.inj hE
      refine vx_catch (own := RL) (name := xIS) (E := xIS) (hown := cx.2.2.2.1) [(⟨0, 80, 81, 31⟩ : ExceptionTableEntry), (⟨0, 80, 86, 34⟩ : ExceptionTableEntry)] (⟨0, 80, 91, 37⟩ : ExceptionTableEntry) [] (by rw [hex]; rfl) (fun z hz => by
          simp only [List.mem_cons, List.not_mem_nil, or_false] at hz
          rcases hz with rfl | rfl
          · exact Or.inr ⟨by decide, xIO, cx.2.2.2.2 (Cond.classLink RL 31 "java/lang/IndexOutOfBoundsException") (by decide +kernel), hXs.2.2.1⟩
          · exact Or.inr ⟨by decide, xIA, cx.2.2.2.2 (Cond.classLink RL 34 "java/lang/IllegalArgumentException") (by decide +kernel), hXs.2.2.2⟩) rfl (by decide) (cx.2.2.2.2 (Cond.classLink RL 37 "java/lang/IllegalStateException") (by decide +kernel)) (va_Nw.use rfl (hXs.1.1.2.2.2.2.2 xIS (by decide))) hce hcv hcl ?_
      refine lv_astore (lv' := [(4, .ref q9), (0, .ref (ad 0)), (1, .int 0), (2, .int xa), (3, .int xb)]) cx.1 cx.2.1 dL_does_91 hl (by decide) rfl (fun ls hl => ?_)
      refine lv_ldc (own := RL) (v := (-1000000)) cx.1 cx.2.1 cx.2.2.2.1 (cx.2.2.2.2 (Cond.constant RL 39 (-1000000)) (by decide +kernel)) dL_does_93 ?_
      exact bRet cx hrt hlk rfl hS hP (Or.inr ⟨(xIS, (-1000000)), by decide, h9, rfl, rfl⟩) (Nat.le_of_ble_eq_true rfl) (Nat.le_of_ble_eq_true rfl) dL_does_95
  · obtain ⟨T0, ⟨h1, h2, h3⟩, h4⟩ := hp
    rw [h4, h2] at hP
    subst h1
    refine lv_goto (tgt := 80) cx.1 cx.2.1 dL_does_10 (by decide) ?_
    exact bRet cx hrt hlk rfl hS hP (Or.inl ⟨h3, rfl, rfl⟩) (Nat.le_of_ble_eq_true rfl) (Nat.le_of_ble_eq_true rfl) dL_does_80

set_option maxHeartbeats 2000000 in
set_option maxRecDepth 100000 in
theorem c_L_does1 (l : Launch) (dC : Nat → ClassId) (dI : Nat → Nat → Nat) (cyI cyB : ClassId) (ad : Nat → Nat) (hI : zI ad 39) (hlf : l.stackTraces = false) (S : zS) (xa : Int32) (xb : Int32) : bMet l (dC, dI) (lTys cyI cyB) ad 39 xL (qw cyI ad) yL_does wsL_does ({ frames := 8, cells := 4, slots := 24, locals := 179 } : Room) [.ref (ad 0), .int 1, .int xa, .int xb] S 4 24 (dPost (t_X6_tear S xa) (f_X6_tear S xa) (g_X6_tear S xa) S) := by
  refine bStartW (by decide) rfl (Nat.le_of_ble_eq_true rfl) ?_
  intro p e s m args below meth c ls cx hrt hlk hex hP hK hXs hl
  have hl : lv_has ls 5 [(0, .ref (ad 0)), (1, .int 1), (2, .int xa), (3, .int xb)] := hl
  have hS : va_S (zA ad 39 s.heap.size) s.heap s.heap [] := va_S.rf
  have hI6 : zI ad 36 := fun i j hi hj => hI i j (by omega) (by omega)
  refine lv_iload_n cx.1 cx.2.1 dL_does_0 rfl (lv_at hl 1 rfl) ?_
  refine lv_if_ne (tgt := 13) cx.1 cx.2.1 dL_does_1 (by decide) (fun c0 => ?_) (fun c0 => ?_)
  rotate_left
  · exact absurd c0 (by decide)
  refine lv_iload_n cx.1 cx.2.1 dL_does_13 rfl (lv_at hl 1 rfl) ?_
  refine lv_iconst (v := 1) cx.1 cx.2.1 dL_does_14 (by decide) ?_
  refine lv_icmp_ne (tgt := 26) cx.1 cx.2.1 dL_does_15 (by decide) (fun c1 => ?_) (fun c1 => ?_)
  · exact absurd c1 (by decide)
  refine lv_aload_n cx.1 cx.2.1 dL_does_18 rfl (lv_at hl 0 rfl) ?_
  refine lv_iload_n cx.1 cx.2.1 dL_does_19 rfl (lv_at hl 2 rfl) ?_
  refine bCallX (As := [.int xa]) (rest := []) 1 cx (xLift (qE_OK cyI ad) hI (fun U h => lTys_I U h) (fun A B U h hAB => xL_T A B U h hAB) (c_X6_tear l dC dI cyI ad hI6 hlf S xa)) gL_does_X6_tear rfl ⟨rfl, rfl⟩ (by decide +kernel) ⟨(Nat.le_of_ble_eq_true rfl), (Nat.le_of_ble_eq_true rfl)⟩ (xL_X ad 39) hXs hK hP hS rfl rfl hl.1 rfl (Nat.le_of_ble_eq_true rfl) dL_does_20 ⟨(Nat.le_of_ble_eq_true rfl), (Nat.le_of_ble_eq_true rfl)⟩ (fun E ce q9 H1 locs1 hE hP hS hce hcv hcl => ?_) (fun r T H1 locs1 hp hP hS => ?_)
  · rcases tE_tear S xa with h9 | h9 | h9
    · rw [h9] at hE
      cases hE
    · rw [h9] at hE
      obtain rfl : xIO = E := Option.some.inj hE
      refine vx_catch (own := RL) (name := xIO) (E := xIO) (hown := cx.2.2.2.1) [] (⟨0, 80, 81, 31⟩ : ExceptionTableEntry) [(⟨0, 80, 86, 34⟩ : ExceptionTableEntry), (⟨0, 80, 91, 37⟩ : ExceptionTableEntry)] (by rw [hex]; rfl) (fun z hz => by cases hz) rfl (by decide) (cx.2.2.2.2 (Cond.classLink RL 31 "java/lang/IndexOutOfBoundsException") (by decide +kernel)) (va_Nw.use rfl (hXs.1.1.2.2.2.2.2 xIO (by decide))) hce hcv hcl ?_
      refine lv_astore (lv' := [(4, .ref q9), (0, .ref (ad 0)), (1, .int 1), (2, .int xa), (3, .int xb)]) cx.1 cx.2.1 dL_does_81 hl (by decide) rfl (fun ls hl => ?_)
      refine lv_ldc (own := RL) (v := (-3000000)) cx.1 cx.2.1 cx.2.2.2.1 (cx.2.2.2.2 (Cond.constant RL 33 (-3000000)) (by decide +kernel)) dL_does_83 ?_
      exact bRet cx hrt hlk rfl hS hP (Or.inr ⟨(xIO, (-3000000)), by decide, h9, rfl, rfl⟩) (Nat.le_of_ble_eq_true rfl) (Nat.le_of_ble_eq_true rfl) dL_does_85
    · rw [h9] at hE
      obtain rfl : xIS = E := Option.some.inj hE
      refine vx_catch (own := RL) (name := xIS) (E := xIS) (hown := cx.2.2.2.1) [(⟨0, 80, 81, 31⟩ : ExceptionTableEntry), (⟨0, 80, 86, 34⟩ : ExceptionTableEntry)] (⟨0, 80, 91, 37⟩ : ExceptionTableEntry) [] (by rw [hex]; rfl) (fun z hz => by
          simp only [List.mem_cons, List.not_mem_nil, or_false] at hz
          rcases hz with rfl | rfl
          · exact Or.inr ⟨by decide, xIO, cx.2.2.2.2 (Cond.classLink RL 31 "java/lang/IndexOutOfBoundsException") (by decide +kernel), hXs.2.2.1⟩
          · exact Or.inr ⟨by decide, xIA, cx.2.2.2.2 (Cond.classLink RL 34 "java/lang/IllegalArgumentException") (by decide +kernel), hXs.2.2.2⟩) rfl (by decide) (cx.2.2.2.2 (Cond.classLink RL 37 "java/lang/IllegalStateException") (by decide +kernel)) (va_Nw.use rfl (hXs.1.1.2.2.2.2.2 xIS (by decide))) hce hcv hcl ?_
      refine lv_astore (lv' := [(4, .ref q9), (0, .ref (ad 0)), (1, .int 1), (2, .int xa), (3, .int xb)]) cx.1 cx.2.1 dL_does_91 hl (by decide) rfl (fun ls hl => ?_)
      refine lv_ldc (own := RL) (v := (-1000000)) cx.1 cx.2.1 cx.2.2.2.1 (cx.2.2.2.2 (Cond.constant RL 39 (-1000000)) (by decide +kernel)) dL_does_93 ?_
      exact bRet cx hrt hlk rfl hS hP (Or.inr ⟨(xIS, (-1000000)), by decide, h9, rfl, rfl⟩) (Nat.le_of_ble_eq_true rfl) (Nat.le_of_ble_eq_true rfl) dL_does_95
  · obtain ⟨T0, ⟨h1, h2, h3⟩, h4⟩ := hp
    rw [h4, h2] at hP
    subst h1
    refine lv_goto (tgt := 80) cx.1 cx.2.1 dL_does_23 (by decide) ?_
    exact bRet cx hrt hlk rfl hS hP (Or.inl ⟨h3, rfl, rfl⟩) (Nat.le_of_ble_eq_true rfl) (Nat.le_of_ble_eq_true rfl) dL_does_80

set_option maxHeartbeats 2000000 in
set_option maxRecDepth 100000 in
theorem c_L_does2_0 (l : Launch) (dC : Nat → ClassId) (dI : Nat → Nat → Nat) (cyI cyB : ClassId) (ad : Nat → Nat) (hI : zI ad 39) (hlf : l.stackTraces = false) (S : zS) (xa : Int32) : bMet l (dC, dI) (lTys cyI cyB) ad 39 xL (qw cyI ad) yL_does wsL_does ({ frames := 8, cells := 4, slots := 24, locals := 179 } : Room) [.ref (ad 0), .int 2, .int xa, .int 0] S 4 24 (dPost (t_X6_setTax S 0 xa) (f_X6_setTax S 0 xa) (g_X6_setTax S 0 xa) S) := by
  refine bStartW (by decide) rfl (Nat.le_of_ble_eq_true rfl) ?_
  intro p e s m args below meth c ls cx hrt hlk hex hP hK hXs hl
  have hl : lv_has ls 5 [(0, .ref (ad 0)), (1, .int 2), (2, .int xa), (3, .int 0)] := hl
  have hS : va_S (zA ad 39 s.heap.size) s.heap s.heap [] := va_S.rf
  have hI6 : zI ad 36 := fun i j hi hj => hI i j (by omega) (by omega)
  refine lv_iload_n cx.1 cx.2.1 dL_does_0 rfl (lv_at hl 1 rfl) ?_
  refine lv_if_ne (tgt := 13) cx.1 cx.2.1 dL_does_1 (by decide) (fun c0 => ?_) (fun c0 => ?_)
  rotate_left
  · exact absurd c0 (by decide)
  refine lv_iload_n cx.1 cx.2.1 dL_does_13 rfl (lv_at hl 1 rfl) ?_
  refine lv_iconst (v := 1) cx.1 cx.2.1 dL_does_14 (by decide) ?_
  refine lv_icmp_ne (tgt := 26) cx.1 cx.2.1 dL_does_15 (by decide) (fun c1 => ?_) (fun c1 => ?_)
  rotate_left
  · exact absurd c1 (by decide)
  refine lv_iload_n cx.1 cx.2.1 dL_does_26 rfl (lv_at hl 1 rfl) ?_
  refine lv_iconst (v := 2) cx.1 cx.2.1 dL_does_27 (by decide) ?_
  refine lv_icmp_ne (tgt := 49) cx.1 cx.2.1 dL_does_28 (by decide) (fun c2 => ?_) (fun c2 => ?_)
  · exact absurd c2 (by decide)
  refine lv_aload_n cx.1 cx.2.1 dL_does_31 rfl (lv_at hl 0 rfl) ?_
  refine lv_iload_n cx.1 cx.2.1 dL_does_32 rfl (lv_at hl 3 rfl) ?_
  refine lv_iconst (v := 1) cx.1 cx.2.1 dL_does_33 (by decide) ?_
  refine lv_icmp_ne (tgt := 41) cx.1 cx.2.1 dL_does_34 (by decide) (fun cb => ?_) (fun cb => ?_)
  rotate_left
  · exact absurd cb (by decide)
  refine lv_iconst (v := 0) cx.1 cx.2.1 dL_does_41 (by decide) ?_
  refine lv_iload_n cx.1 cx.2.1 dL_does_42 rfl (lv_at hl 2 rfl) ?_
  refine bCallX (As := [.int 0, .int xa]) (rest := []) 2 cx (xLift (qE_OK cyI ad) hI (fun U h => lTys_I U h) (fun A B U h hAB => xL_T A B U h hAB) (c_X6_setTax l dC dI cyI ad hI6 hlf S 0 xa)) gL_does_X6_setTax rfl ⟨rfl, rfl⟩ (by decide +kernel) ⟨(Nat.le_of_ble_eq_true rfl), (Nat.le_of_ble_eq_true rfl)⟩ (xL_X ad 39) hXs hK hP hS rfl rfl hl.1 rfl (Nat.le_of_ble_eq_true rfl) dL_does_43 ⟨(Nat.le_of_ble_eq_true rfl), (Nat.le_of_ble_eq_true rfl)⟩ (fun E ce q9 H1 locs1 hE hP hS hce hcv hcl => ?_) (fun r T H1 locs1 hp hP hS => ?_)
  · rcases tE_setTax S 0 xa with h9 | h9
    · rw [h9] at hE
      cases hE
    · rw [h9] at hE
      obtain rfl : xIA = E := Option.some.inj hE
      refine vx_catch (own := RL) (name := xIA) (E := xIA) (hown := cx.2.2.2.1) [(⟨0, 80, 81, 31⟩ : ExceptionTableEntry)] (⟨0, 80, 86, 34⟩ : ExceptionTableEntry) [(⟨0, 80, 91, 37⟩ : ExceptionTableEntry)] (by rw [hex]; rfl) (fun z hz => by
          simp only [List.mem_cons, List.not_mem_nil, or_false] at hz
          rcases hz with rfl
          · exact Or.inr ⟨by decide, xIO, cx.2.2.2.2 (Cond.classLink RL 31 "java/lang/IndexOutOfBoundsException") (by decide +kernel), hXs.2.1⟩) rfl (by decide) (cx.2.2.2.2 (Cond.classLink RL 34 "java/lang/IllegalArgumentException") (by decide +kernel)) (va_Nw.use rfl (hXs.1.1.2.2.2.2.2 xIA (by decide))) hce hcv hcl ?_
      refine lv_astore (lv' := [(4, .ref q9), (0, .ref (ad 0)), (1, .int 2), (2, .int xa), (3, .int 0)]) cx.1 cx.2.1 dL_does_86 hl (by decide) rfl (fun ls hl => ?_)
      refine lv_ldc (own := RL) (v := (-2000000)) cx.1 cx.2.1 cx.2.2.2.1 (cx.2.2.2.2 (Cond.constant RL 36 (-2000000)) (by decide +kernel)) dL_does_88 ?_
      exact bRet cx hrt hlk rfl hS hP (Or.inr ⟨(xIA, (-2000000)), by decide, h9, rfl, rfl⟩) (Nat.le_of_ble_eq_true rfl) (Nat.le_of_ble_eq_true rfl) dL_does_90
  · obtain ⟨T0, ⟨h1, h2, h3⟩, h4⟩ := hp
    rw [h4, h2] at hP
    subst h1
    refine lv_goto (tgt := 80) cx.1 cx.2.1 dL_does_46 (by decide) ?_
    exact bRet cx hrt hlk rfl hS hP (Or.inl ⟨h3, rfl, rfl⟩) (Nat.le_of_ble_eq_true rfl) (Nat.le_of_ble_eq_true rfl) dL_does_80

set_option maxHeartbeats 2000000 in
set_option maxRecDepth 100000 in
theorem c_L_does2_1 (l : Launch) (dC : Nat → ClassId) (dI : Nat → Nat → Nat) (cyI cyB : ClassId) (ad : Nat → Nat) (hI : zI ad 39) (hlf : l.stackTraces = false) (S : zS) (xa : Int32) : bMet l (dC, dI) (lTys cyI cyB) ad 39 xL (qw cyI ad) yL_does wsL_does ({ frames := 8, cells := 4, slots := 24, locals := 179 } : Room) [.ref (ad 0), .int 2, .int xa, .int 1] S 4 24 (dPost (t_X6_setTax S 1 xa) (f_X6_setTax S 1 xa) (g_X6_setTax S 1 xa) S) := by
  refine bStartW (by decide) rfl (Nat.le_of_ble_eq_true rfl) ?_
  intro p e s m args below meth c ls cx hrt hlk hex hP hK hXs hl
  have hl : lv_has ls 5 [(0, .ref (ad 0)), (1, .int 2), (2, .int xa), (3, .int 1)] := hl
  have hS : va_S (zA ad 39 s.heap.size) s.heap s.heap [] := va_S.rf
  have hI6 : zI ad 36 := fun i j hi hj => hI i j (by omega) (by omega)
  refine lv_iload_n cx.1 cx.2.1 dL_does_0 rfl (lv_at hl 1 rfl) ?_
  refine lv_if_ne (tgt := 13) cx.1 cx.2.1 dL_does_1 (by decide) (fun c0 => ?_) (fun c0 => ?_)
  rotate_left
  · exact absurd c0 (by decide)
  refine lv_iload_n cx.1 cx.2.1 dL_does_13 rfl (lv_at hl 1 rfl) ?_
  refine lv_iconst (v := 1) cx.1 cx.2.1 dL_does_14 (by decide) ?_
  refine lv_icmp_ne (tgt := 26) cx.1 cx.2.1 dL_does_15 (by decide) (fun c1 => ?_) (fun c1 => ?_)
  rotate_left
  · exact absurd c1 (by decide)
  refine lv_iload_n cx.1 cx.2.1 dL_does_26 rfl (lv_at hl 1 rfl) ?_
  refine lv_iconst (v := 2) cx.1 cx.2.1 dL_does_27 (by decide) ?_
  refine lv_icmp_ne (tgt := 49) cx.1 cx.2.1 dL_does_28 (by decide) (fun c2 => ?_) (fun c2 => ?_)
  · exact absurd c2 (by decide)
  refine lv_aload_n cx.1 cx.2.1 dL_does_31 rfl (lv_at hl 0 rfl) ?_
  refine lv_iload_n cx.1 cx.2.1 dL_does_32 rfl (lv_at hl 3 rfl) ?_
  refine lv_iconst (v := 1) cx.1 cx.2.1 dL_does_33 (by decide) ?_
  refine lv_icmp_ne (tgt := 41) cx.1 cx.2.1 dL_does_34 (by decide) (fun cb => ?_) (fun cb => ?_)
  · exact absurd rfl cb
  refine lv_iconst (v := 1) cx.1 cx.2.1 dL_does_37 (by decide) ?_
  refine lv_goto (tgt := 42) cx.1 cx.2.1 dL_does_38 (by decide) ?_
  refine lv_iload_n cx.1 cx.2.1 dL_does_42 rfl (lv_at hl 2 rfl) ?_
  refine bCallX (As := [.int 1, .int xa]) (rest := []) 2 cx (xLift (qE_OK cyI ad) hI (fun U h => lTys_I U h) (fun A B U h hAB => xL_T A B U h hAB) (c_X6_setTax l dC dI cyI ad hI6 hlf S 1 xa)) gL_does_X6_setTax rfl ⟨rfl, rfl⟩ (by decide +kernel) ⟨(Nat.le_of_ble_eq_true rfl), (Nat.le_of_ble_eq_true rfl)⟩ (xL_X ad 39) hXs hK hP hS rfl rfl hl.1 rfl (Nat.le_of_ble_eq_true rfl) dL_does_43 ⟨(Nat.le_of_ble_eq_true rfl), (Nat.le_of_ble_eq_true rfl)⟩ (fun E ce q9 H1 locs1 hE hP hS hce hcv hcl => ?_) (fun r T H1 locs1 hp hP hS => ?_)
  · rcases tE_setTax S 1 xa with h9 | h9
    · rw [h9] at hE
      cases hE
    · rw [h9] at hE
      obtain rfl : xIA = E := Option.some.inj hE
      refine vx_catch (own := RL) (name := xIA) (E := xIA) (hown := cx.2.2.2.1) [(⟨0, 80, 81, 31⟩ : ExceptionTableEntry)] (⟨0, 80, 86, 34⟩ : ExceptionTableEntry) [(⟨0, 80, 91, 37⟩ : ExceptionTableEntry)] (by rw [hex]; rfl) (fun z hz => by
          simp only [List.mem_cons, List.not_mem_nil, or_false] at hz
          rcases hz with rfl
          · exact Or.inr ⟨by decide, xIO, cx.2.2.2.2 (Cond.classLink RL 31 "java/lang/IndexOutOfBoundsException") (by decide +kernel), hXs.2.1⟩) rfl (by decide) (cx.2.2.2.2 (Cond.classLink RL 34 "java/lang/IllegalArgumentException") (by decide +kernel)) (va_Nw.use rfl (hXs.1.1.2.2.2.2.2 xIA (by decide))) hce hcv hcl ?_
      refine lv_astore (lv' := [(4, .ref q9), (0, .ref (ad 0)), (1, .int 2), (2, .int xa), (3, .int 1)]) cx.1 cx.2.1 dL_does_86 hl (by decide) rfl (fun ls hl => ?_)
      refine lv_ldc (own := RL) (v := (-2000000)) cx.1 cx.2.1 cx.2.2.2.1 (cx.2.2.2.2 (Cond.constant RL 36 (-2000000)) (by decide +kernel)) dL_does_88 ?_
      exact bRet cx hrt hlk rfl hS hP (Or.inr ⟨(xIA, (-2000000)), by decide, h9, rfl, rfl⟩) (Nat.le_of_ble_eq_true rfl) (Nat.le_of_ble_eq_true rfl) dL_does_90
  · obtain ⟨T0, ⟨h1, h2, h3⟩, h4⟩ := hp
    rw [h4, h2] at hP
    subst h1
    refine lv_goto (tgt := 80) cx.1 cx.2.1 dL_does_46 (by decide) ?_
    exact bRet cx hrt hlk rfl hS hP (Or.inl ⟨h3, rfl, rfl⟩) (Nat.le_of_ble_eq_true rfl) (Nat.le_of_ble_eq_true rfl) dL_does_80

set_option maxHeartbeats 2000000 in
set_option maxRecDepth 100000 in
theorem c_L_does3 (l : Launch) (dC : Nat → ClassId) (dI : Nat → Nat → Nat) (cyI cyB : ClassId) (ad : Nat → Nat) (hI : zI ad 39) (hlf : l.stackTraces = false) (S : zS) (xa : Int32) (xb : Int32) : bMet l (dC, dI) (lTys cyI cyB) ad 39 xL (qw cyI ad) yL_does wsL_does ({ frames := 8, cells := 4, slots := 24, locals := 179 } : Room) [.ref (ad 0), .int 3, .int xa, .int xb] S 4 24 (dPost (t_X6_borrow S xa) (f_X6_borrow S xa) (g_X6_borrow S xa) S) := by
  refine bStartW (by decide) rfl (Nat.le_of_ble_eq_true rfl) ?_
  intro p e s m args below meth c ls cx hrt hlk hex hP hK hXs hl
  have hl : lv_has ls 5 [(0, .ref (ad 0)), (1, .int 3), (2, .int xa), (3, .int xb)] := hl
  have hS : va_S (zA ad 39 s.heap.size) s.heap s.heap [] := va_S.rf
  have hI6 : zI ad 36 := fun i j hi hj => hI i j (by omega) (by omega)
  refine lv_iload_n cx.1 cx.2.1 dL_does_0 rfl (lv_at hl 1 rfl) ?_
  refine lv_if_ne (tgt := 13) cx.1 cx.2.1 dL_does_1 (by decide) (fun c0 => ?_) (fun c0 => ?_)
  rotate_left
  · exact absurd c0 (by decide)
  refine lv_iload_n cx.1 cx.2.1 dL_does_13 rfl (lv_at hl 1 rfl) ?_
  refine lv_iconst (v := 1) cx.1 cx.2.1 dL_does_14 (by decide) ?_
  refine lv_icmp_ne (tgt := 26) cx.1 cx.2.1 dL_does_15 (by decide) (fun c1 => ?_) (fun c1 => ?_)
  rotate_left
  · exact absurd c1 (by decide)
  refine lv_iload_n cx.1 cx.2.1 dL_does_26 rfl (lv_at hl 1 rfl) ?_
  refine lv_iconst (v := 2) cx.1 cx.2.1 dL_does_27 (by decide) ?_
  refine lv_icmp_ne (tgt := 49) cx.1 cx.2.1 dL_does_28 (by decide) (fun c2 => ?_) (fun c2 => ?_)
  rotate_left
  · exact absurd c2 (by decide)
  refine lv_iload_n cx.1 cx.2.1 dL_does_49 rfl (lv_at hl 1 rfl) ?_
  refine lv_iconst (v := 3) cx.1 cx.2.1 dL_does_50 (by decide) ?_
  refine lv_icmp_ne (tgt := 62) cx.1 cx.2.1 dL_does_51 (by decide) (fun c3 => ?_) (fun c3 => ?_)
  · exact absurd c3 (by decide)
  refine lv_aload_n cx.1 cx.2.1 dL_does_54 rfl (lv_at hl 0 rfl) ?_
  refine lv_iload_n cx.1 cx.2.1 dL_does_55 rfl (lv_at hl 2 rfl) ?_
  refine bCallX (As := [.int xa]) (rest := []) 1 cx (xLift (qE_OK cyI ad) hI (fun U h => lTys_I U h) (fun A B U h hAB => xL_T A B U h hAB) (c_X6_borrow l dC dI cyI ad hI6 hlf S xa)) gL_does_X6_borrow rfl ⟨rfl, rfl⟩ (by decide +kernel) ⟨(Nat.le_of_ble_eq_true rfl), (Nat.le_of_ble_eq_true rfl)⟩ (xL_X ad 39) hXs hK hP hS rfl rfl hl.1 rfl (Nat.le_of_ble_eq_true rfl) dL_does_56 ⟨(Nat.le_of_ble_eq_true rfl), (Nat.le_of_ble_eq_true rfl)⟩ (fun E ce q9 H1 locs1 hE hP hS hce hcv hcl => ?_) (fun r T H1 locs1 hp hP hS => ?_)
  · rcases tE_borrow S xa with h9 | h9 | h9
    · rw [h9] at hE
      cases hE
    · rw [h9] at hE
      obtain rfl : xIA = E := Option.some.inj hE
      refine vx_catch (own := RL) (name := xIA) (E := xIA) (hown := cx.2.2.2.1) [(⟨0, 80, 81, 31⟩ : ExceptionTableEntry)] (⟨0, 80, 86, 34⟩ : ExceptionTableEntry) [(⟨0, 80, 91, 37⟩ : ExceptionTableEntry)] (by rw [hex]; rfl) (fun z hz => by
          simp only [List.mem_cons, List.not_mem_nil, or_false] at hz
          rcases hz with rfl
          · exact Or.inr ⟨by decide, xIO, cx.2.2.2.2 (Cond.classLink RL 31 "java/lang/IndexOutOfBoundsException") (by decide +kernel), hXs.2.1⟩) rfl (by decide) (cx.2.2.2.2 (Cond.classLink RL 34 "java/lang/IllegalArgumentException") (by decide +kernel)) (va_Nw.use rfl (hXs.1.1.2.2.2.2.2 xIA (by decide))) hce hcv hcl ?_
      refine lv_astore (lv' := [(4, .ref q9), (0, .ref (ad 0)), (1, .int 3), (2, .int xa), (3, .int xb)]) cx.1 cx.2.1 dL_does_86 hl (by decide) rfl (fun ls hl => ?_)
      refine lv_ldc (own := RL) (v := (-2000000)) cx.1 cx.2.1 cx.2.2.2.1 (cx.2.2.2.2 (Cond.constant RL 36 (-2000000)) (by decide +kernel)) dL_does_88 ?_
      exact bRet cx hrt hlk rfl hS hP (Or.inr ⟨(xIA, (-2000000)), by decide, h9, rfl, rfl⟩) (Nat.le_of_ble_eq_true rfl) (Nat.le_of_ble_eq_true rfl) dL_does_90
    · rw [h9] at hE
      obtain rfl : xIS = E := Option.some.inj hE
      refine vx_catch (own := RL) (name := xIS) (E := xIS) (hown := cx.2.2.2.1) [(⟨0, 80, 81, 31⟩ : ExceptionTableEntry), (⟨0, 80, 86, 34⟩ : ExceptionTableEntry)] (⟨0, 80, 91, 37⟩ : ExceptionTableEntry) [] (by rw [hex]; rfl) (fun z hz => by
          simp only [List.mem_cons, List.not_mem_nil, or_false] at hz
          rcases hz with rfl | rfl
          · exact Or.inr ⟨by decide, xIO, cx.2.2.2.2 (Cond.classLink RL 31 "java/lang/IndexOutOfBoundsException") (by decide +kernel), hXs.2.2.1⟩
          · exact Or.inr ⟨by decide, xIA, cx.2.2.2.2 (Cond.classLink RL 34 "java/lang/IllegalArgumentException") (by decide +kernel), hXs.2.2.2⟩) rfl (by decide) (cx.2.2.2.2 (Cond.classLink RL 37 "java/lang/IllegalStateException") (by decide +kernel)) (va_Nw.use rfl (hXs.1.1.2.2.2.2.2 xIS (by decide))) hce hcv hcl ?_
      refine lv_astore (lv' := [(4, .ref q9), (0, .ref (ad 0)), (1, .int 3), (2, .int xa), (3, .int xb)]) cx.1 cx.2.1 dL_does_91 hl (by decide) rfl (fun ls hl => ?_)
      refine lv_ldc (own := RL) (v := (-1000000)) cx.1 cx.2.1 cx.2.2.2.1 (cx.2.2.2.2 (Cond.constant RL 39 (-1000000)) (by decide +kernel)) dL_does_93 ?_
      exact bRet cx hrt hlk rfl hS hP (Or.inr ⟨(xIS, (-1000000)), by decide, h9, rfl, rfl⟩) (Nat.le_of_ble_eq_true rfl) (Nat.le_of_ble_eq_true rfl) dL_does_95
  · obtain ⟨T0, ⟨h1, h2, h3⟩, h4⟩ := hp
    rw [h4, h2] at hP
    subst h1
    refine lv_goto (tgt := 80) cx.1 cx.2.1 dL_does_59 (by decide) ?_
    exact bRet cx hrt hlk rfl hS hP (Or.inl ⟨h3, rfl, rfl⟩) (Nat.le_of_ble_eq_true rfl) (Nat.le_of_ble_eq_true rfl) dL_does_80

set_option maxHeartbeats 2000000 in
set_option maxRecDepth 100000 in
theorem c_L_does4 (l : Launch) (dC : Nat → ClassId) (dI : Nat → Nat → Nat) (cyI cyB : ClassId) (ad : Nat → Nat) (hI : zI ad 39) (hlf : l.stackTraces = false) (S : zS) (xa : Int32) (xb : Int32) : bMet l (dC, dI) (lTys cyI cyB) ad 39 xL (qw cyI ad) yL_does wsL_does ({ frames := 8, cells := 4, slots := 24, locals := 179 } : Room) [.ref (ad 0), .int 4, .int xa, .int xb] S 4 24 (dPost (t_X6_repay S xa) (f_X6_repay S xa) (g_X6_repay S xa) S) := by
  refine bStartW (by decide) rfl (Nat.le_of_ble_eq_true rfl) ?_
  intro p e s m args below meth c ls cx hrt hlk hex hP hK hXs hl
  have hl : lv_has ls 5 [(0, .ref (ad 0)), (1, .int 4), (2, .int xa), (3, .int xb)] := hl
  have hS : va_S (zA ad 39 s.heap.size) s.heap s.heap [] := va_S.rf
  have hI6 : zI ad 36 := fun i j hi hj => hI i j (by omega) (by omega)
  refine lv_iload_n cx.1 cx.2.1 dL_does_0 rfl (lv_at hl 1 rfl) ?_
  refine lv_if_ne (tgt := 13) cx.1 cx.2.1 dL_does_1 (by decide) (fun c0 => ?_) (fun c0 => ?_)
  rotate_left
  · exact absurd c0 (by decide)
  refine lv_iload_n cx.1 cx.2.1 dL_does_13 rfl (lv_at hl 1 rfl) ?_
  refine lv_iconst (v := 1) cx.1 cx.2.1 dL_does_14 (by decide) ?_
  refine lv_icmp_ne (tgt := 26) cx.1 cx.2.1 dL_does_15 (by decide) (fun c1 => ?_) (fun c1 => ?_)
  rotate_left
  · exact absurd c1 (by decide)
  refine lv_iload_n cx.1 cx.2.1 dL_does_26 rfl (lv_at hl 1 rfl) ?_
  refine lv_iconst (v := 2) cx.1 cx.2.1 dL_does_27 (by decide) ?_
  refine lv_icmp_ne (tgt := 49) cx.1 cx.2.1 dL_does_28 (by decide) (fun c2 => ?_) (fun c2 => ?_)
  rotate_left
  · exact absurd c2 (by decide)
  refine lv_iload_n cx.1 cx.2.1 dL_does_49 rfl (lv_at hl 1 rfl) ?_
  refine lv_iconst (v := 3) cx.1 cx.2.1 dL_does_50 (by decide) ?_
  refine lv_icmp_ne (tgt := 62) cx.1 cx.2.1 dL_does_51 (by decide) (fun c3 => ?_) (fun c3 => ?_)
  rotate_left
  · exact absurd c3 (by decide)
  refine lv_iload_n cx.1 cx.2.1 dL_does_62 rfl (lv_at hl 1 rfl) ?_
  refine lv_iconst (v := 4) cx.1 cx.2.1 dL_does_63 (by decide) ?_
  refine lv_icmp_ne (tgt := 75) cx.1 cx.2.1 dL_does_64 (by decide) (fun c4 => ?_) (fun c4 => ?_)
  · exact absurd c4 (by decide)
  refine lv_aload_n cx.1 cx.2.1 dL_does_67 rfl (lv_at hl 0 rfl) ?_
  refine lv_iload_n cx.1 cx.2.1 dL_does_68 rfl (lv_at hl 2 rfl) ?_
  refine bCallX (As := [.int xa]) (rest := []) 1 cx (xLift (qE_OK cyI ad) hI (fun U h => lTys_I U h) (fun A B U h hAB => xL_T A B U h hAB) (c_X6_repay l dC dI cyI ad hI6 hlf S xa)) gL_does_X6_repay rfl ⟨rfl, rfl⟩ (by decide +kernel) ⟨(Nat.le_of_ble_eq_true rfl), (Nat.le_of_ble_eq_true rfl)⟩ (xL_X ad 39) hXs hK hP hS rfl rfl hl.1 rfl (Nat.le_of_ble_eq_true rfl) dL_does_69 ⟨(Nat.le_of_ble_eq_true rfl), (Nat.le_of_ble_eq_true rfl)⟩ (fun E ce q9 H1 locs1 hE hP hS hce hcv hcl => ?_) (fun r T H1 locs1 hp hP hS => ?_)
  · rcases tE_repay S xa with h9 | h9 | h9
    · rw [h9] at hE
      cases hE
    · rw [h9] at hE
      obtain rfl : xIA = E := Option.some.inj hE
      refine vx_catch (own := RL) (name := xIA) (E := xIA) (hown := cx.2.2.2.1) [(⟨0, 80, 81, 31⟩ : ExceptionTableEntry)] (⟨0, 80, 86, 34⟩ : ExceptionTableEntry) [(⟨0, 80, 91, 37⟩ : ExceptionTableEntry)] (by rw [hex]; rfl) (fun z hz => by
          simp only [List.mem_cons, List.not_mem_nil, or_false] at hz
          rcases hz with rfl
          · exact Or.inr ⟨by decide, xIO, cx.2.2.2.2 (Cond.classLink RL 31 "java/lang/IndexOutOfBoundsException") (by decide +kernel), hXs.2.1⟩) rfl (by decide) (cx.2.2.2.2 (Cond.classLink RL 34 "java/lang/IllegalArgumentException") (by decide +kernel)) (va_Nw.use rfl (hXs.1.1.2.2.2.2.2 xIA (by decide))) hce hcv hcl ?_
      refine lv_astore (lv' := [(4, .ref q9), (0, .ref (ad 0)), (1, .int 4), (2, .int xa), (3, .int xb)]) cx.1 cx.2.1 dL_does_86 hl (by decide) rfl (fun ls hl => ?_)
      refine lv_ldc (own := RL) (v := (-2000000)) cx.1 cx.2.1 cx.2.2.2.1 (cx.2.2.2.2 (Cond.constant RL 36 (-2000000)) (by decide +kernel)) dL_does_88 ?_
      exact bRet cx hrt hlk rfl hS hP (Or.inr ⟨(xIA, (-2000000)), by decide, h9, rfl, rfl⟩) (Nat.le_of_ble_eq_true rfl) (Nat.le_of_ble_eq_true rfl) dL_does_90
    · rw [h9] at hE
      obtain rfl : xIS = E := Option.some.inj hE
      refine vx_catch (own := RL) (name := xIS) (E := xIS) (hown := cx.2.2.2.1) [(⟨0, 80, 81, 31⟩ : ExceptionTableEntry), (⟨0, 80, 86, 34⟩ : ExceptionTableEntry)] (⟨0, 80, 91, 37⟩ : ExceptionTableEntry) [] (by rw [hex]; rfl) (fun z hz => by
          simp only [List.mem_cons, List.not_mem_nil, or_false] at hz
          rcases hz with rfl | rfl
          · exact Or.inr ⟨by decide, xIO, cx.2.2.2.2 (Cond.classLink RL 31 "java/lang/IndexOutOfBoundsException") (by decide +kernel), hXs.2.2.1⟩
          · exact Or.inr ⟨by decide, xIA, cx.2.2.2.2 (Cond.classLink RL 34 "java/lang/IllegalArgumentException") (by decide +kernel), hXs.2.2.2⟩) rfl (by decide) (cx.2.2.2.2 (Cond.classLink RL 37 "java/lang/IllegalStateException") (by decide +kernel)) (va_Nw.use rfl (hXs.1.1.2.2.2.2.2 xIS (by decide))) hce hcv hcl ?_
      refine lv_astore (lv' := [(4, .ref q9), (0, .ref (ad 0)), (1, .int 4), (2, .int xa), (3, .int xb)]) cx.1 cx.2.1 dL_does_91 hl (by decide) rfl (fun ls hl => ?_)
      refine lv_ldc (own := RL) (v := (-1000000)) cx.1 cx.2.1 cx.2.2.2.1 (cx.2.2.2.2 (Cond.constant RL 39 (-1000000)) (by decide +kernel)) dL_does_93 ?_
      exact bRet cx hrt hlk rfl hS hP (Or.inr ⟨(xIS, (-1000000)), by decide, h9, rfl, rfl⟩) (Nat.le_of_ble_eq_true rfl) (Nat.le_of_ble_eq_true rfl) dL_does_95
  · obtain ⟨T0, ⟨h1, h2, h3⟩, h4⟩ := hp
    rw [h4, h2] at hP
    subst h1
    refine lv_goto (tgt := 80) cx.1 cx.2.1 dL_does_72 (by decide) ?_
    exact bRet cx hrt hlk rfl hS hP (Or.inl ⟨h3, rfl, rfl⟩) (Nat.le_of_ble_eq_true rfl) (Nat.le_of_ble_eq_true rfl) dL_does_80

set_option maxHeartbeats 2000000 in
set_option maxRecDepth 100000 in
theorem c_L_does5 (l : Launch) (dC : Nat → ClassId) (dI : Nat → Nat → Nat) (cyI cyB : ClassId) (ad : Nat → Nat) (hI : zI ad 39) (hlf : l.stackTraces = false) (S : zS) (xa : Int32) (xb : Int32) : bMet l (dC, dI) (lTys cyI cyB) ad 39 xL (qw cyI ad) yL_does wsL_does ({ frames := 8, cells := 4, slots := 24, locals := 179 } : Room) [.ref (ad 0), .int 5, .int xa, .int xb] S 4 24 (dPost (t_X6_pass S xa) (f_X6_pass S xa) (g_X6_pass S xa) S) := by
  refine bStartW (by decide) rfl (Nat.le_of_ble_eq_true rfl) ?_
  intro p e s m args below meth c ls cx hrt hlk hex hP hK hXs hl
  have hl : lv_has ls 5 [(0, .ref (ad 0)), (1, .int 5), (2, .int xa), (3, .int xb)] := hl
  have hS : va_S (zA ad 39 s.heap.size) s.heap s.heap [] := va_S.rf
  have hI6 : zI ad 36 := fun i j hi hj => hI i j (by omega) (by omega)
  refine lv_iload_n cx.1 cx.2.1 dL_does_0 rfl (lv_at hl 1 rfl) ?_
  refine lv_if_ne (tgt := 13) cx.1 cx.2.1 dL_does_1 (by decide) (fun c0 => ?_) (fun c0 => ?_)
  rotate_left
  · exact absurd c0 (by decide)
  refine lv_iload_n cx.1 cx.2.1 dL_does_13 rfl (lv_at hl 1 rfl) ?_
  refine lv_iconst (v := 1) cx.1 cx.2.1 dL_does_14 (by decide) ?_
  refine lv_icmp_ne (tgt := 26) cx.1 cx.2.1 dL_does_15 (by decide) (fun c1 => ?_) (fun c1 => ?_)
  rotate_left
  · exact absurd c1 (by decide)
  refine lv_iload_n cx.1 cx.2.1 dL_does_26 rfl (lv_at hl 1 rfl) ?_
  refine lv_iconst (v := 2) cx.1 cx.2.1 dL_does_27 (by decide) ?_
  refine lv_icmp_ne (tgt := 49) cx.1 cx.2.1 dL_does_28 (by decide) (fun c2 => ?_) (fun c2 => ?_)
  rotate_left
  · exact absurd c2 (by decide)
  refine lv_iload_n cx.1 cx.2.1 dL_does_49 rfl (lv_at hl 1 rfl) ?_
  refine lv_iconst (v := 3) cx.1 cx.2.1 dL_does_50 (by decide) ?_
  refine lv_icmp_ne (tgt := 62) cx.1 cx.2.1 dL_does_51 (by decide) (fun c3 => ?_) (fun c3 => ?_)
  rotate_left
  · exact absurd c3 (by decide)
  refine lv_iload_n cx.1 cx.2.1 dL_does_62 rfl (lv_at hl 1 rfl) ?_
  refine lv_iconst (v := 4) cx.1 cx.2.1 dL_does_63 (by decide) ?_
  refine lv_icmp_ne (tgt := 75) cx.1 cx.2.1 dL_does_64 (by decide) (fun c4 => ?_) (fun c4 => ?_)
  rotate_left
  · exact absurd c4 (by decide)
  refine lv_aload_n cx.1 cx.2.1 dL_does_75 rfl (lv_at hl 0 rfl) ?_
  refine lv_iload_n cx.1 cx.2.1 dL_does_76 rfl (lv_at hl 2 rfl) ?_
  refine bCallX (As := [.int xa]) (rest := []) 1 cx (xLift (qE_OK cyI ad) hI (fun U h => lTys_I U h) (fun A B U h hAB => xL_T A B U h hAB) (c_X6_pass l dC dI cyI ad hI6 hlf S xa)) gL_does_X6_pass rfl ⟨rfl, rfl⟩ (by decide +kernel) ⟨(Nat.le_of_ble_eq_true rfl), (Nat.le_of_ble_eq_true rfl)⟩ (xL_X ad 39) hXs hK hP hS rfl rfl hl.1 rfl (Nat.le_of_ble_eq_true rfl) dL_does_77 ⟨(Nat.le_of_ble_eq_true rfl), (Nat.le_of_ble_eq_true rfl)⟩ (fun E ce q9 H1 locs1 hE hP hS hce hcv hcl => ?_) (fun r T H1 locs1 hp hP hS => ?_)
  · rcases tE_pass S xa with h9 | h9
    · rw [h9] at hE
      cases hE
    · rw [h9] at hE
      obtain rfl : xIA = E := Option.some.inj hE
      refine vx_catch (own := RL) (name := xIA) (E := xIA) (hown := cx.2.2.2.1) [(⟨0, 80, 81, 31⟩ : ExceptionTableEntry)] (⟨0, 80, 86, 34⟩ : ExceptionTableEntry) [(⟨0, 80, 91, 37⟩ : ExceptionTableEntry)] (by rw [hex]; rfl) (fun z hz => by
          simp only [List.mem_cons, List.not_mem_nil, or_false] at hz
          rcases hz with rfl
          · exact Or.inr ⟨by decide, xIO, cx.2.2.2.2 (Cond.classLink RL 31 "java/lang/IndexOutOfBoundsException") (by decide +kernel), hXs.2.1⟩) rfl (by decide) (cx.2.2.2.2 (Cond.classLink RL 34 "java/lang/IllegalArgumentException") (by decide +kernel)) (va_Nw.use rfl (hXs.1.1.2.2.2.2.2 xIA (by decide))) hce hcv hcl ?_
      refine lv_astore (lv' := [(4, .ref q9), (0, .ref (ad 0)), (1, .int 5), (2, .int xa), (3, .int xb)]) cx.1 cx.2.1 dL_does_86 hl (by decide) rfl (fun ls hl => ?_)
      refine lv_ldc (own := RL) (v := (-2000000)) cx.1 cx.2.1 cx.2.2.2.1 (cx.2.2.2.2 (Cond.constant RL 36 (-2000000)) (by decide +kernel)) dL_does_88 ?_
      exact bRet cx hrt hlk rfl hS hP (Or.inr ⟨(xIA, (-2000000)), by decide, h9, rfl, rfl⟩) (Nat.le_of_ble_eq_true rfl) (Nat.le_of_ble_eq_true rfl) dL_does_90
  · obtain ⟨T0, ⟨h1, h2, h3⟩, h4⟩ := hp
    rw [h4, h2] at hP
    subst h1
    exact bRet cx hrt hlk rfl hS hP (Or.inl ⟨h3, rfl, rfl⟩) (Nat.le_of_ble_eq_true rfl) (Nat.le_of_ble_eq_true rfl) dL_does_80

set_option maxHeartbeats 2000000 in
set_option maxRecDepth 100000 in
theorem c_L_does5N (l : Launch) (dC : Nat → ClassId) (dI : Nat → Nat → Nat) (cyI cyB : ClassId) (ad : Nat → Nat) (hI : zI ad 41) (hlf : l.stackTraces = false) (S : zS) (xa : Int32) (xb : Int32) : bMet l (dC, dI) (lTys cyI cyB) ad 41 xL (nw cyI ad) yL_does wsL_does ({ frames := 8, cells := 4, slots := 24, locals := 179 } : Room) [.ref (ad 0), .int 5, .int xa, .int xb] S 4 24 (dPost (t_X6_pass S xa) (f_X6_pass S xa) (g_X6_pass S xa) S) := by
  refine bStartW (by decide) rfl (Nat.le_of_ble_eq_true rfl) ?_
  intro p e s m args below meth c ls cx hrt hlk hex hP hK hXs hl
  have hl : lv_has ls 5 [(0, .ref (ad 0)), (1, .int 5), (2, .int xa), (3, .int xb)] := hl
  have hS : va_S (zA ad 41 s.heap.size) s.heap s.heap [] := va_S.rf
  have hI6 : zI ad 36 := fun i j hi hj => hI i j (by omega) (by omega)
  refine lv_iload_n cx.1 cx.2.1 dL_does_0 rfl (lv_at hl 1 rfl) ?_
  refine lv_if_ne (tgt := 13) cx.1 cx.2.1 dL_does_1 (by decide) (fun c0 => ?_) (fun c0 => ?_)
  rotate_left
  · exact absurd c0 (by decide)
  refine lv_iload_n cx.1 cx.2.1 dL_does_13 rfl (lv_at hl 1 rfl) ?_
  refine lv_iconst (v := 1) cx.1 cx.2.1 dL_does_14 (by decide) ?_
  refine lv_icmp_ne (tgt := 26) cx.1 cx.2.1 dL_does_15 (by decide) (fun c1 => ?_) (fun c1 => ?_)
  rotate_left
  · exact absurd c1 (by decide)
  refine lv_iload_n cx.1 cx.2.1 dL_does_26 rfl (lv_at hl 1 rfl) ?_
  refine lv_iconst (v := 2) cx.1 cx.2.1 dL_does_27 (by decide) ?_
  refine lv_icmp_ne (tgt := 49) cx.1 cx.2.1 dL_does_28 (by decide) (fun c2 => ?_) (fun c2 => ?_)
  rotate_left
  · exact absurd c2 (by decide)
  refine lv_iload_n cx.1 cx.2.1 dL_does_49 rfl (lv_at hl 1 rfl) ?_
  refine lv_iconst (v := 3) cx.1 cx.2.1 dL_does_50 (by decide) ?_
  refine lv_icmp_ne (tgt := 62) cx.1 cx.2.1 dL_does_51 (by decide) (fun c3 => ?_) (fun c3 => ?_)
  rotate_left
  · exact absurd c3 (by decide)
  refine lv_iload_n cx.1 cx.2.1 dL_does_62 rfl (lv_at hl 1 rfl) ?_
  refine lv_iconst (v := 4) cx.1 cx.2.1 dL_does_63 (by decide) ?_
  refine lv_icmp_ne (tgt := 75) cx.1 cx.2.1 dL_does_64 (by decide) (fun c4 => ?_) (fun c4 => ?_)
  rotate_left
  · exact absurd c4 (by decide)
  refine lv_aload_n cx.1 cx.2.1 dL_does_75 rfl (lv_at hl 0 rfl) ?_
  refine lv_iload_n cx.1 cx.2.1 dL_does_76 rfl (lv_at hl 2 rfl) ?_
  refine bCallX (As := [.int xa]) (rest := []) 1 cx (xLift (nE_OK cyI ad) hI (fun U h => lTys_I U h) (fun A B U h hAB => xL_T A B U h hAB) (c_X6_pass l dC dI cyI ad hI6 hlf S xa)) gL_does_X6_pass rfl ⟨rfl, rfl⟩ (by decide +kernel) ⟨(Nat.le_of_ble_eq_true rfl), (Nat.le_of_ble_eq_true rfl)⟩ (xL_X ad 41) hXs hK hP hS rfl rfl hl.1 rfl (Nat.le_of_ble_eq_true rfl) dL_does_77 ⟨(Nat.le_of_ble_eq_true rfl), (Nat.le_of_ble_eq_true rfl)⟩ (fun E ce q9 H1 locs1 hE hP hS hce hcv hcl => ?_) (fun r T H1 locs1 hp hP hS => ?_)
  · rcases tE_pass S xa with h9 | h9
    · rw [h9] at hE
      cases hE
    · rw [h9] at hE
      obtain rfl : xIA = E := Option.some.inj hE
      refine vx_catch (own := RL) (name := xIA) (E := xIA) (hown := cx.2.2.2.1) [(⟨0, 80, 81, 31⟩ : ExceptionTableEntry)] (⟨0, 80, 86, 34⟩ : ExceptionTableEntry) [(⟨0, 80, 91, 37⟩ : ExceptionTableEntry)] (by rw [hex]; rfl) (fun z hz => by
          simp only [List.mem_cons, List.not_mem_nil, or_false] at hz
          rcases hz with rfl
          · exact Or.inr ⟨by decide, xIO, cx.2.2.2.2 (Cond.classLink RL 31 "java/lang/IndexOutOfBoundsException") (by decide +kernel), hXs.2.1⟩) rfl (by decide) (cx.2.2.2.2 (Cond.classLink RL 34 "java/lang/IllegalArgumentException") (by decide +kernel)) (va_Nw.use rfl (hXs.1.1.2.2.2.2.2 xIA (by decide))) hce hcv hcl ?_
      refine lv_astore (lv' := [(4, .ref q9), (0, .ref (ad 0)), (1, .int 5), (2, .int xa), (3, .int xb)]) cx.1 cx.2.1 dL_does_86 hl (by decide) rfl (fun ls hl => ?_)
      refine lv_ldc (own := RL) (v := (-2000000)) cx.1 cx.2.1 cx.2.2.2.1 (cx.2.2.2.2 (Cond.constant RL 36 (-2000000)) (by decide +kernel)) dL_does_88 ?_
      exact bRet cx hrt hlk rfl hS hP (Or.inr ⟨(xIA, (-2000000)), by decide, h9, rfl, rfl⟩) (Nat.le_of_ble_eq_true rfl) (Nat.le_of_ble_eq_true rfl) dL_does_90
  · obtain ⟨T0, ⟨h1, h2, h3⟩, h4⟩ := hp
    rw [h4, h2] at hP
    subst h1
    exact bRet cx hrt hlk rfl hS hP (Or.inl ⟨h3, rfl, rfl⟩) (Nat.le_of_ble_eq_true rfl) (Nat.le_of_ble_eq_true rfl) dL_does_80
