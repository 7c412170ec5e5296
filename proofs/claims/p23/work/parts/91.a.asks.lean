/-! THE LAW'S METHODS THAT CATCH -/
theorem tq_hi : t_X6_requireCell 64 = some xIO := by decide +kernel
theorem tq_lo : t_X6_requireCell (-1) = some xIO := by decide +kernel
theorem tq_0 : t_X6_requireCell 0 = none := by decide +kernel
theorem tq_in {k : Nat} (hk : k < 64) : t_X6_requireCell (nI k) = none := by
  unfold t_X6_requireCell
  rw [if_neg (nI_pos (by omega)), if_pos (show nI k < 64 from nI_lt (a := k) (b := 64) (by omega) (by omega))]
def dNum : List (String × Int32) := [(xIO, (-3000000)), (xIA, (-2000000)), (xIS, (-1000000))]
def dPost (t : Option String) (f : Int32) (G S : zS) : Int32 → zS → Prop := fun r T => (t = none ∧ r = f ∧ T = mix G S) ∨ ∃ q ∈ dNum, t = some q.1 ∧ r = q.2 ∧ T = S
def sgn (S : zS) (c : Nat) (p : Int32) : Int32 := if p < 0 then (-3000000) else if nI (txL S (nI c)).length ≤ p then (-3000000) else f_X6_sign S (nI c) p
theorem sgn_thr {S : zS} {c : Nat} {p : Int32} {E : String} (hc : c < 64) (h : t_X6_sign S (nI c) p = some E) : xIO = E ∧ sgn S c p = (-3000000) := by
  unfold t_X6_sign at h
  rw [tq_in hc] at h
  unfold sgn
  by_cases c1 : p < 0
  · have h2 : some xIO = some E := by
      rw [if_pos c1] at h
      exact h
    rw [if_pos c1]
    exact ⟨Option.some.inj h2, rfl⟩
  · by_cases c2 : nI (txL S (nI c)).length ≤ p
    · have h2 : some xIO = some E := by
        rw [if_neg c1, if_pos c2] at h
        exact h
      rw [if_neg c1, if_pos c2]
      exact ⟨Option.some.inj h2, rfl⟩
    · have h2 : none = some E := by
        rw [if_neg c1, if_neg c2] at h
        exact h
      cases h2
theorem sgn_ok {S : zS} {c : Nat} {p : Int32} (hc : c < 64) (h : t_X6_sign S (nI c) p = none) : f_X6_sign S (nI c) p = sgn S c p := by
  unfold t_X6_sign at h
  rw [tq_in hc] at h
  unfold sgn
  by_cases c1 : p < 0
  · rw [if_pos c1] at h
    cases h
  · by_cases c2 : nI (txL S (nI c)).length ≤ p
    · rw [if_neg c1, if_pos c2] at h
      cases h
    · rw [if_neg c1, if_neg c2]

set_option maxHeartbeats 2000000 in
set_option maxRecDepth 100000 in
theorem c_L_asks0 (l : Launch) (dC : Nat → ClassId) (dI : Nat → Nat → Nat) (cyI cyB : ClassId) (ad : Nat → Nat) (hI : zI ad 39) (hlf : l.stackTraces = false) (S : zS) : bMet l (dC, dI) (lTys cyI cyB) ad 39 xL (qw cyI ad) yL_asks wsL_asks ({ frames := 13, cells := 8, slots := 64, locals := 423 } : Room) [.ref (ad 0), .int 0, .int 64, .int 0] S 8 64 (fun v T => v = (-3000000) ∧ T = S) := by
  refine bStartW (by decide) rfl (Nat.le_of_ble_eq_true rfl) ?_
  intro p e s m args below meth c ls cx hrt hlk hex hP hK hXs hl
  have hl : lv_has ls 5 [(0, .ref (ad 0)), (1, .int 0), (2, .int 64), (3, .int 0)] := hl
  have hS : va_S (zA ad 39 s.heap.size) s.heap s.heap [] := va_S.rf
  have hI6 : zI ad 36 := fun i j hi hj => hI i j (by omega) (by omega)
  refine lv_iload_n cx.1 cx.2.1 dL_asks_0 rfl (lv_at hl 1 rfl) ?_
  refine lv_if_ne (tgt := 12) cx.1 cx.2.1 dL_asks_1 (by decide) (fun c0 => ?_) (fun c0 => ?_)
  · exact absurd c0 (by decide)
  refine lv_aload_n cx.1 cx.2.1 dL_asks_4 rfl (lv_at hl 0 rfl) ?_
  refine lv_iload_n cx.1 cx.2.1 dL_asks_5 rfl (lv_at hl 2 rfl) ?_
  have ht : t_X6_kind S 64 = some xIO := by
    unfold t_X6_kind
    first | (rw [tq_hi]; rfl) | (rw [tq_lo]; rfl) | (rw [tq_0, tq_hi]; rfl)
  refine bCallX (As := [.int 64]) (rest := []) 1 cx (xLift (qE_OK cyI ad) hI (fun U h => lTys_I U h) (fun A B U h hAB => xL_T A B U h hAB) (c_X6_kind l dC dI cyI ad hI6 hlf S 64)) gL_asks_X6_kind rfl ⟨rfl, rfl⟩ (by decide +kernel) ⟨(Nat.le_of_ble_eq_true rfl), (Nat.le_of_ble_eq_true rfl)⟩ (xL_X ad 39) hXs hK hP hS rfl rfl hl.1 rfl (Nat.le_of_ble_eq_true rfl) dL_asks_6 ⟨(Nat.le_of_ble_eq_true rfl), (Nat.le_of_ble_eq_true rfl)⟩ (fun E ce q9 H1 locs1 hE hP hS hce hcv hcl => ?_) (fun r T H1 locs1 hp hP hS => ?_)
  · rw [ht] at hE
    obtain rfl : xIO = E := Option.some.inj hE
    refine vx_catch (own := RL) (name := xIO) (E := xIO) (hown := cx.2.2.2.1) [] (⟨0, 149, 150, 31⟩ : ExceptionTableEntry) [] (by rw [hex]; rfl) (fun z hz => by cases hz) rfl (by decide) (cx.2.2.2.2 (Cond.classLink RL 31 "java/lang/IndexOutOfBoundsException") (by decide +kernel)) (va_Nw.use rfl (hXs.1.1.2.2.2.2.2 xIO (by decide))) hce hcv hcl ?_
    refine lv_astore (lv' := [(4, .ref q9), (0, .ref (ad 0)), (1, .int 0), (2, .int 64), (3, .int 0)]) cx.1 cx.2.1 dL_asks_150 hl (by decide) rfl (fun ls hl => ?_)
    refine lv_ldc (own := RL) (v := (-3000000)) cx.1 cx.2.1 cx.2.2.2.1 (cx.2.2.2.2 (Cond.constant RL 33 (-3000000)) (by decide +kernel)) dL_asks_152 ?_
    exact bRet cx hrt hlk rfl hS hP ⟨rfl, rfl⟩ (Nat.le_of_ble_eq_true rfl) (Nat.le_of_ble_eq_true rfl) dL_asks_154
  · obtain ⟨T0, ⟨h1, h2, h3⟩, h4⟩ := hp
    rw [ht] at h3
    cases h3

set_option maxHeartbeats 2000000 in
set_option maxRecDepth 100000 in
theorem c_L_asks1 (l : Launch) (dC : Nat → ClassId) (dI : Nat → Nat → Nat) (cyI cyB : ClassId) (ad : Nat → Nat) (hI : zI ad 39) (hlf : l.stackTraces = false) (S : zS) : bMet l (dC, dI) (lTys cyI cyB) ad 39 xL (qw cyI ad) yL_asks wsL_asks ({ frames := 13, cells := 8, slots := 64, locals := 423 } : Room) [.ref (ad 0), .int 1, .int (-1), .int 0] S 8 64 (fun v T => v = (-3000000) ∧ T = S) := by
  refine bStartW (by decide) rfl (Nat.le_of_ble_eq_true rfl) ?_
  intro p e s m args below meth c ls cx hrt hlk hex hP hK hXs hl
  have hl : lv_has ls 5 [(0, .ref (ad 0)), (1, .int 1), (2, .int (-1)), (3, .int 0)] := hl
  have hS : va_S (zA ad 39 s.heap.size) s.heap s.heap [] := va_S.rf
  have hI6 : zI ad 36 := fun i j hi hj => hI i j (by omega) (by omega)
  refine lv_iload_n cx.1 cx.2.1 dL_asks_0 rfl (lv_at hl 1 rfl) ?_
  refine lv_if_ne (tgt := 12) cx.1 cx.2.1 dL_asks_1 (by decide) (fun c0 => ?_) (fun c0 => ?_)
  rotate_left
  · exact absurd c0 (by decide)
  refine lv_iload_n cx.1 cx.2.1 dL_asks_12 rfl (lv_at hl 1 rfl) ?_
  refine lv_iconst (v := 1) cx.1 cx.2.1 dL_asks_13 (by decide) ?_
  refine lv_icmp_ne (tgt := 25) cx.1 cx.2.1 dL_asks_14 (by decide) (fun c1 => ?_) (fun c1 => ?_)
  · exact absurd c1 (by decide)
  refine lv_aload_n cx.1 cx.2.1 dL_asks_17 rfl (lv_at hl 0 rfl) ?_
  refine lv_iload_n cx.1 cx.2.1 dL_asks_18 rfl (lv_at hl 2 rfl) ?_
  have ht : t_X6_level S (-1) = some xIO := by
    unfold t_X6_level
    first | (rw [tq_hi]; rfl) | (rw [tq_lo]; rfl) | (rw [tq_0, tq_hi]; rfl)
  refine bCallX (As := [.int (-1)]) (rest := []) 1 cx (xLift (qE_OK cyI ad) hI (fun U h => lTys_I U h) (fun A B U h hAB => xL_T A B U h hAB) (c_X6_level l dC dI cyI ad hI6 hlf S (-1))) gL_asks_X6_level rfl ⟨rfl, rfl⟩ (by decide +kernel) ⟨(Nat.le_of_ble_eq_true rfl), (Nat.le_of_ble_eq_true rfl)⟩ (xL_X ad 39) hXs hK hP hS rfl rfl hl.1 rfl (Nat.le_of_ble_eq_true rfl) dL_asks_19 ⟨(Nat.le_of_ble_eq_true rfl), (Nat.le_of_ble_eq_true rfl)⟩ (fun E ce q9 H1 locs1 hE hP hS hce hcv hcl => ?_) (fun r T H1 locs1 hp hP hS => ?_)
  · rw [ht] at hE
    obtain rfl : xIO = E := Option.some.inj hE
    refine vx_catch (own := RL) (name := xIO) (E := xIO) (hown := cx.2.2.2.1) [] (⟨0, 149, 150, 31⟩ : ExceptionTableEntry) [] (by rw [hex]; rfl) (fun z hz => by cases hz) rfl (by decide) (cx.2.2.2.2 (Cond.classLink RL 31 "java/lang/IndexOutOfBoundsException") (by decide +kernel)) (va_Nw.use rfl (hXs.1.1.2.2.2.2.2 xIO (by decide))) hce hcv hcl ?_
    refine lv_astore (lv' := [(4, .ref q9), (0, .ref (ad 0)), (1, .int 1), (2, .int (-1)), (3, .int 0)]) cx.1 cx.2.1 dL_asks_150 hl (by decide) rfl (fun ls hl => ?_)
    refine lv_ldc (own := RL) (v := (-3000000)) cx.1 cx.2.1 cx.2.2.2.1 (cx.2.2.2.2 (Cond.constant RL 33 (-3000000)) (by decide +kernel)) dL_asks_152 ?_
    exact bRet cx hrt hlk rfl hS hP ⟨rfl, rfl⟩ (Nat.le_of_ble_eq_true rfl) (Nat.le_of_ble_eq_true rfl) dL_asks_154
  · obtain ⟨T0, ⟨h1, h2, h3⟩, h4⟩ := hp
    rw [ht] at h3
    cases h3

set_option maxHeartbeats 2000000 in
set_option maxRecDepth 100000 in
theorem c_L_asks3 (l : Launch) (dC : Nat → ClassId) (dI : Nat → Nat → Nat) (cyI cyB : ClassId) (ad : Nat → Nat) (hI : zI ad 39) (hlf : l.stackTraces = false) (S : zS) : bMet l (dC, dI) (lTys cyI cyB) ad 39 xL (qw cyI ad) yL_asks wsL_asks ({ frames := 13, cells := 8, slots := 64, locals := 423 } : Room) [.ref (ad 0), .int 3, .int 64, .int 0] S 8 64 (fun v T => v = (-3000000) ∧ T = S) := by
  refine bStartW (by decide) rfl (Nat.le_of_ble_eq_true rfl) ?_
  intro p e s m args below meth c ls cx hrt hlk hex hP hK hXs hl
  have hl : lv_has ls 5 [(0, .ref (ad 0)), (1, .int 3), (2, .int 64), (3, .int 0)] := hl
  have hS : va_S (zA ad 39 s.heap.size) s.heap s.heap [] := va_S.rf
  have hI6 : zI ad 36 := fun i j hi hj => hI i j (by omega) (by omega)
  refine lv_iload_n cx.1 cx.2.1 dL_asks_0 rfl (lv_at hl 1 rfl) ?_
  refine lv_if_ne (tgt := 12) cx.1 cx.2.1 dL_asks_1 (by decide) (fun c0 => ?_) (fun c0 => ?_)
  rotate_left
  · exact absurd c0 (by decide)
  refine lv_iload_n cx.1 cx.2.1 dL_asks_12 rfl (lv_at hl 1 rfl) ?_
  refine lv_iconst (v := 1) cx.1 cx.2.1 dL_asks_13 (by decide) ?_
  refine lv_icmp_ne (tgt := 25) cx.1 cx.2.1 dL_asks_14 (by decide) (fun c1 => ?_) (fun c1 => ?_)
  rotate_left
  · exact absurd c1 (by decide)
  refine lv_iload_n cx.1 cx.2.1 dL_asks_25 rfl (lv_at hl 1 rfl) ?_
  refine lv_iconst (v := 2) cx.1 cx.2.1 dL_asks_26 (by decide) ?_
  refine lv_icmp_ne (tgt := 39) cx.1 cx.2.1 dL_asks_27 (by decide) (fun c2 => ?_) (fun c2 => ?_)
  rotate_left
  · exact absurd c2 (by decide)
  refine lv_iload_n cx.1 cx.2.1 dL_asks_39 rfl (lv_at hl 1 rfl) ?_
  refine lv_iconst (v := 3) cx.1 cx.2.1 dL_asks_40 (by decide) ?_
  refine lv_icmp_ne (tgt := 52) cx.1 cx.2.1 dL_asks_41 (by decide) (fun c3 => ?_) (fun c3 => ?_)
  · exact absurd c3 (by decide)
  refine lv_aload_n cx.1 cx.2.1 dL_asks_44 rfl (lv_at hl 0 rfl) ?_
  refine lv_iload_n cx.1 cx.2.1 dL_asks_45 rfl (lv_at hl 2 rfl) ?_
  have ht : t_X6_net S 64 = some xIO := by
    unfold t_X6_net
    first | (rw [tq_hi]; rfl) | (rw [tq_lo]; rfl) | (rw [tq_0, tq_hi]; rfl)
  refine bCallX (As := [.int 64]) (rest := []) 1 cx (xLift (qE_OK cyI ad) hI (fun U h => lTys_I U h) (fun A B U h hAB => xL_T A B U h hAB) (c_X6_net l dC dI cyI ad hI6 hlf S 64)) gL_asks_X6_net rfl ⟨rfl, rfl⟩ (by decide +kernel) ⟨(Nat.le_of_ble_eq_true rfl), (Nat.le_of_ble_eq_true rfl)⟩ (xL_X ad 39) hXs hK hP hS rfl rfl hl.1 rfl (Nat.le_of_ble_eq_true rfl) dL_asks_46 ⟨(Nat.le_of_ble_eq_true rfl), (Nat.le_of_ble_eq_true rfl)⟩ (fun E ce q9 H1 locs1 hE hP hS hce hcv hcl => ?_) (fun r T H1 locs1 hp hP hS => ?_)
  · rw [ht] at hE
    obtain rfl : xIO = E := Option.some.inj hE
    refine vx_catch (own := RL) (name := xIO) (E := xIO) (hown := cx.2.2.2.1) [] (⟨0, 149, 150, 31⟩ : ExceptionTableEntry) [] (by rw [hex]; rfl) (fun z hz => by cases hz) rfl (by decide) (cx.2.2.2.2 (Cond.classLink RL 31 "java/lang/IndexOutOfBoundsException") (by decide +kernel)) (va_Nw.use rfl (hXs.1.1.2.2.2.2.2 xIO (by decide))) hce hcv hcl ?_
    refine lv_astore (lv' := [(4, .ref q9), (0, .ref (ad 0)), (1, .int 3), (2, .int 64), (3, .int 0)]) cx.1 cx.2.1 dL_asks_150 hl (by decide) rfl (fun ls hl => ?_)
    refine lv_ldc (own := RL) (v := (-3000000)) cx.1 cx.2.1 cx.2.2.2.1 (cx.2.2.2.2 (Cond.constant RL 33 (-3000000)) (by decide +kernel)) dL_asks_152 ?_
    exact bRet cx hrt hlk rfl hS hP ⟨rfl, rfl⟩ (Nat.le_of_ble_eq_true rfl) (Nat.le_of_ble_eq_true rfl) dL_asks_154
  · obtain ⟨T0, ⟨h1, h2, h3⟩, h4⟩ := hp
    rw [ht] at h3
    cases h3

set_option maxHeartbeats 2000000 in
set_option maxRecDepth 100000 in
theorem c_L_asks4 (l : Launch) (dC : Nat → ClassId) (dI : Nat → Nat → Nat) (cyI cyB : ClassId) (ad : Nat → Nat) (hI : zI ad 39) (hlf : l.stackTraces = false) (S : zS) : bMet l (dC, dI) (lTys cyI cyB) ad 39 xL (qw cyI ad) yL_asks wsL_asks ({ frames := 13, cells := 8, slots := 64, locals := 423 } : Room) [.ref (ad 0), .int 4, .int 0, .int 64] S 8 64 (fun v T => v = (-3000000) ∧ T = S) := by
  refine bStartW (by decide) rfl (Nat.le_of_ble_eq_true rfl) ?_
  intro p e s m args below meth c ls cx hrt hlk hex hP hK hXs hl
  have hl : lv_has ls 5 [(0, .ref (ad 0)), (1, .int 4), (2, .int 0), (3, .int 64)] := hl
  have hS : va_S (zA ad 39 s.heap.size) s.heap s.heap [] := va_S.rf
  have hI6 : zI ad 36 := fun i j hi hj => hI i j (by omega) (by omega)
  refine lv_iload_n cx.1 cx.2.1 dL_asks_0 rfl (lv_at hl 1 rfl) ?_
  refine lv_if_ne (tgt := 12) cx.1 cx.2.1 dL_asks_1 (by decide) (fun c0 => ?_) (fun c0 => ?_)
  rotate_left
  · exact absurd c0 (by decide)
  refine lv_iload_n cx.1 cx.2.1 dL_asks_12 rfl (lv_at hl 1 rfl) ?_
  refine lv_iconst (v := 1) cx.1 cx.2.1 dL_asks_13 (by decide) ?_
  refine lv_icmp_ne (tgt := 25) cx.1 cx.2.1 dL_asks_14 (by decide) (fun c1 => ?_) (fun c1 => ?_)
  rotate_left
  · exact absurd c1 (by decide)
  refine lv_iload_n cx.1 cx.2.1 dL_asks_25 rfl (lv_at hl 1 rfl) ?_
  refine lv_iconst (v := 2) cx.1 cx.2.1 dL_asks_26 (by decide) ?_
  refine lv_icmp_ne (tgt := 39) cx.1 cx.2.1 dL_asks_27 (by decide) (fun c2 => ?_) (fun c2 => ?_)
  rotate_left
  · exact absurd c2 (by decide)
  refine lv_iload_n cx.1 cx.2.1 dL_asks_39 rfl (lv_at hl 1 rfl) ?_
  refine lv_iconst (v := 3) cx.1 cx.2.1 dL_asks_40 (by decide) ?_
  refine lv_icmp_ne (tgt := 52) cx.1 cx.2.1 dL_asks_41 (by decide) (fun c3 => ?_) (fun c3 => ?_)
  rotate_left
  · exact absurd c3 (by decide)
  refine lv_iload_n cx.1 cx.2.1 dL_asks_52 rfl (lv_at hl 1 rfl) ?_
  refine lv_iconst (v := 4) cx.1 cx.2.1 dL_asks_53 (by decide) ?_
  refine lv_icmp_ne (tgt := 66) cx.1 cx.2.1 dL_asks_54 (by decide) (fun c4 => ?_) (fun c4 => ?_)
  · exact absurd c4 (by decide)
  refine lv_aload_n cx.1 cx.2.1 dL_asks_57 rfl (lv_at hl 0 rfl) ?_
  refine lv_iload_n cx.1 cx.2.1 dL_asks_58 rfl (lv_at hl 2 rfl) ?_
  refine lv_iload_n cx.1 cx.2.1 dL_asks_59 rfl (lv_at hl 3 rfl) ?_
  have ht : t_X6_steps S 0 64 = some xIO := by
    unfold t_X6_steps
    first | (rw [tq_hi]; rfl) | (rw [tq_lo]; rfl) | (rw [tq_0, tq_hi]; rfl)
  refine bCallX (As := [.int 0, .int 64]) (rest := []) 2 cx (xLift (qE_OK cyI ad) hI (fun U h => lTys_I U h) (fun A B U h hAB => xL_T A B U h hAB) (c_X6_steps l dC dI cyI ad hI6 hlf S 0 64)) gL_asks_X6_steps rfl ⟨rfl, rfl⟩ (by decide +kernel) ⟨(Nat.le_of_ble_eq_true rfl), (Nat.le_of_ble_eq_true rfl)⟩ (xL_X ad 39) hXs hK hP hS rfl rfl hl.1 rfl (Nat.le_of_ble_eq_true rfl) dL_asks_60 ⟨(Nat.le_of_ble_eq_true rfl), (Nat.le_of_ble_eq_true rfl)⟩ (fun E ce q9 H1 locs1 hE hP hS hce hcv hcl => ?_) (fun r T H1 locs1 hp hP hS => ?_)
  · rw [ht] at hE
    obtain rfl : xIO = E := Option.some.inj hE
    refine vx_catch (own := RL) (name := xIO) (E := xIO) (hown := cx.2.2.2.1) [] (⟨0, 149, 150, 31⟩ : ExceptionTableEntry) [] (by rw [hex]; rfl) (fun z hz => by cases hz) rfl (by decide) (cx.2.2.2.2 (Cond.classLink RL 31 "java/lang/IndexOutOfBoundsException") (by decide +kernel)) (va_Nw.use rfl (hXs.1.1.2.2.2.2.2 xIO (by decide))) hce hcv hcl ?_
    refine lv_astore (lv' := [(4, .ref q9), (0, .ref (ad 0)), (1, .int 4), (2, .int 0), (3, .int 64)]) cx.1 cx.2.1 dL_asks_150 hl (by decide) rfl (fun ls hl => ?_)
    refine lv_ldc (own := RL) (v := (-3000000)) cx.1 cx.2.1 cx.2.2.2.1 (cx.2.2.2.2 (Cond.constant RL 33 (-3000000)) (by decide +kernel)) dL_asks_152 ?_
    exact bRet cx hrt hlk rfl hS hP ⟨rfl, rfl⟩ (Nat.le_of_ble_eq_true rfl) (Nat.le_of_ble_eq_true rfl) dL_asks_154
  · obtain ⟨T0, ⟨h1, h2, h3⟩, h4⟩ := hp
    rw [ht] at h3
    cases h3

set_option maxHeartbeats 2000000 in
set_option maxRecDepth 100000 in
theorem c_L_asks5 (l : Launch) (dC : Nat → ClassId) (dI : Nat → Nat → Nat) (cyI cyB : ClassId) (ad : Nat → Nat) (hI : zI ad 39) (hlf : l.stackTraces = false) (S : zS) : bMet l (dC, dI) (lTys cyI cyB) ad 39 xL (qw cyI ad) yL_asks wsL_asks ({ frames := 13, cells := 8, slots := 64, locals := 423 } : Room) [.ref (ad 0), .int 5, .int (-1), .int 0] S 8 64 (fun v T => v = (-3000000) ∧ T = S) := by
  refine bStartW (by decide) rfl (Nat.le_of_ble_eq_true rfl) ?_
  intro p e s m args below meth c ls cx hrt hlk hex hP hK hXs hl
  have hl : lv_has ls 5 [(0, .ref (ad 0)), (1, .int 5), (2, .int (-1)), (3, .int 0)] := hl
  have hS : va_S (zA ad 39 s.heap.size) s.heap s.heap [] := va_S.rf
  have hI6 : zI ad 36 := fun i j hi hj => hI i j (by omega) (by omega)
  refine lv_iload_n cx.1 cx.2.1 dL_asks_0 rfl (lv_at hl 1 rfl) ?_
  refine lv_if_ne (tgt := 12) cx.1 cx.2.1 dL_asks_1 (by decide) (fun c0 => ?_) (fun c0 => ?_)
  rotate_left
  · exact absurd c0 (by decide)
  refine lv_iload_n cx.1 cx.2.1 dL_asks_12 rfl (lv_at hl 1 rfl) ?_
  refine lv_iconst (v := 1) cx.1 cx.2.1 dL_asks_13 (by decide) ?_
  refine lv_icmp_ne (tgt := 25) cx.1 cx.2.1 dL_asks_14 (by decide) (fun c1 => ?_) (fun c1 => ?_)
  rotate_left
  · exact absurd c1 (by decide)
  refine lv_iload_n cx.1 cx.2.1 dL_asks_25 rfl (lv_at hl 1 rfl) ?_
  refine lv_iconst (v := 2) cx.1 cx.2.1 dL_asks_26 (by decide) ?_
  refine lv_icmp_ne (tgt := 39) cx.1 cx.2.1 dL_asks_27 (by decide) (fun c2 => ?_) (fun c2 => ?_)
  rotate_left
  · exact absurd c2 (by decide)
  refine lv_iload_n cx.1 cx.2.1 dL_asks_39 rfl (lv_at hl 1 rfl) ?_
  refine lv_iconst (v := 3) cx.1 cx.2.1 dL_asks_40 (by decide) ?_
  refine lv_icmp_ne (tgt := 52) cx.1 cx.2.1 dL_asks_41 (by decide) (fun c3 => ?_) (fun c3 => ?_)
  rotate_left
  · exact absurd c3 (by decide)
  refine lv_iload_n cx.1 cx.2.1 dL_asks_52 rfl (lv_at hl 1 rfl) ?_
  refine lv_iconst (v := 4) cx.1 cx.2.1 dL_asks_53 (by decide) ?_
  refine lv_icmp_ne (tgt := 66) cx.1 cx.2.1 dL_asks_54 (by decide) (fun c4 => ?_) (fun c4 => ?_)
  rotate_left
  · exact absurd c4 (by decide)
  refine lv_iload_n cx.1 cx.2.1 dL_asks_66 rfl (lv_at hl 1 rfl) ?_
  refine lv_iconst (v := 5) cx.1 cx.2.1 dL_asks_67 (by decide) ?_
  refine lv_icmp_ne (tgt := 87) cx.1 cx.2.1 dL_asks_68 (by decide) (fun c5 => ?_) (fun c5 => ?_)
  · exact absurd c5 (by decide)
  refine lv_aload_n cx.1 cx.2.1 dL_asks_71 rfl (lv_at hl 0 rfl) ?_
  refine lv_iload_n cx.1 cx.2.1 dL_asks_72 rfl (lv_at hl 2 rfl) ?_
  have ht : t_X6_isServed S (-1) = some xIO := by
    unfold t_X6_isServed
    first | (rw [tq_hi]; rfl) | (rw [tq_lo]; rfl) | (rw [tq_0, tq_hi]; rfl)
  refine bCallX (As := [.int (-1)]) (rest := []) 1 cx (xLift (qE_OK cyI ad) hI (fun U h => lTys_I U h) (fun A B U h hAB => xL_T A B U h hAB) (c_X6_isServed l dC dI cyI ad hI6 hlf S (-1))) gL_asks_X6_isServed rfl ⟨rfl, rfl⟩ (by decide +kernel) ⟨(Nat.le_of_ble_eq_true rfl), (Nat.le_of_ble_eq_true rfl)⟩ (xL_X ad 39) hXs hK hP hS rfl rfl hl.1 rfl (Nat.le_of_ble_eq_true rfl) dL_asks_73 ⟨(Nat.le_of_ble_eq_true rfl), (Nat.le_of_ble_eq_true rfl)⟩ (fun E ce q9 H1 locs1 hE hP hS hce hcv hcl => ?_) (fun r T H1 locs1 hp hP hS => ?_)
  · rw [ht] at hE
    obtain rfl : xIO = E := Option.some.inj hE
    refine vx_catch (own := RL) (name := xIO) (E := xIO) (hown := cx.2.2.2.1) [] (⟨0, 149, 150, 31⟩ : ExceptionTableEntry) [] (by rw [hex]; rfl) (fun z hz => by cases hz) rfl (by decide) (cx.2.2.2.2 (Cond.classLink RL 31 "java/lang/IndexOutOfBoundsException") (by decide +kernel)) (va_Nw.use rfl (hXs.1.1.2.2.2.2.2 xIO (by decide))) hce hcv hcl ?_
    refine lv_astore (lv' := [(4, .ref q9), (0, .ref (ad 0)), (1, .int 5), (2, .int (-1)), (3, .int 0)]) cx.1 cx.2.1 dL_asks_150 hl (by decide) rfl (fun ls hl => ?_)
    refine lv_ldc (own := RL) (v := (-3000000)) cx.1 cx.2.1 cx.2.2.2.1 (cx.2.2.2.2 (Cond.constant RL 33 (-3000000)) (by decide +kernel)) dL_asks_152 ?_
    exact bRet cx hrt hlk rfl hS hP ⟨rfl, rfl⟩ (Nat.le_of_ble_eq_true rfl) (Nat.le_of_ble_eq_true rfl) dL_asks_154
  · obtain ⟨T0, ⟨h1, h2, h3⟩, h4⟩ := hp
    rw [ht] at h3
    cases h3

set_option maxHeartbeats 2000000 in
set_option maxRecDepth 100000 in
theorem c_L_asks6 (l : Launch) (dC : Nat → ClassId) (dI : Nat → Nat → Nat) (cyI cyB : ClassId) (ad : Nat → Nat) (hI : zI ad 39) (hlf : l.stackTraces = false) (S : zS) : bMet l (dC, dI) (lTys cyI cyB) ad 39 xL (qw cyI ad) yL_asks wsL_asks ({ frames := 13, cells := 8, slots := 64, locals := 423 } : Room) [.ref (ad 0), .int 6, .int 64, .int 0] S 8 64 (fun v T => v = (-3000000) ∧ T = S) := by
  refine bStartW (by decide) rfl (Nat.le_of_ble_eq_true rfl) ?_
  intro p e s m args below meth c ls cx hrt hlk hex hP hK hXs hl
  have hl : lv_has ls 5 [(0, .ref (ad 0)), (1, .int 6), (2, .int 64), (3, .int 0)] := hl
  have hS : va_S (zA ad 39 s.heap.size) s.heap s.heap [] := va_S.rf
  have hI6 : zI ad 36 := fun i j hi hj => hI i j (by omega) (by omega)
  refine lv_iload_n cx.1 cx.2.1 dL_asks_0 rfl (lv_at hl 1 rfl) ?_
  refine lv_if_ne (tgt := 12) cx.1 cx.2.1 dL_asks_1 (by decide) (fun c0 => ?_) (fun c0 => ?_)
  rotate_left
  · exact absurd c0 (by decide)
  refine lv_iload_n cx.1 cx.2.1 dL_asks_12 rfl (lv_at hl 1 rfl) ?_
  refine lv_iconst (v := 1) cx.1 cx.2.1 dL_asks_13 (by decide) ?_
  refine lv_icmp_ne (tgt := 25) cx.1 cx.2.1 dL_asks_14 (by decide) (fun c1 => ?_) (fun c1 => ?_)
  rotate_left
  · exact absurd c1 (by decide)
  refine lv_iload_n cx.1 cx.2.1 dL_asks_25 rfl (lv_at hl 1 rfl) ?_
  refine lv_iconst (v := 2) cx.1 cx.2.1 dL_asks_26 (by decide) ?_
  refine lv_icmp_ne (tgt := 39) cx.1 cx.2.1 dL_asks_27 (by decide) (fun c2 => ?_) (fun c2 => ?_)
  rotate_left
  · exact absurd c2 (by decide)
  refine lv_iload_n cx.1 cx.2.1 dL_asks_39 rfl (lv_at hl 1 rfl) ?_
  refine lv_iconst (v := 3) cx.1 cx.2.1 dL_asks_40 (by decide) ?_
  refine lv_icmp_ne (tgt := 52) cx.1 cx.2.1 dL_asks_41 (by decide) (fun c3 => ?_) (fun c3 => ?_)
  rotate_left
  · exact absurd c3 (by decide)
  refine lv_iload_n cx.1 cx.2.1 dL_asks_52 rfl (lv_at hl 1 rfl) ?_
  refine lv_iconst (v := 4) cx.1 cx.2.1 dL_asks_53 (by decide) ?_
  refine lv_icmp_ne (tgt := 66) cx.1 cx.2.1 dL_asks_54 (by decide) (fun c4 => ?_) (fun c4 => ?_)
  rotate_left
  · exact absurd c4 (by decide)
  refine lv_iload_n cx.1 cx.2.1 dL_asks_66 rfl (lv_at hl 1 rfl) ?_
  refine lv_iconst (v := 5) cx.1 cx.2.1 dL_asks_67 (by decide) ?_
  refine lv_icmp_ne (tgt := 87) cx.1 cx.2.1 dL_asks_68 (by decide) (fun c5 => ?_) (fun c5 => ?_)
  rotate_left
  · exact absurd c5 (by decide)
  refine lv_iload_n cx.1 cx.2.1 dL_asks_87 rfl (lv_at hl 1 rfl) ?_
  refine lv_bipush (v := 6) cx.1 cx.2.1 dL_asks_88 (by decide) ?_
  refine lv_icmp_ne (tgt := 101) cx.1 cx.2.1 dL_asks_90 (by decide) (fun c6 => ?_) (fun c6 => ?_)
  · exact absurd c6 (by decide)
  refine lv_aload_n cx.1 cx.2.1 dL_asks_93 rfl (lv_at hl 0 rfl) ?_
  refine lv_iload_n cx.1 cx.2.1 dL_asks_94 rfl (lv_at hl 2 rfl) ?_
  have ht : t_X6_placed S 64 = some xIO := by
    unfold t_X6_placed
    first | (rw [tq_hi]; rfl) | (rw [tq_lo]; rfl) | (rw [tq_0, tq_hi]; rfl)
  refine bCallX (As := [.int 64]) (rest := []) 1 cx (xLift (qE_OK cyI ad) hI (fun U h => lTys_I U h) (fun A B U h hAB => xL_T A B U h hAB) (c_X6_placed l dC dI cyI ad hI6 hlf S 64)) gL_asks_X6_placed rfl ⟨rfl, rfl⟩ (by decide +kernel) ⟨(Nat.le_of_ble_eq_true rfl), (Nat.le_of_ble_eq_true rfl)⟩ (xL_X ad 39) hXs hK hP hS rfl rfl hl.1 rfl (Nat.le_of_ble_eq_true rfl) dL_asks_95 ⟨(Nat.le_of_ble_eq_true rfl), (Nat.le_of_ble_eq_true rfl)⟩ (fun E ce q9 H1 locs1 hE hP hS hce hcv hcl => ?_) (fun r T H1 locs1 hp hP hS => ?_)
  · rw [ht] at hE
    obtain rfl : xIO = E := Option.some.inj hE
    refine vx_catch (own := RL) (name := xIO) (E := xIO) (hown := cx.2.2.2.1) [] (⟨0, 149, 150, 31⟩ : ExceptionTableEntry) [] (by rw [hex]; rfl) (fun z hz => by cases hz) rfl (by decide) (cx.2.2.2.2 (Cond.classLink RL 31 "java/lang/IndexOutOfBoundsException") (by decide +kernel)) (va_Nw.use rfl (hXs.1.1.2.2.2.2.2 xIO (by decide))) hce hcv hcl ?_
    refine lv_astore (lv' := [(4, .ref q9), (0, .ref (ad 0)), (1, .int 6), (2, .int 64), (3, .int 0)]) cx.1 cx.2.1 dL_asks_150 hl (by decide) rfl (fun ls hl => ?_)
    refine lv_ldc (own := RL) (v := (-3000000)) cx.1 cx.2.1 cx.2.2.2.1 (cx.2.2.2.2 (Cond.constant RL 33 (-3000000)) (by decide +kernel)) dL_asks_152 ?_
    exact bRet cx hrt hlk rfl hS hP ⟨rfl, rfl⟩ (Nat.le_of_ble_eq_true rfl) (Nat.le_of_ble_eq_true rfl) dL_asks_154
  · obtain ⟨T0, ⟨h1, h2, h3⟩, h4⟩ := hp
    rw [ht] at h3
    cases h3

set_option maxHeartbeats 2000000 in
set_option maxRecDepth 100000 in
theorem c_L_asks7 (l : Launch) (dC : Nat → ClassId) (dI : Nat → Nat → Nat) (cyI cyB : ClassId) (ad : Nat → Nat) (hI : zI ad 39) (hlf : l.stackTraces = false) (S : zS) : bMet l (dC, dI) (lTys cyI cyB) ad 39 xL (qw cyI ad) yL_asks wsL_asks ({ frames := 13, cells := 8, slots := 64, locals := 423 } : Room) [.ref (ad 0), .int 7, .int (-1), .int 0] S 8 64 (fun v T => v = (-3000000) ∧ T = S) := by
  refine bStartW (by decide) rfl (Nat.le_of_ble_eq_true rfl) ?_
  intro p e s m args below meth c ls cx hrt hlk hex hP hK hXs hl
  have hl : lv_has ls 5 [(0, .ref (ad 0)), (1, .int 7), (2, .int (-1)), (3, .int 0)] := hl
  have hS : va_S (zA ad 39 s.heap.size) s.heap s.heap [] := va_S.rf
  have hI6 : zI ad 36 := fun i j hi hj => hI i j (by omega) (by omega)
  refine lv_iload_n cx.1 cx.2.1 dL_asks_0 rfl (lv_at hl 1 rfl) ?_
  refine lv_if_ne (tgt := 12) cx.1 cx.2.1 dL_asks_1 (by decide) (fun c0 => ?_) (fun c0 => ?_)
  rotate_left
  · exact absurd c0 (by decide)
  refine lv_iload_n cx.1 cx.2.1 dL_asks_12 rfl (lv_at hl 1 rfl) ?_
  refine lv_iconst (v := 1) cx.1 cx.2.1 dL_asks_13 (by decide) ?_
  refine lv_icmp_ne (tgt := 25) cx.1 cx.2.1 dL_asks_14 (by decide) (fun c1 => ?_) (fun c1 => ?_)
  rotate_left
  · exact absurd c1 (by decide)
  refine lv_iload_n cx.1 cx.2.1 dL_asks_25 rfl (lv_at hl 1 rfl) ?_
  refine lv_iconst (v := 2) cx.1 cx.2.1 dL_asks_26 (by decide) ?_
  refine lv_icmp_ne (tgt := 39) cx.1 cx.2.1 dL_asks_27 (by decide) (fun c2 => ?_) (fun c2 => ?_)
  rotate_left
  · exact absurd c2 (by decide)
  refine lv_iload_n cx.1 cx.2.1 dL_asks_39 rfl (lv_at hl 1 rfl) ?_
  refine lv_iconst (v := 3) cx.1 cx.2.1 dL_asks_40 (by decide) ?_
  refine lv_icmp_ne (tgt := 52) cx.1 cx.2.1 dL_asks_41 (by decide) (fun c3 => ?_) (fun c3 => ?_)
  rotate_left
  · exact absurd c3 (by decide)
  refine lv_iload_n cx.1 cx.2.1 dL_asks_52 rfl (lv_at hl 1 rfl) ?_
  refine lv_iconst (v := 4) cx.1 cx.2.1 dL_asks_53 (by decide) ?_
  refine lv_icmp_ne (tgt := 66) cx.1 cx.2.1 dL_asks_54 (by decide) (fun c4 => ?_) (fun c4 => ?_)
  rotate_left
  · exact absurd c4 (by decide)
  refine lv_iload_n cx.1 cx.2.1 dL_asks_66 rfl (lv_at hl 1 rfl) ?_
  refine lv_iconst (v := 5) cx.1 cx.2.1 dL_asks_67 (by decide) ?_
  refine lv_icmp_ne (tgt := 87) cx.1 cx.2.1 dL_asks_68 (by decide) (fun c5 => ?_) (fun c5 => ?_)
  rotate_left
  · exact absurd c5 (by decide)
  refine lv_iload_n cx.1 cx.2.1 dL_asks_87 rfl (lv_at hl 1 rfl) ?_
  refine lv_bipush (v := 6) cx.1 cx.2.1 dL_asks_88 (by decide) ?_
  refine lv_icmp_ne (tgt := 101) cx.1 cx.2.1 dL_asks_90 (by decide) (fun c6 => ?_) (fun c6 => ?_)
  rotate_left
  · exact absurd c6 (by decide)
  refine lv_iload_n cx.1 cx.2.1 dL_asks_101 rfl (lv_at hl 1 rfl) ?_
  refine lv_bipush (v := 7) cx.1 cx.2.1 dL_asks_102 (by decide) ?_
  refine lv_icmp_ne (tgt := 115) cx.1 cx.2.1 dL_asks_104 (by decide) (fun c7 => ?_) (fun c7 => ?_)
  · exact absurd c7 (by decide)
  refine lv_aload_n cx.1 cx.2.1 dL_asks_107 rfl (lv_at hl 0 rfl) ?_
  refine lv_iload_n cx.1 cx.2.1 dL_asks_108 rfl (lv_at hl 2 rfl) ?_
  have ht : t_X6_traffic S (-1) = some xIO := by
    unfold t_X6_traffic
    first | (rw [tq_hi]; rfl) | (rw [tq_lo]; rfl) | (rw [tq_0, tq_hi]; rfl)
  refine bCallX (As := [.int (-1)]) (rest := []) 1 cx (xLift (qE_OK cyI ad) hI (fun U h => lTys_I U h) (fun A B U h hAB => xL_T A B U h hAB) (c_X6_traffic l dC dI cyI ad hI6 hlf S (-1))) gL_asks_X6_traffic rfl ⟨rfl, rfl⟩ (by decide +kernel) ⟨(Nat.le_of_ble_eq_true rfl), (Nat.le_of_ble_eq_true rfl)⟩ (xL_X ad 39) hXs hK hP hS rfl rfl hl.1 rfl (Nat.le_of_ble_eq_true rfl) dL_asks_109 ⟨(Nat.le_of_ble_eq_true rfl), (Nat.le_of_ble_eq_true rfl)⟩ (fun E ce q9 H1 locs1 hE hP hS hce hcv hcl => ?_) (fun r T H1 locs1 hp hP hS => ?_)
  · rw [ht] at hE
    obtain rfl : xIO = E := Option.some.inj hE
    refine vx_catch (own := RL) (name := xIO) (E := xIO) (hown := cx.2.2.2.1) [] (⟨0, 149, 150, 31⟩ : ExceptionTableEntry) [] (by rw [hex]; rfl) (fun z hz => by cases hz) rfl (by decide) (cx.2.2.2.2 (Cond.classLink RL 31 "java/lang/IndexOutOfBoundsException") (by decide +kernel)) (va_Nw.use rfl (hXs.1.1.2.2.2.2.2 xIO (by decide))) hce hcv hcl ?_
    refine lv_astore (lv' := [(4, .ref q9), (0, .ref (ad 0)), (1, .int 7), (2, .int (-1)), (3, .int 0)]) cx.1 cx.2.1 dL_asks_150 hl (by decide) rfl (fun ls hl => ?_)
    refine lv_ldc (own := RL) (v := (-3000000)) cx.1 cx.2.1 cx.2.2.2.1 (cx.2.2.2.2 (Cond.constant RL 33 (-3000000)) (by decide +kernel)) dL_asks_152 ?_
    exact bRet cx hrt hlk rfl hS hP ⟨rfl, rfl⟩ (Nat.le_of_ble_eq_true rfl) (Nat.le_of_ble_eq_true rfl) dL_asks_154
  · obtain ⟨T0, ⟨h1, h2, h3⟩, h4⟩ := hp
    rw [ht] at h3
    cases h3

set_option maxHeartbeats 2000000 in
set_option maxRecDepth 100000 in
theorem c_L_asks8 (l : Launch) (dC : Nat → ClassId) (dI : Nat → Nat → Nat) (cyI cyB : ClassId) (ad : Nat → Nat) (hI : zI ad 39) (hlf : l.stackTraces = false) (S : zS) : bMet l (dC, dI) (lTys cyI cyB) ad 39 xL (qw cyI ad) yL_asks wsL_asks ({ frames := 13, cells := 8, slots := 64, locals := 423 } : Room) [.ref (ad 0), .int 8, .int 64, .int 0] S 8 64 (fun v T => v = (-3000000) ∧ T = S) := by
  refine bStartW (by decide) rfl (Nat.le_of_ble_eq_true rfl) ?_
  intro p e s m args below meth c ls cx hrt hlk hex hP hK hXs hl
  have hl : lv_has ls 5 [(0, .ref (ad 0)), (1, .int 8), (2, .int 64), (3, .int 0)] := hl
  have hS : va_S (zA ad 39 s.heap.size) s.heap s.heap [] := va_S.rf
  have hI6 : zI ad 36 := fun i j hi hj => hI i j (by omega) (by omega)
  refine lv_iload_n cx.1 cx.2.1 dL_asks_0 rfl (lv_at hl 1 rfl) ?_
  refine lv_if_ne (tgt := 12) cx.1 cx.2.1 dL_asks_1 (by decide) (fun c0 => ?_) (fun c0 => ?_)
  rotate_left
  · exact absurd c0 (by decide)
  refine lv_iload_n cx.1 cx.2.1 dL_asks_12 rfl (lv_at hl 1 rfl) ?_
  refine lv_iconst (v := 1) cx.1 cx.2.1 dL_asks_13 (by decide) ?_
  refine lv_icmp_ne (tgt := 25) cx.1 cx.2.1 dL_asks_14 (by decide) (fun c1 => ?_) (fun c1 => ?_)
  rotate_left
  · exact absurd c1 (by decide)
  refine lv_iload_n cx.1 cx.2.1 dL_asks_25 rfl (lv_at hl 1 rfl) ?_
  refine lv_iconst (v := 2) cx.1 cx.2.1 dL_asks_26 (by decide) ?_
  refine lv_icmp_ne (tgt := 39) cx.1 cx.2.1 dL_asks_27 (by decide) (fun c2 => ?_) (fun c2 => ?_)
  rotate_left
  · exact absurd c2 (by decide)
  refine lv_iload_n cx.1 cx.2.1 dL_asks_39 rfl (lv_at hl 1 rfl) ?_
  refine lv_iconst (v := 3) cx.1 cx.2.1 dL_asks_40 (by decide) ?_
  refine lv_icmp_ne (tgt := 52) cx.1 cx.2.1 dL_asks_41 (by decide) (fun c3 => ?_) (fun c3 => ?_)
  rotate_left
  · exact absurd c3 (by decide)
  refine lv_iload_n cx.1 cx.2.1 dL_asks_52 rfl (lv_at hl 1 rfl) ?_
  refine lv_iconst (v := 4) cx.1 cx.2.1 dL_asks_53 (by decide) ?_
  refine lv_icmp_ne (tgt := 66) cx.1 cx.2.1 dL_asks_54 (by decide) (fun c4 => ?_) (fun c4 => ?_)
  rotate_left
  · exact absurd c4 (by decide)
  refine lv_iload_n cx.1 cx.2.1 dL_asks_66 rfl (lv_at hl 1 rfl) ?_
  refine lv_iconst (v := 5) cx.1 cx.2.1 dL_asks_67 (by decide) ?_
  refine lv_icmp_ne (tgt := 87) cx.1 cx.2.1 dL_asks_68 (by decide) (fun c5 => ?_) (fun c5 => ?_)
  rotate_left
  · exact absurd c5 (by decide)
  refine lv_iload_n cx.1 cx.2.1 dL_asks_87 rfl (lv_at hl 1 rfl) ?_
  refine lv_bipush (v := 6) cx.1 cx.2.1 dL_asks_88 (by decide) ?_
  refine lv_icmp_ne (tgt := 101) cx.1 cx.2.1 dL_asks_90 (by decide) (fun c6 => ?_) (fun c6 => ?_)
  rotate_left
  · exact absurd c6 (by decide)
  refine lv_iload_n cx.1 cx.2.1 dL_asks_101 rfl (lv_at hl 1 rfl) ?_
  refine lv_bipush (v := 7) cx.1 cx.2.1 dL_asks_102 (by decide) ?_
  refine lv_icmp_ne (tgt := 115) cx.1 cx.2.1 dL_asks_104 (by decide) (fun c7 => ?_) (fun c7 => ?_)
  rotate_left
  · exact absurd c7 (by decide)
  refine lv_iload_n cx.1 cx.2.1 dL_asks_115 rfl (lv_at hl 1 rfl) ?_
  refine lv_bipush (v := 8) cx.1 cx.2.1 dL_asks_116 (by decide) ?_
  refine lv_icmp_ne (tgt := 129) cx.1 cx.2.1 dL_asks_118 (by decide) (fun c8 => ?_) (fun c8 => ?_)
  · exact absurd c8 (by decide)
  refine lv_aload_n cx.1 cx.2.1 dL_asks_121 rfl (lv_at hl 0 rfl) ?_
  refine lv_iload_n cx.1 cx.2.1 dL_asks_122 rfl (lv_at hl 2 rfl) ?_
  have ht : t_X6_value S 64 = some xIO := by
    unfold t_X6_value
    first | (rw [tq_hi]; rfl) | (rw [tq_lo]; rfl) | (rw [tq_0, tq_hi]; rfl)
  refine bCallX (As := [.int 64]) (rest := []) 1 cx (xLift (qE_OK cyI ad) hI (fun U h => lTys_I U h) (fun A B U h hAB => xL_T A B U h hAB) (c_X6_value l dC dI cyI ad hI6 hlf S 64)) gL_asks_X6_value rfl ⟨rfl, rfl⟩ (by decide +kernel) ⟨(Nat.le_of_ble_eq_true rfl), (Nat.le_of_ble_eq_true rfl)⟩ (xL_X ad 39) hXs hK hP hS rfl rfl hl.1 rfl (Nat.le_of_ble_eq_true rfl) dL_asks_123 ⟨(Nat.le_of_ble_eq_true rfl), (Nat.le_of_ble_eq_true rfl)⟩ (fun E ce q9 H1 locs1 hE hP hS hce hcv hcl => ?_) (fun r T H1 locs1 hp hP hS => ?_)
  · rw [ht] at hE
    obtain rfl : xIO = E := Option.some.inj hE
    refine vx_catch (own := RL) (name := xIO) (E := xIO) (hown := cx.2.2.2.1) [] (⟨0, 149, 150, 31⟩ : ExceptionTableEntry) [] (by rw [hex]; rfl) (fun z hz => by cases hz) rfl (by decide) (cx.2.2.2.2 (Cond.classLink RL 31 "java/lang/IndexOutOfBoundsException") (by decide +kernel)) (va_Nw.use rfl (hXs.1.1.2.2.2.2.2 xIO (by decide))) hce hcv hcl ?_
    refine lv_astore (lv' := [(4, .ref q9), (0, .ref (ad 0)), (1, .int 8), (2, .int 64), (3, .int 0)]) cx.1 cx.2.1 dL_asks_150 hl (by decide) rfl (fun ls hl => ?_)
    refine lv_ldc (own := RL) (v := (-3000000)) cx.1 cx.2.1 cx.2.2.2.1 (cx.2.2.2.2 (Cond.constant RL 33 (-3000000)) (by decide +kernel)) dL_asks_152 ?_
    exact bRet cx hrt hlk rfl hS hP ⟨rfl, rfl⟩ (Nat.le_of_ble_eq_true rfl) (Nat.le_of_ble_eq_true rfl) dL_asks_154
  · obtain ⟨T0, ⟨h1, h2, h3⟩, h4⟩ := hp
    rw [ht] at h3
    cases h3

set_option maxHeartbeats 2000000 in
set_option maxRecDepth 100000 in
theorem c_L_asks9 (l : Launch) (dC : Nat → ClassId) (dI : Nat → Nat → Nat) (cyI cyB : ClassId) (ad : Nat → Nat) (hI : zI ad 39) (hlf : l.stackTraces = false) (S : zS) : bMet l (dC, dI) (lTys cyI cyB) ad 39 xL (qw cyI ad) yL_asks wsL_asks ({ frames := 13, cells := 8, slots := 64, locals := 423 } : Room) [.ref (ad 0), .int 9, .int (-1), .int 0] S 8 64 (fun v T => v = (-3000000) ∧ T = S) := by
  refine bStartW (by decide) rfl (Nat.le_of_ble_eq_true rfl) ?_
  intro p e s m args below meth c ls cx hrt hlk hex hP hK hXs hl
  have hl : lv_has ls 5 [(0, .ref (ad 0)), (1, .int 9), (2, .int (-1)), (3, .int 0)] := hl
  have hS : va_S (zA ad 39 s.heap.size) s.heap s.heap [] := va_S.rf
  have hI6 : zI ad 36 := fun i j hi hj => hI i j (by omega) (by omega)
  refine lv_iload_n cx.1 cx.2.1 dL_asks_0 rfl (lv_at hl 1 rfl) ?_
  refine lv_if_ne (tgt := 12) cx.1 cx.2.1 dL_asks_1 (by decide) (fun c0 => ?_) (fun c0 => ?_)
  rotate_left
  · exact absurd c0 (by decide)
  refine lv_iload_n cx.1 cx.2.1 dL_asks_12 rfl (lv_at hl 1 rfl) ?_
  refine lv_iconst (v := 1) cx.1 cx.2.1 dL_asks_13 (by decide) ?_
  refine lv_icmp_ne (tgt := 25) cx.1 cx.2.1 dL_asks_14 (by decide) (fun c1 => ?_) (fun c1 => ?_)
  rotate_left
  · exact absurd c1 (by decide)
  refine lv_iload_n cx.1 cx.2.1 dL_asks_25 rfl (lv_at hl 1 rfl) ?_
  refine lv_iconst (v := 2) cx.1 cx.2.1 dL_asks_26 (by decide) ?_
  refine lv_icmp_ne (tgt := 39) cx.1 cx.2.1 dL_asks_27 (by decide) (fun c2 => ?_) (fun c2 => ?_)
  rotate_left
  · exact absurd c2 (by decide)
  refine lv_iload_n cx.1 cx.2.1 dL_asks_39 rfl (lv_at hl 1 rfl) ?_
  refine lv_iconst (v := 3) cx.1 cx.2.1 dL_asks_40 (by decide) ?_
  refine lv_icmp_ne (tgt := 52) cx.1 cx.2.1 dL_asks_41 (by decide) (fun c3 => ?_) (fun c3 => ?_)
  rotate_left
  · exact absurd c3 (by decide)
  refine lv_iload_n cx.1 cx.2.1 dL_asks_52 rfl (lv_at hl 1 rfl) ?_
  refine lv_iconst (v := 4) cx.1 cx.2.1 dL_asks_53 (by decide) ?_
  refine lv_icmp_ne (tgt := 66) cx.1 cx.2.1 dL_asks_54 (by decide) (fun c4 => ?_) (fun c4 => ?_)
  rotate_left
  · exact absurd c4 (by decide)
  refine lv_iload_n cx.1 cx.2.1 dL_asks_66 rfl (lv_at hl 1 rfl) ?_
  refine lv_iconst (v := 5) cx.1 cx.2.1 dL_asks_67 (by decide) ?_
  refine lv_icmp_ne (tgt := 87) cx.1 cx.2.1 dL_asks_68 (by decide) (fun c5 => ?_) (fun c5 => ?_)
  rotate_left
  · exact absurd c5 (by decide)
  refine lv_iload_n cx.1 cx.2.1 dL_asks_87 rfl (lv_at hl 1 rfl) ?_
  refine lv_bipush (v := 6) cx.1 cx.2.1 dL_asks_88 (by decide) ?_
  refine lv_icmp_ne (tgt := 101) cx.1 cx.2.1 dL_asks_90 (by decide) (fun c6 => ?_) (fun c6 => ?_)
  rotate_left
  · exact absurd c6 (by decide)
  refine lv_iload_n cx.1 cx.2.1 dL_asks_101 rfl (lv_at hl 1 rfl) ?_
  refine lv_bipush (v := 7) cx.1 cx.2.1 dL_asks_102 (by decide) ?_
  refine lv_icmp_ne (tgt := 115) cx.1 cx.2.1 dL_asks_104 (by decide) (fun c7 => ?_) (fun c7 => ?_)
  rotate_left
  · exact absurd c7 (by decide)
  refine lv_iload_n cx.1 cx.2.1 dL_asks_115 rfl (lv_at hl 1 rfl) ?_
  refine lv_bipush (v := 8) cx.1 cx.2.1 dL_asks_116 (by decide) ?_
  refine lv_icmp_ne (tgt := 129) cx.1 cx.2.1 dL_asks_118 (by decide) (fun c8 => ?_) (fun c8 => ?_)
  rotate_left
  · exact absurd c8 (by decide)
  refine lv_iload_n cx.1 cx.2.1 dL_asks_129 rfl (lv_at hl 1 rfl) ?_
  refine lv_bipush (v := 9) cx.1 cx.2.1 dL_asks_130 (by decide) ?_
  refine lv_icmp_ne (tgt := 143) cx.1 cx.2.1 dL_asks_132 (by decide) (fun c9 => ?_) (fun c9 => ?_)
  · exact absurd c9 (by decide)
  refine lv_aload_n cx.1 cx.2.1 dL_asks_135 rfl (lv_at hl 0 rfl) ?_
  refine lv_iload_n cx.1 cx.2.1 dL_asks_136 rfl (lv_at hl 2 rfl) ?_
  have ht : t_X6_powerLeft S (-1) = some xIO := by
    unfold t_X6_powerLeft
    first | (rw [tq_hi]; rfl) | (rw [tq_lo]; rfl) | (rw [tq_0, tq_hi]; rfl)
  refine bCallX (As := [.int (-1)]) (rest := []) 1 cx (xLift (qE_OK cyI ad) hI (fun U h => lTys_I U h) (fun A B U h hAB => xL_T A B U h hAB) (c_X6_powerLeft l dC dI cyI ad hI6 hlf S (-1))) gL_asks_X6_powerLeft rfl ⟨rfl, rfl⟩ (by decide +kernel) ⟨(Nat.le_of_ble_eq_true rfl), (Nat.le_of_ble_eq_true rfl)⟩ (xL_X ad 39) hXs hK hP hS rfl rfl hl.1 rfl (Nat.le_of_ble_eq_true rfl) dL_asks_137 ⟨(Nat.le_of_ble_eq_true rfl), (Nat.le_of_ble_eq_true rfl)⟩ (fun E ce q9 H1 locs1 hE hP hS hce hcv hcl => ?_) (fun r T H1 locs1 hp hP hS => ?_)
  · rw [ht] at hE
    obtain rfl : xIO = E := Option.some.inj hE
    refine vx_catch (own := RL) (name := xIO) (E := xIO) (hown := cx.2.2.2.1) [] (⟨0, 149, 150, 31⟩ : ExceptionTableEntry) [] (by rw [hex]; rfl) (fun z hz => by cases hz) rfl (by decide) (cx.2.2.2.2 (Cond.classLink RL 31 "java/lang/IndexOutOfBoundsException") (by decide +kernel)) (va_Nw.use rfl (hXs.1.1.2.2.2.2.2 xIO (by decide))) hce hcv hcl ?_
    refine lv_astore (lv' := [(4, .ref q9), (0, .ref (ad 0)), (1, .int 9), (2, .int (-1)), (3, .int 0)]) cx.1 cx.2.1 dL_asks_150 hl (by decide) rfl (fun ls hl => ?_)
    refine lv_ldc (own := RL) (v := (-3000000)) cx.1 cx.2.1 cx.2.2.2.1 (cx.2.2.2.2 (Cond.constant RL 33 (-3000000)) (by decide +kernel)) dL_asks_152 ?_
    exact bRet cx hrt hlk rfl hS hP ⟨rfl, rfl⟩ (Nat.le_of_ble_eq_true rfl) (Nat.le_of_ble_eq_true rfl) dL_asks_154
  · obtain ⟨T0, ⟨h1, h2, h3⟩, h4⟩ := hp
    rw [ht] at h3
    cases h3

set_option maxHeartbeats 2000000 in
set_option maxRecDepth 100000 in
theorem c_L_asks10 (l : Launch) (dC : Nat → ClassId) (dI : Nat → Nat → Nat) (cyI cyB : ClassId) (ad : Nat → Nat) (hI : zI ad 39) (hlf : l.stackTraces = false) (S : zS) : bMet l (dC, dI) (lTys cyI cyB) ad 39 xL (qw cyI ad) yL_asks wsL_asks ({ frames := 13, cells := 8, slots := 64, locals := 423 } : Room) [.ref (ad 0), .int 10, .int 64, .int 0] S 8 64 (fun v T => v = (-3000000) ∧ T = S) := by
  refine bStartW (by decide) rfl (Nat.le_of_ble_eq_true rfl) ?_
  intro p e s m args below meth c ls cx hrt hlk hex hP hK hXs hl
  have hl : lv_has ls 5 [(0, .ref (ad 0)), (1, .int 10), (2, .int 64), (3, .int 0)] := hl
  have hS : va_S (zA ad 39 s.heap.size) s.heap s.heap [] := va_S.rf
  have hI6 : zI ad 36 := fun i j hi hj => hI i j (by omega) (by omega)
  refine lv_iload_n cx.1 cx.2.1 dL_asks_0 rfl (lv_at hl 1 rfl) ?_
  refine lv_if_ne (tgt := 12) cx.1 cx.2.1 dL_asks_1 (by decide) (fun c0 => ?_) (fun c0 => ?_)
  rotate_left
  · exact absurd c0 (by decide)
  refine lv_iload_n cx.1 cx.2.1 dL_asks_12 rfl (lv_at hl 1 rfl) ?_
  refine lv_iconst (v := 1) cx.1 cx.2.1 dL_asks_13 (by decide) ?_
  refine lv_icmp_ne (tgt := 25) cx.1 cx.2.1 dL_asks_14 (by decide) (fun c1 => ?_) (fun c1 => ?_)
  rotate_left
  · exact absurd c1 (by decide)
  refine lv_iload_n cx.1 cx.2.1 dL_asks_25 rfl (lv_at hl 1 rfl) ?_
  refine lv_iconst (v := 2) cx.1 cx.2.1 dL_asks_26 (by decide) ?_
  refine lv_icmp_ne (tgt := 39) cx.1 cx.2.1 dL_asks_27 (by decide) (fun c2 => ?_) (fun c2 => ?_)
  rotate_left
  · exact absurd c2 (by decide)
  refine lv_iload_n cx.1 cx.2.1 dL_asks_39 rfl (lv_at hl 1 rfl) ?_
  refine lv_iconst (v := 3) cx.1 cx.2.1 dL_asks_40 (by decide) ?_
  refine lv_icmp_ne (tgt := 52) cx.1 cx.2.1 dL_asks_41 (by decide) (fun c3 => ?_) (fun c3 => ?_)
  rotate_left
  · exact absurd c3 (by decide)
  refine lv_iload_n cx.1 cx.2.1 dL_asks_52 rfl (lv_at hl 1 rfl) ?_
  refine lv_iconst (v := 4) cx.1 cx.2.1 dL_asks_53 (by decide) ?_
  refine lv_icmp_ne (tgt := 66) cx.1 cx.2.1 dL_asks_54 (by decide) (fun c4 => ?_) (fun c4 => ?_)
  rotate_left
  · exact absurd c4 (by decide)
  refine lv_iload_n cx.1 cx.2.1 dL_asks_66 rfl (lv_at hl 1 rfl) ?_
  refine lv_iconst (v := 5) cx.1 cx.2.1 dL_asks_67 (by decide) ?_
  refine lv_icmp_ne (tgt := 87) cx.1 cx.2.1 dL_asks_68 (by decide) (fun c5 => ?_) (fun c5 => ?_)
  rotate_left
  · exact absurd c5 (by decide)
  refine lv_iload_n cx.1 cx.2.1 dL_asks_87 rfl (lv_at hl 1 rfl) ?_
  refine lv_bipush (v := 6) cx.1 cx.2.1 dL_asks_88 (by decide) ?_
  refine lv_icmp_ne (tgt := 101) cx.1 cx.2.1 dL_asks_90 (by decide) (fun c6 => ?_) (fun c6 => ?_)
  rotate_left
  · exact absurd c6 (by decide)
  refine lv_iload_n cx.1 cx.2.1 dL_asks_101 rfl (lv_at hl 1 rfl) ?_
  refine lv_bipush (v := 7) cx.1 cx.2.1 dL_asks_102 (by decide) ?_
  refine lv_icmp_ne (tgt := 115) cx.1 cx.2.1 dL_asks_104 (by decide) (fun c7 => ?_) (fun c7 => ?_)
  rotate_left
  · exact absurd c7 (by decide)
  refine lv_iload_n cx.1 cx.2.1 dL_asks_115 rfl (lv_at hl 1 rfl) ?_
  refine lv_bipush (v := 8) cx.1 cx.2.1 dL_asks_116 (by decide) ?_
  refine lv_icmp_ne (tgt := 129) cx.1 cx.2.1 dL_asks_118 (by decide) (fun c8 => ?_) (fun c8 => ?_)
  rotate_left
  · exact absurd c8 (by decide)
  refine lv_iload_n cx.1 cx.2.1 dL_asks_129 rfl (lv_at hl 1 rfl) ?_
  refine lv_bipush (v := 9) cx.1 cx.2.1 dL_asks_130 (by decide) ?_
  refine lv_icmp_ne (tgt := 143) cx.1 cx.2.1 dL_asks_132 (by decide) (fun c9 => ?_) (fun c9 => ?_)
  rotate_left
  · exact absurd c9 (by decide)
  refine lv_aload_n cx.1 cx.2.1 dL_asks_143 rfl (lv_at hl 0 rfl) ?_
  refine lv_iload_n cx.1 cx.2.1 dL_asks_144 rfl (lv_at hl 2 rfl) ?_
  refine lv_iload_n cx.1 cx.2.1 dL_asks_145 rfl (lv_at hl 3 rfl) ?_
  have ht : t_X6_going S 64 0 = some xIO := by
    unfold t_X6_going
    first | (rw [tq_hi]; rfl) | (rw [tq_lo]; rfl) | (rw [tq_0, tq_hi]; rfl)
  refine bCallX (As := [.int 64, .int 0]) (rest := []) 2 cx (xLift (qE_OK cyI ad) hI (fun U h => lTys_I U h) (fun A B U h hAB => xL_T A B U h hAB) (c_X6_going l dC dI cyI ad hI6 hlf S 64 0)) gL_asks_X6_going rfl ⟨rfl, rfl⟩ (by decide +kernel) ⟨(Nat.le_of_ble_eq_true rfl), (Nat.le_of_ble_eq_true rfl)⟩ (xL_X ad 39) hXs hK hP hS rfl rfl hl.1 rfl (Nat.le_of_ble_eq_true rfl) dL_asks_146 ⟨(Nat.le_of_ble_eq_true rfl), (Nat.le_of_ble_eq_true rfl)⟩ (fun E ce q9 H1 locs1 hE hP hS hce hcv hcl => ?_) (fun r T H1 locs1 hp hP hS => ?_)
  · rw [ht] at hE
    obtain rfl : xIO = E := Option.some.inj hE
    refine vx_catch (own := RL) (name := xIO) (E := xIO) (hown := cx.2.2.2.1) [] (⟨0, 149, 150, 31⟩ : ExceptionTableEntry) [] (by rw [hex]; rfl) (fun z hz => by cases hz) rfl (by decide) (cx.2.2.2.2 (Cond.classLink RL 31 "java/lang/IndexOutOfBoundsException") (by decide +kernel)) (va_Nw.use rfl (hXs.1.1.2.2.2.2.2 xIO (by decide))) hce hcv hcl ?_
    refine lv_astore (lv' := [(4, .ref q9), (0, .ref (ad 0)), (1, .int 10), (2, .int 64), (3, .int 0)]) cx.1 cx.2.1 dL_asks_150 hl (by decide) rfl (fun ls hl => ?_)
    refine lv_ldc (own := RL) (v := (-3000000)) cx.1 cx.2.1 cx.2.2.2.1 (cx.2.2.2.2 (Cond.constant RL 33 (-3000000)) (by decide +kernel)) dL_asks_152 ?_
    exact bRet cx hrt hlk rfl hS hP ⟨rfl, rfl⟩ (Nat.le_of_ble_eq_true rfl) (Nat.le_of_ble_eq_true rfl) dL_asks_154
  · obtain ⟨T0, ⟨h1, h2, h3⟩, h4⟩ := hp
    rw [ht] at h3
    cases h3

set_option maxHeartbeats 2000000 in
set_option maxRecDepth 100000 in
theorem c_L_asks2 (l : Launch) (dC : Nat → ClassId) (dI : Nat → Nat → Nat) (cyI cyB : ClassId) (ad : Nat → Nat) (hI : zI ad 39) (hlf : l.stackTraces = false) (S : zS) (F : zS) (hF : LF S F) (nc : Nat) (xp : Int32) (hnc : nc < 64) : bMet l (dC, dI) (lTys cyI cyB) ad 39 xL (qw cyI ad) yL_asks wsL_asks ({ frames := 13, cells := 8, slots := 64, locals := 423 } : Room) [.ref (ad 0), .int 2, .int (nI nc), .int xp] S 8 64 (fun v T => v = sgn S nc xp ∧ T = S) := by
  refine bStartW (by decide) rfl (Nat.le_of_ble_eq_true rfl) ?_
  intro p e s m args below meth c ls cx hrt hlk hex hP hK hXs hl
  have hl : lv_has ls 5 [(0, .ref (ad 0)), (1, .int 2), (2, .int (nI nc)), (3, .int xp)] := hl
  have hS : va_S (zA ad 39 s.heap.size) s.heap s.heap [] := va_S.rf
  have hI6 : zI ad 36 := fun i j hi hj => hI i j (by omega) (by omega)
  refine lv_iload_n cx.1 cx.2.1 dL_asks_0 rfl (lv_at hl 1 rfl) ?_
  refine lv_if_ne (tgt := 12) cx.1 cx.2.1 dL_asks_1 (by decide) (fun c0 => ?_) (fun c0 => ?_)
  rotate_left
  · exact absurd c0 (by decide)
  refine lv_iload_n cx.1 cx.2.1 dL_asks_12 rfl (lv_at hl 1 rfl) ?_
  refine lv_iconst (v := 1) cx.1 cx.2.1 dL_asks_13 (by decide) ?_
  refine lv_icmp_ne (tgt := 25) cx.1 cx.2.1 dL_asks_14 (by decide) (fun c1 => ?_) (fun c1 => ?_)
  rotate_left
  · exact absurd c1 (by decide)
  refine lv_iload_n cx.1 cx.2.1 dL_asks_25 rfl (lv_at hl 1 rfl) ?_
  refine lv_iconst (v := 2) cx.1 cx.2.1 dL_asks_26 (by decide) ?_
  refine lv_icmp_ne (tgt := 39) cx.1 cx.2.1 dL_asks_27 (by decide) (fun c2 => ?_) (fun c2 => ?_)
  · exact absurd c2 (by decide)
  refine lv_aload_n cx.1 cx.2.1 dL_asks_30 rfl (lv_at hl 0 rfl) ?_
  refine lv_iload_n cx.1 cx.2.1 dL_asks_31 rfl (lv_at hl 2 rfl) ?_
  refine lv_iload_n cx.1 cx.2.1 dL_asks_32 rfl (lv_at hl 3 rfl) ?_
  refine bCallX (As := [.int (nI nc), .int xp]) (rest := []) 2 cx (xLift (qE_OK cyI ad) hI (fun U h => h) (fun A B U h hAB => xL_S A B U h hAB) (c_X6_sign l dC dI cyI cyB ad hI6 hlf S (nI nc) xp (by rw [hF.s1]; exact hF.lv))) gL_asks_X6_sign rfl ⟨rfl, rfl⟩ (by decide +kernel) ⟨(Nat.le_of_ble_eq_true rfl), (Nat.le_of_ble_eq_true rfl)⟩ (xL_X ad 39) hXs hK hP hS rfl rfl hl.1 rfl (Nat.le_of_ble_eq_true rfl) dL_asks_33 ⟨(Nat.le_of_ble_eq_true rfl), (Nat.le_of_ble_eq_true rfl)⟩ (fun E ce q9 H1 locs1 hE hP hS hce hcv hcl => ?_) (fun r T H1 locs1 hp hP hS => ?_)
  · obtain ⟨he, hv⟩ := sgn_thr hnc hE
    subst he
    refine vx_catch (own := RL) (name := xIO) (E := xIO) (hown := cx.2.2.2.1) [] (⟨0, 149, 150, 31⟩ : ExceptionTableEntry) [] (by rw [hex]; rfl) (fun z hz => by cases hz) rfl (by decide) (cx.2.2.2.2 (Cond.classLink RL 31 "java/lang/IndexOutOfBoundsException") (by decide +kernel)) (va_Nw.use rfl (hXs.1.1.2.2.2.2.2 xIO (by decide))) hce hcv hcl ?_
    refine lv_astore (lv' := [(4, .ref q9), (0, .ref (ad 0)), (1, .int 2), (2, .int (nI nc)), (3, .int xp)]) cx.1 cx.2.1 dL_asks_150 hl (by decide) rfl (fun ls hl => ?_)
    refine lv_ldc (own := RL) (v := (-3000000)) cx.1 cx.2.1 cx.2.2.2.1 (cx.2.2.2.2 (Cond.constant RL 33 (-3000000)) (by decide +kernel)) dL_asks_152 ?_
    exact bRet cx hrt hlk rfl hS hP ⟨hv.symm, rfl⟩ (Nat.le_of_ble_eq_true rfl) (Nat.le_of_ble_eq_true rfl) dL_asks_154
  · obtain ⟨T0, ⟨h1, h2, h3⟩, h4⟩ := hp
    rw [h4, h2, mix_S] at hP
    subst h1
    refine lv_goto (tgt := 149) cx.1 cx.2.1 dL_asks_36 (by decide) ?_
    exact bRet cx hrt hlk rfl hS hP ⟨sgn_ok hnc h3, rfl⟩ (Nat.le_of_ble_eq_true rfl) (Nat.le_of_ble_eq_true rfl) dL_asks_149
