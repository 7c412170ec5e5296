/-! THE TEXTS OF CELLS -/
def sgT (v w p : Int32) : Int32 := if p < 0 then (-3000000) else if nI (textL v w).length ≤ p then (-3000000) else (textL v w).getD p.toNatClampNeg 0
theorem sgn_e {S F : zS} (H : LF S F) {c : Nat} (hc : c < 64) (p : Int32) : sgn S c p = sgT (S 20 c) (S 21 c) p := by
  unfold sgn f_X6_sign txL sgT
  rw [rg_nI hc (by decide), rg_nI hc (by decide), H.s0, H.s1]
theorem sgn_k0 {S F : zS} (H : LF S F) {c : Nat} (hc : c < 64) (hk : S 20 c = 0) : sgn S c 0 = 46 ∧ sgn S c (1 - 1) = 46 ∧ sgn S c 1 = (-3000000) ∧ sgn S c (-1) = (-3000000) := by
  simp only [sgn_e H hc, hk]
  rcases H.lv c hc with z | z | z | z <;> rw [z] <;> decide +kernel
theorem sgn_k1 {S F : zS} (H : LF S F) {c : Nat} (hc : c < 64) (hk : S 20 c = 1) : sgn S c 0 = 35 ∧ sgn S c (1 - 1) = 35 ∧ sgn S c 1 = (-3000000) ∧ sgn S c (-1) = (-3000000) := by
  simp only [sgn_e H hc, hk]
  rcases H.lv c hc with z | z | z | z <;> rw [z] <;> decide +kernel
theorem sgn_k2 {S F : zS} (H : LF S F) {c : Nat} (hc : c < 64) (hk : S 20 c = 2) : sgn S c 0 = 72 ∧ sgn S c (2 - 1) = 48 + S 21 c ∧ sgn S c 2 = (-3000000) ∧ sgn S c (-1) = (-3000000) := by
  simp only [sgn_e H hc, hk]
  rcases H.lv c hc with z | z | z | z <;> rw [z] <;> decide +kernel
theorem sgn_k3 {S F : zS} (H : LF S F) {c : Nat} (hc : c < 64) (hk : S 20 c = 3) : sgn S c 0 = 84 ∧ sgn S c (2 - 1) = 48 + S 21 c ∧ sgn S c 2 = (-3000000) ∧ sgn S c (-1) = (-3000000) := by
  simp only [sgn_e H hc, hk]
  rcases H.lv c hc with z | z | z | z <;> rw [z] <;> decide +kernel
theorem sgn_k4 {S F : zS} (H : LF S F) {c : Nat} (hc : c < 64) (hk : S 20 c = 4) : sgn S c 0 = 112 ∧ sgn S c (4 - 1) = 107 ∧ sgn S c 4 = (-3000000) ∧ sgn S c (-1) = (-3000000) := by
  simp only [sgn_e H hc, hk]
  rcases H.lv c hc with z | z | z | z <;> rw [z] <;> decide +kernel
theorem sgn_k5 {S F : zS} (H : LF S F) {c : Nat} (hc : c < 64) (hk : S 20 c = 5) : sgn S c 0 = 112 ∧ sgn S c (5 - 1) = 114 ∧ sgn S c 5 = (-3000000) ∧ sgn S c (-1) = (-3000000) := by
  simp only [sgn_e H hc, hk]
  rcases H.lv c hc with z | z | z | z <;> rw [z] <;> decide +kernel
theorem sgn_k6 {S F : zS} (H : LF S F) {c : Nat} (hc : c < 64) (hk : S 20 c = 6) : sgn S c 0 = 119 ∧ sgn S c (5 - 1) = 114 ∧ sgn S c 5 = (-3000000) ∧ sgn S c (-1) = (-3000000) := by
  simp only [sgn_e H hc, hk]
  rcases H.lv c hc with z | z | z | z <;> rw [z] <;> decide +kernel
set_option maxHeartbeats 4000000 in
set_option maxRecDepth 100000 in
theorem c_L_isText0 (l : Launch) (dC : Nat → ClassId) (dI : Nat → Nat → Nat) (cyI cyB : ClassId) (ad : Nat → Nat) (hI : zI ad 39) (hlf : l.stackTraces = false) (S : zS) (F : zS) (hF : LF S F) (nc : Nat) (hnc : nc < 64) (hk : S 20 nc = 0) : bMet l (dC, dI) (lTys cyI cyB) ad 39 xL (qw cyI ad) yL_isText wsL_isText ({ frames := 14, cells := 32, slots := 256, locals := 447 } : Room) [.ref (ad 0), .ref (ad 36), .ref (ad 37), .int (nI nc)] S 32 256 (fun v T => v = 1 ∧ T = S) := by
  refine bStart (by decide) rfl (Nat.le_of_ble_eq_true rfl) ?_
  intro p e s m args below meth c ls cx hrt hlk hP hK hXs hl
  have hl : lv_has ls 8 [(0, .ref (ad 0)), (1, .ref (ad 36)), (2, .ref (ad 37)), (3, .int (nI nc))] := hl
  have hS : va_S (zA ad 39 s.heap.size) s.heap s.heap [] := va_S.rf
  refine lv_aload_n cx.1 cx.2.1 dL_isText_0 rfl (lv_at hl 1 rfl) ?_
  refine lv_iload_n cx.1 cx.2.1 dL_isText_1 rfl (lv_at hl 3 rfl) ?_
  refine zIldN cx hK hP 36 0 rfl rfl (nc) (by omega) (by decide) rfl dL_isText_2 ?_
  rw [hk]
  refine lv_istore (lv' := [(4, .int 0), (0, .ref (ad 0)), (1, .ref (ad 36)), (2, .ref (ad 37)), (3, .int (nI nc))]) cx.1 cx.2.1 dL_isText_3 hl (by decide) rfl (fun ls hl => ?_)
  refine lv_iload cx.1 cx.2.1 dL_isText_5 (lv_at hl 0 rfl) ?_
  refine lv_iconst (v := 2) cx.1 cx.2.1 dL_isText_7 (by decide) ?_
  refine lv_icmp_ge (tgt := 15) cx.1 cx.2.1 dL_isText_8 (by decide) (fun c1 => ?_) (fun c1 => ?_)
  · exact absurd c1 (by decide)
  refine lv_iconst (v := 1) cx.1 cx.2.1 dL_isText_11 (by decide) ?_
  refine lv_goto (tgt := 36) cx.1 cx.2.1 dL_isText_12 (by decide) ?_
  refine lv_istore (lv' := [(5, .int 1), (4, .int 0), (0, .ref (ad 0)), (1, .ref (ad 36)), (2, .ref (ad 37)), (3, .int (nI nc))]) cx.1 cx.2.1 dL_isText_36 hl (by decide) rfl (fun ls hl => ?_)
  refine lv_aload_n cx.1 cx.2.1 dL_isText_38 rfl (lv_at hl 2 rfl) ?_
  refine lv_iconst (v := 2) cx.1 cx.2.1 dL_isText_39 (by decide) ?_
  refine lv_iload_n cx.1 cx.2.1 dL_isText_40 rfl (lv_at hl 5 rfl) ?_
  refine lv_iconst (v := 0) cx.1 cx.2.1 dL_isText_41 (by decide) ?_
  refine bCallW (As := [.ref (ad 0), .int 2, .int (nI nc), .int 0]) (rest := []) 4 cx (c_L_asks2 l dC dI cyI cyB ad hI hlf S F hF nc 0 (by omega)) gL_isText_L_asks rfl ⟨rfl, rfl⟩ (by decide +kernel) ⟨Nat.le_of_ble_eq_true rfl, Nat.le_of_ble_eq_true rfl⟩ (xL_X ad 39) hXs hK hP hS rfl hl.1 rfl (Nat.le_of_ble_eq_true rfl) dL_isText_42 ⟨Nat.le_of_ble_eq_true rfl, Nat.le_of_ble_eq_true rfl⟩ (fun r T2 H locs hp hP hS => ?_)
  obtain ⟨h7, h8⟩ := hp
  subst h7
  rw [h8] at hP
  rw [(sgn_k0 hF hnc hk).1]
  refine lv_istore (lv' := [(6, .int 46), (5, .int 1), (4, .int 0), (0, .ref (ad 0)), (1, .ref (ad 36)), (2, .ref (ad 37)), (3, .int (nI nc))]) cx.1 cx.2.1 dL_isText_45 hl (by decide) rfl (fun ls hl => ?_)
  refine lv_aload_n cx.1 cx.2.1 dL_isText_47 rfl (lv_at hl 3 rfl) ?_
  refine lv_iconst (v := 2) cx.1 cx.2.1 dL_isText_48 (by decide) ?_
  refine lv_iload_n cx.1 cx.2.1 dL_isText_49 rfl (lv_at hl 6 rfl) ?_
  refine lv_iload cx.1 cx.2.1 dL_isText_50 (lv_at hl 1 rfl) ?_
  refine lv_iconst (v := 1) cx.1 cx.2.1 dL_isText_52 (by decide) ?_
  refine lv_isub cx.1 cx.2.1 dL_isText_53 ?_
  refine bCallW (As := [.ref (ad 0), .int 2, .int (nI nc), .int (1 - 1)]) (rest := []) 4 cx (c_L_asks2 l dC dI cyI cyB ad hI hlf S F hF nc (1 - 1) (by omega)) gL_isText_L_asks rfl ⟨rfl, rfl⟩ (by decide +kernel) ⟨Nat.le_of_ble_eq_true rfl, Nat.le_of_ble_eq_true rfl⟩ (xL_X ad 39) hXs hK hP hS rfl hl.1 rfl (Nat.le_of_ble_eq_true rfl) dL_isText_54 ⟨Nat.le_of_ble_eq_true rfl, Nat.le_of_ble_eq_true rfl⟩ (fun r T3 H locs hp hP hS => ?_)
  obtain ⟨h7, h8⟩ := hp
  subst h7
  rw [h8] at hP
  rw [(sgn_k0 hF hnc hk).2.1]
  refine lv_istore (lv' := [(7, .int 46), (6, .int 46), (5, .int 1), (4, .int 0), (0, .ref (ad 0)), (1, .ref (ad 36)), (2, .ref (ad 37)), (3, .int (nI nc))]) cx.1 cx.2.1 dL_isText_57 hl (by decide) rfl (fun ls hl => ?_)
  refine lv_aload_n cx.1 cx.2.1 dL_isText_59 rfl (lv_at hl 4 rfl) ?_
  refine lv_iconst (v := 2) cx.1 cx.2.1 dL_isText_60 (by decide) ?_
  refine lv_iload_n cx.1 cx.2.1 dL_isText_61 rfl (lv_at hl 7 rfl) ?_
  refine lv_iload cx.1 cx.2.1 dL_isText_62 (lv_at hl 2 rfl) ?_
  refine bCallW (As := [.ref (ad 0), .int 2, .int (nI nc), .int 1]) (rest := []) 4 cx (c_L_asks2 l dC dI cyI cyB ad hI hlf S F hF nc 1 (by omega)) gL_isText_L_asks rfl ⟨rfl, rfl⟩ (by decide +kernel) ⟨Nat.le_of_ble_eq_true rfl, Nat.le_of_ble_eq_true rfl⟩ (xL_X ad 39) hXs hK hP hS rfl hl.1 rfl (Nat.le_of_ble_eq_true rfl) dL_isText_64 ⟨Nat.le_of_ble_eq_true rfl, Nat.le_of_ble_eq_true rfl⟩ (fun r T4 H locs hp hP hS => ?_)
  obtain ⟨h7, h8⟩ := hp
  subst h7
  rw [h8] at hP
  rw [(sgn_k0 hF hnc hk).2.2.1]
  refine lv_ldc (own := RL) (v := (-3000000)) cx.1 cx.2.1 cx.2.2.2.1 (cx.2.2.2.2 (Cond.constant RL 33 (-3000000)) (by decide +kernel)) dL_isText_67 ?_
  refine lv_icmp_ne (tgt := 189) cx.1 cx.2.1 dL_isText_69 (by decide) (fun c5 => ?_) (fun c5 => ?_)
  · exact absurd c5 (by decide)
  refine lv_aload_n cx.1 cx.2.1 dL_isText_72 rfl (lv_at hl 4 rfl) ?_
  refine lv_iconst (v := 2) cx.1 cx.2.1 dL_isText_73 (by decide) ?_
  refine lv_iload_n cx.1 cx.2.1 dL_isText_74 rfl (lv_at hl 7 rfl) ?_
  refine lv_iconst (v := (-1)) cx.1 cx.2.1 dL_isText_75 (by decide) ?_
  refine bCallW (As := [.ref (ad 0), .int 2, .int (nI nc), .int (-1)]) (rest := []) 4 cx (c_L_asks2 l dC dI cyI cyB ad hI hlf S F hF nc (-1) (by omega)) gL_isText_L_asks rfl ⟨rfl, rfl⟩ (by decide +kernel) ⟨Nat.le_of_ble_eq_true rfl, Nat.le_of_ble_eq_true rfl⟩ (xL_X ad 39) hXs hK hP hS rfl hl.1 rfl (Nat.le_of_ble_eq_true rfl) dL_isText_76 ⟨Nat.le_of_ble_eq_true rfl, Nat.le_of_ble_eq_true rfl⟩ (fun r T6 H locs hp hP hS => ?_)
  obtain ⟨h7, h8⟩ := hp
  subst h7
  rw [h8] at hP
  rw [(sgn_k0 hF hnc hk).2.2.2]
  refine lv_ldc (own := RL) (v := (-3000000)) cx.1 cx.2.1 cx.2.2.2.1 (cx.2.2.2.2 (Cond.constant RL 33 (-3000000)) (by decide +kernel)) dL_isText_79 ?_
  refine lv_icmp_ne (tgt := 189) cx.1 cx.2.1 dL_isText_81 (by decide) (fun c7 => ?_) (fun c7 => ?_)
  · exact absurd c7 (by decide)
  refine lv_iload cx.1 cx.2.1 dL_isText_84 (lv_at hl 1 rfl) ?_
  refine lv_iload cx.1 cx.2.1 dL_isText_86 (lv_at hl 3 rfl) ?_
  refine lv_if_ne (tgt := 96) cx.1 cx.2.1 dL_isText_88 (by decide) (fun c8 => ?_) (fun c8 => ?_)
  · exact absurd c8 (by decide)
  refine lv_bipush (v := 46) cx.1 cx.2.1 dL_isText_91 (by decide) ?_
  refine lv_goto (tgt := 143) cx.1 cx.2.1 dL_isText_93 (by decide) ?_
  refine lv_icmp_ne (tgt := 189) cx.1 cx.2.1 dL_isText_143 (by decide) (fun c9 => ?_) (fun c9 => ?_)
  · exact absurd c9 (by decide)
  refine lv_iload cx.1 cx.2.1 dL_isText_146 (lv_at hl 3 rfl) ?_
  refine lv_iconst (v := 2) cx.1 cx.2.1 dL_isText_148 (by decide) ?_
  refine lv_icmp_lt (tgt := 185) cx.1 cx.2.1 dL_isText_149 (by decide) (fun c10 => ?_) (fun c10 => ?_)
  rotate_left
  · exact absurd c10 (by decide)
  refine lv_iconst (v := 1) cx.1 cx.2.1 dL_isText_185 (by decide) ?_
  refine lv_goto (tgt := 190) cx.1 cx.2.1 dL_isText_186 (by decide) ?_
  exact bRet (v := 1) cx hrt hlk (by first | rfl | decide) hS hP ⟨rfl, rfl⟩ (Nat.le_of_ble_eq_true rfl) (Nat.le_of_ble_eq_true rfl) dL_isText_190
set_option maxHeartbeats 4000000 in
set_option maxRecDepth 100000 in
theorem c_L_isText1 (l : Launch) (dC : Nat → ClassId) (dI : Nat → Nat → Nat) (cyI cyB : ClassId) (ad : Nat → Nat) (hI : zI ad 39) (hlf : l.stackTraces = false) (S : zS) (F : zS) (hF : LF S F) (nc : Nat) (hnc : nc < 64) (hk : S 20 nc = 1) : bMet l (dC, dI) (lTys cyI cyB) ad 39 xL (qw cyI ad) yL_isText wsL_isText ({ frames := 14, cells := 32, slots := 256, locals := 447 } : Room) [.ref (ad 0), .ref (ad 36), .ref (ad 37), .int (nI nc)] S 32 256 (fun v T => v = 1 ∧ T = S) := by
  refine bStart (by decide) rfl (Nat.le_of_ble_eq_true rfl) ?_
  intro p e s m args below meth c ls cx hrt hlk hP hK hXs hl
  have hl : lv_has ls 8 [(0, .ref (ad 0)), (1, .ref (ad 36)), (2, .ref (ad 37)), (3, .int (nI nc))] := hl
  have hS : va_S (zA ad 39 s.heap.size) s.heap s.heap [] := va_S.rf
  refine lv_aload_n cx.1 cx.2.1 dL_isText_0 rfl (lv_at hl 1 rfl) ?_
  refine lv_iload_n cx.1 cx.2.1 dL_isText_1 rfl (lv_at hl 3 rfl) ?_
  refine zIldN cx hK hP 36 0 rfl rfl (nc) (by omega) (by decide) rfl dL_isText_2 ?_
  rw [hk]
  refine lv_istore (lv' := [(4, .int 1), (0, .ref (ad 0)), (1, .ref (ad 36)), (2, .ref (ad 37)), (3, .int (nI nc))]) cx.1 cx.2.1 dL_isText_3 hl (by decide) rfl (fun ls hl => ?_)
  refine lv_iload cx.1 cx.2.1 dL_isText_5 (lv_at hl 0 rfl) ?_
  refine lv_iconst (v := 2) cx.1 cx.2.1 dL_isText_7 (by decide) ?_
  refine lv_icmp_ge (tgt := 15) cx.1 cx.2.1 dL_isText_8 (by decide) (fun c1 => ?_) (fun c1 => ?_)
  · exact absurd c1 (by decide)
  refine lv_iconst (v := 1) cx.1 cx.2.1 dL_isText_11 (by decide) ?_
  refine lv_goto (tgt := 36) cx.1 cx.2.1 dL_isText_12 (by decide) ?_
  refine lv_istore (lv' := [(5, .int 1), (4, .int 1), (0, .ref (ad 0)), (1, .ref (ad 36)), (2, .ref (ad 37)), (3, .int (nI nc))]) cx.1 cx.2.1 dL_isText_36 hl (by decide) rfl (fun ls hl => ?_)
  refine lv_aload_n cx.1 cx.2.1 dL_isText_38 rfl (lv_at hl 2 rfl) ?_
  refine lv_iconst (v := 2) cx.1 cx.2.1 dL_isText_39 (by decide) ?_
  refine lv_iload_n cx.1 cx.2.1 dL_isText_40 rfl (lv_at hl 5 rfl) ?_
  refine lv_iconst (v := 0) cx.1 cx.2.1 dL_isText_41 (by decide) ?_
  refine bCallW (As := [.ref (ad 0), .int 2, .int (nI nc), .int 0]) (rest := []) 4 cx (c_L_asks2 l dC dI cyI cyB ad hI hlf S F hF nc 0 (by omega)) gL_isText_L_asks rfl ⟨rfl, rfl⟩ (by decide +kernel) ⟨Nat.le_of_ble_eq_true rfl, Nat.le_of_ble_eq_true rfl⟩ (xL_X ad 39) hXs hK hP hS rfl hl.1 rfl (Nat.le_of_ble_eq_true rfl) dL_isText_42 ⟨Nat.le_of_ble_eq_true rfl, Nat.le_of_ble_eq_true rfl⟩ (fun r T2 H locs hp hP hS => ?_)
  obtain ⟨h7, h8⟩ := hp
  subst h7
  rw [h8] at hP
  rw [(sgn_k1 hF hnc hk).1]
  refine lv_istore (lv' := [(6, .int 35), (5, .int 1), (4, .int 1), (0, .ref (ad 0)), (1, .ref (ad 36)), (2, .ref (ad 37)), (3, .int (nI nc))]) cx.1 cx.2.1 dL_isText_45 hl (by decide) rfl (fun ls hl => ?_)
  refine lv_aload_n cx.1 cx.2.1 dL_isText_47 rfl (lv_at hl 3 rfl) ?_
  refine lv_iconst (v := 2) cx.1 cx.2.1 dL_isText_48 (by decide) ?_
  refine lv_iload_n cx.1 cx.2.1 dL_isText_49 rfl (lv_at hl 6 rfl) ?_
  refine lv_iload cx.1 cx.2.1 dL_isText_50 (lv_at hl 1 rfl) ?_
  refine lv_iconst (v := 1) cx.1 cx.2.1 dL_isText_52 (by decide) ?_
  refine lv_isub cx.1 cx.2.1 dL_isText_53 ?_
  refine bCallW (As := [.ref (ad 0), .int 2, .int (nI nc), .int (1 - 1)]) (rest := []) 4 cx (c_L_asks2 l dC dI cyI cyB ad hI hlf S F hF nc (1 - 1) (by omega)) gL_isText_L_asks rfl ⟨rfl, rfl⟩ (by decide +kernel) ⟨Nat.le_of_ble_eq_true rfl, Nat.le_of_ble_eq_true rfl⟩ (xL_X ad 39) hXs hK hP hS rfl hl.1 rfl (Nat.le_of_ble_eq_true rfl) dL_isText_54 ⟨Nat.le_of_ble_eq_true rfl, Nat.le_of_ble_eq_true rfl⟩ (fun r T3 H locs hp hP hS => ?_)
  obtain ⟨h7, h8⟩ := hp
  subst h7
  rw [h8] at hP
  rw [(sgn_k1 hF hnc hk).2.1]
  refine lv_istore (lv' := [(7, .int 35), (6, .int 35), (5, .int 1), (4, .int 1), (0, .ref (ad 0)), (1, .ref (ad 36)), (2, .ref (ad 37)), (3, .int (nI nc))]) cx.1 cx.2.1 dL_isText_57 hl (by decide) rfl (fun ls hl => ?_)
  refine lv_aload_n cx.1 cx.2.1 dL_isText_59 rfl (lv_at hl 4 rfl) ?_
  refine lv_iconst (v := 2) cx.1 cx.2.1 dL_isText_60 (by decide) ?_
  refine lv_iload_n cx.1 cx.2.1 dL_isText_61 rfl (lv_at hl 7 rfl) ?_
  refine lv_iload cx.1 cx.2.1 dL_isText_62 (lv_at hl 2 rfl) ?_
  refine bCallW (As := [.ref (ad 0), .int 2, .int (nI nc), .int 1]) (rest := []) 4 cx (c_L_asks2 l dC dI cyI cyB ad hI hlf S F hF nc 1 (by omega)) gL_isText_L_asks rfl ⟨rfl, rfl⟩ (by decide +kernel) ⟨Nat.le_of_ble_eq_true rfl, Nat.le_of_ble_eq_true rfl⟩ (xL_X ad 39) hXs hK hP hS rfl hl.1 rfl (Nat.le_of_ble_eq_true rfl) dL_isText_64 ⟨Nat.le_of_ble_eq_true rfl, Nat.le_of_ble_eq_true rfl⟩ (fun r T4 H locs hp hP hS => ?_)
  obtain ⟨h7, h8⟩ := hp
  subst h7
  rw [h8] at hP
  rw [(sgn_k1 hF hnc hk).2.2.1]
  refine lv_ldc (own := RL) (v := (-3000000)) cx.1 cx.2.1 cx.2.2.2.1 (cx.2.2.2.2 (Cond.constant RL 33 (-3000000)) (by decide +kernel)) dL_isText_67 ?_
  refine lv_icmp_ne (tgt := 189) cx.1 cx.2.1 dL_isText_69 (by decide) (fun c5 => ?_) (fun c5 => ?_)
  · exact absurd c5 (by decide)
  refine lv_aload_n cx.1 cx.2.1 dL_isText_72 rfl (lv_at hl 4 rfl) ?_
  refine lv_iconst (v := 2) cx.1 cx.2.1 dL_isText_73 (by decide) ?_
  refine lv_iload_n cx.1 cx.2.1 dL_isText_74 rfl (lv_at hl 7 rfl) ?_
  refine lv_iconst (v := (-1)) cx.1 cx.2.1 dL_isText_75 (by decide) ?_
  refine bCallW (As := [.ref (ad 0), .int 2, .int (nI nc), .int (-1)]) (rest := []) 4 cx (c_L_asks2 l dC dI cyI cyB ad hI hlf S F hF nc (-1) (by omega)) gL_isText_L_asks rfl ⟨rfl, rfl⟩ (by decide +kernel) ⟨Nat.le_of_ble_eq_true rfl, Nat.le_of_ble_eq_true rfl⟩ (xL_X ad 39) hXs hK hP hS rfl hl.1 rfl (Nat.le_of_ble_eq_true rfl) dL_isText_76 ⟨Nat.le_of_ble_eq_true rfl, Nat.le_of_ble_eq_true rfl⟩ (fun r T6 H locs hp hP hS => ?_)
  obtain ⟨h7, h8⟩ := hp
  subst h7
  rw [h8] at hP
  rw [(sgn_k1 hF hnc hk).2.2.2]
  refine lv_ldc (own := RL) (v := (-3000000)) cx.1 cx.2.1 cx.2.2.2.1 (cx.2.2.2.2 (Cond.constant RL 33 (-3000000)) (by decide +kernel)) dL_isText_79 ?_
  refine lv_icmp_ne (tgt := 189) cx.1 cx.2.1 dL_isText_81 (by decide) (fun c7 => ?_) (fun c7 => ?_)
  · exact absurd c7 (by decide)
  refine lv_iload cx.1 cx.2.1 dL_isText_84 (lv_at hl 1 rfl) ?_
  refine lv_iload cx.1 cx.2.1 dL_isText_86 (lv_at hl 3 rfl) ?_
  refine lv_if_ne (tgt := 96) cx.1 cx.2.1 dL_isText_88 (by decide) (fun c8 => ?_) (fun c8 => ?_)
  rotate_left
  · exact absurd c8 (by decide)
  refine lv_iload cx.1 cx.2.1 dL_isText_96 (lv_at hl 3 rfl) ?_
  refine lv_iconst (v := 1) cx.1 cx.2.1 dL_isText_98 (by decide) ?_
  refine lv_icmp_ne (tgt := 107) cx.1 cx.2.1 dL_isText_99 (by decide) (fun c9 => ?_) (fun c9 => ?_)
  · exact absurd c9 (by decide)
  refine lv_bipush (v := 35) cx.1 cx.2.1 dL_isText_102 (by decide) ?_
  refine lv_goto (tgt := 143) cx.1 cx.2.1 dL_isText_104 (by decide) ?_
  refine lv_icmp_ne (tgt := 189) cx.1 cx.2.1 dL_isText_143 (by decide) (fun c10 => ?_) (fun c10 => ?_)
  · exact absurd c10 (by decide)
  refine lv_iload cx.1 cx.2.1 dL_isText_146 (lv_at hl 3 rfl) ?_
  refine lv_iconst (v := 2) cx.1 cx.2.1 dL_isText_148 (by decide) ?_
  refine lv_icmp_lt (tgt := 185) cx.1 cx.2.1 dL_isText_149 (by decide) (fun c11 => ?_) (fun c11 => ?_)
  rotate_left
  · exact absurd c11 (by decide)
  refine lv_iconst (v := 1) cx.1 cx.2.1 dL_isText_185 (by decide) ?_
  refine lv_goto (tgt := 190) cx.1 cx.2.1 dL_isText_186 (by decide) ?_
  exact bRet (v := 1) cx hrt hlk (by first | rfl | decide) hS hP ⟨rfl, rfl⟩ (Nat.le_of_ble_eq_true rfl) (Nat.le_of_ble_eq_true rfl) dL_isText_190
set_option maxHeartbeats 4000000 in
set_option maxRecDepth 100000 in
theorem c_L_isText2 (l : Launch) (dC : Nat → ClassId) (dI : Nat → Nat → Nat) (cyI cyB : ClassId) (ad : Nat → Nat) (hI : zI ad 39) (hlf : l.stackTraces = false) (S : zS) (F : zS) (hF : LF S F) (nc : Nat) (hnc : nc < 64) (hk : S 20 nc = 2) : bMet l (dC, dI) (lTys cyI cyB) ad 39 xL (qw cyI ad) yL_isText wsL_isText ({ frames := 14, cells := 32, slots := 256, locals := 447 } : Room) [.ref (ad 0), .ref (ad 36), .ref (ad 37), .int (nI nc)] S 32 256 (fun v T => v = 1 ∧ T = S) := by
  refine bStart (by decide) rfl (Nat.le_of_ble_eq_true rfl) ?_
  intro p e s m args below meth c ls cx hrt hlk hP hK hXs hl
  have hl : lv_has ls 8 [(0, .ref (ad 0)), (1, .ref (ad 36)), (2, .ref (ad 37)), (3, .int (nI nc))] := hl
  have hS : va_S (zA ad 39 s.heap.size) s.heap s.heap [] := va_S.rf
  refine lv_aload_n cx.1 cx.2.1 dL_isText_0 rfl (lv_at hl 1 rfl) ?_
  refine lv_iload_n cx.1 cx.2.1 dL_isText_1 rfl (lv_at hl 3 rfl) ?_
  refine zIldN cx hK hP 36 0 rfl rfl (nc) (by omega) (by decide) rfl dL_isText_2 ?_
  rw [hk]
  refine lv_istore (lv' := [(4, .int 2), (0, .ref (ad 0)), (1, .ref (ad 36)), (2, .ref (ad 37)), (3, .int (nI nc))]) cx.1 cx.2.1 dL_isText_3 hl (by decide) rfl (fun ls hl => ?_)
  refine lv_iload cx.1 cx.2.1 dL_isText_5 (lv_at hl 0 rfl) ?_
  refine lv_iconst (v := 2) cx.1 cx.2.1 dL_isText_7 (by decide) ?_
  refine lv_icmp_ge (tgt := 15) cx.1 cx.2.1 dL_isText_8 (by decide) (fun c1 => ?_) (fun c1 => ?_)
  rotate_left
  · exact absurd c1 (by decide)
  refine lv_iload cx.1 cx.2.1 dL_isText_15 (lv_at hl 0 rfl) ?_
  refine lv_iconst (v := 4) cx.1 cx.2.1 dL_isText_17 (by decide) ?_
  refine lv_icmp_ge (tgt := 25) cx.1 cx.2.1 dL_isText_18 (by decide) (fun c2 => ?_) (fun c2 => ?_)
  · exact absurd c2 (by decide)
  refine lv_iconst (v := 2) cx.1 cx.2.1 dL_isText_21 (by decide) ?_
  refine lv_goto (tgt := 36) cx.1 cx.2.1 dL_isText_22 (by decide) ?_
  refine lv_istore (lv' := [(5, .int 2), (4, .int 2), (0, .ref (ad 0)), (1, .ref (ad 36)), (2, .ref (ad 37)), (3, .int (nI nc))]) cx.1 cx.2.1 dL_isText_36 hl (by decide) rfl (fun ls hl => ?_)
  refine lv_aload_n cx.1 cx.2.1 dL_isText_38 rfl (lv_at hl 2 rfl) ?_
  refine lv_iconst (v := 2) cx.1 cx.2.1 dL_isText_39 (by decide) ?_
  refine lv_iload_n cx.1 cx.2.1 dL_isText_40 rfl (lv_at hl 5 rfl) ?_
  refine lv_iconst (v := 0) cx.1 cx.2.1 dL_isText_41 (by decide) ?_
  refine bCallW (As := [.ref (ad 0), .int 2, .int (nI nc), .int 0]) (rest := []) 4 cx (c_L_asks2 l dC dI cyI cyB ad hI hlf S F hF nc 0 (by omega)) gL_isText_L_asks rfl ⟨rfl, rfl⟩ (by decide +kernel) ⟨Nat.le_of_ble_eq_true rfl, Nat.le_of_ble_eq_true rfl⟩ (xL_X ad 39) hXs hK hP hS rfl hl.1 rfl (Nat.le_of_ble_eq_true rfl) dL_isText_42 ⟨Nat.le_of_ble_eq_true rfl, Nat.le_of_ble_eq_true rfl⟩ (fun r T3 H locs hp hP hS => ?_)
  obtain ⟨h7, h8⟩ := hp
  subst h7
  rw [h8] at hP
  rw [(sgn_k2 hF hnc hk).1]
  refine lv_istore (lv' := [(6, .int 72), (5, .int 2), (4, .int 2), (0, .ref (ad 0)), (1, .ref (ad 36)), (2, .ref (ad 37)), (3, .int (nI nc))]) cx.1 cx.2.1 dL_isText_45 hl (by decide) rfl (fun ls hl => ?_)
  refine lv_aload_n cx.1 cx.2.1 dL_isText_47 rfl (lv_at hl 3 rfl) ?_
  refine lv_iconst (v := 2) cx.1 cx.2.1 dL_isText_48 (by decide) ?_
  refine lv_iload_n cx.1 cx.2.1 dL_isText_49 rfl (lv_at hl 6 rfl) ?_
  refine lv_iload cx.1 cx.2.1 dL_isText_50 (lv_at hl 1 rfl) ?_
  refine lv_iconst (v := 1) cx.1 cx.2.1 dL_isText_52 (by decide) ?_
  refine lv_isub cx.1 cx.2.1 dL_isText_53 ?_
  refine bCallW (As := [.ref (ad 0), .int 2, .int (nI nc), .int (2 - 1)]) (rest := []) 4 cx (c_L_asks2 l dC dI cyI cyB ad hI hlf S F hF nc (2 - 1) (by omega)) gL_isText_L_asks rfl ⟨rfl, rfl⟩ (by decide +kernel) ⟨Nat.le_of_ble_eq_true rfl, Nat.le_of_ble_eq_true rfl⟩ (xL_X ad 39) hXs hK hP hS rfl hl.1 rfl (Nat.le_of_ble_eq_true rfl) dL_isText_54 ⟨Nat.le_of_ble_eq_true rfl, Nat.le_of_ble_eq_true rfl⟩ (fun r T4 H locs hp hP hS => ?_)
  obtain ⟨h7, h8⟩ := hp
  subst h7
  rw [h8] at hP
  rw [(sgn_k2 hF hnc hk).2.1]
  refine lv_istore (lv' := [(7, .int (48 + (S 21 nc))), (6, .int 72), (5, .int 2), (4, .int 2), (0, .ref (ad 0)), (1, .ref (ad 36)), (2, .ref (ad 37)), (3, .int (nI nc))]) cx.1 cx.2.1 dL_isText_57 hl (by decide) rfl (fun ls hl => ?_)
  refine lv_aload_n cx.1 cx.2.1 dL_isText_59 rfl (lv_at hl 4 rfl) ?_
  refine lv_iconst (v := 2) cx.1 cx.2.1 dL_isText_60 (by decide) ?_
  refine lv_iload_n cx.1 cx.2.1 dL_isText_61 rfl (lv_at hl 7 rfl) ?_
  refine lv_iload cx.1 cx.2.1 dL_isText_62 (lv_at hl 2 rfl) ?_
  refine bCallW (As := [.ref (ad 0), .int 2, .int (nI nc), .int 2]) (rest := []) 4 cx (c_L_asks2 l dC dI cyI cyB ad hI hlf S F hF nc 2 (by omega)) gL_isText_L_asks rfl ⟨rfl, rfl⟩ (by decide +kernel) ⟨Nat.le_of_ble_eq_true rfl, Nat.le_of_ble_eq_true rfl⟩ (xL_X ad 39) hXs hK hP hS rfl hl.1 rfl (Nat.le_of_ble_eq_true rfl) dL_isText_64 ⟨Nat.le_of_ble_eq_true rfl, Nat.le_of_ble_eq_true rfl⟩ (fun r T5 H locs hp hP hS => ?_)
  obtain ⟨h7, h8⟩ := hp
  subst h7
  rw [h8] at hP
  rw [(sgn_k2 hF hnc hk).2.2.1]
  refine lv_ldc (own := RL) (v := (-3000000)) cx.1 cx.2.1 cx.2.2.2.1 (cx.2.2.2.2 (Cond.constant RL 33 (-3000000)) (by decide +kernel)) dL_isText_67 ?_
  refine lv_icmp_ne (tgt := 189) cx.1 cx.2.1 dL_isText_69 (by decide) (fun c6 => ?_) (fun c6 => ?_)
  · exact absurd c6 (by decide)
  refine lv_aload_n cx.1 cx.2.1 dL_isText_72 rfl (lv_at hl 4 rfl) ?_
  refine lv_iconst (v := 2) cx.1 cx.2.1 dL_isText_73 (by decide) ?_
  refine lv_iload_n cx.1 cx.2.1 dL_isText_74 rfl (lv_at hl 7 rfl) ?_
  refine lv_iconst (v := (-1)) cx.1 cx.2.1 dL_isText_75 (by decide) ?_
  refine bCallW (As := [.ref (ad 0), .int 2, .int (nI nc), .int (-1)]) (rest := []) 4 cx (c_L_asks2 l dC dI cyI cyB ad hI hlf S F hF nc (-1) (by omega)) gL_isText_L_asks rfl ⟨rfl, rfl⟩ (by decide +kernel) ⟨Nat.le_of_ble_eq_true rfl, Nat.le_of_ble_eq_true rfl⟩ (xL_X ad 39) hXs hK hP hS rfl hl.1 rfl (Nat.le_of_ble_eq_true rfl) dL_isText_76 ⟨Nat.le_of_ble_eq_true rfl, Nat.le_of_ble_eq_true rfl⟩ (fun r T7 H locs hp hP hS => ?_)
  obtain ⟨h7, h8⟩ := hp
  subst h7
  rw [h8] at hP
  rw [(sgn_k2 hF hnc hk).2.2.2]
  refine lv_ldc (own := RL) (v := (-3000000)) cx.1 cx.2.1 cx.2.2.2.1 (cx.2.2.2.2 (Cond.constant RL 33 (-3000000)) (by decide +kernel)) dL_isText_79 ?_
  refine lv_icmp_ne (tgt := 189) cx.1 cx.2.1 dL_isText_81 (by decide) (fun c8 => ?_) (fun c8 => ?_)
  · exact absurd c8 (by decide)
  refine lv_iload cx.1 cx.2.1 dL_isText_84 (lv_at hl 1 rfl) ?_
  refine lv_iload cx.1 cx.2.1 dL_isText_86 (lv_at hl 3 rfl) ?_
  refine lv_if_ne (tgt := 96) cx.1 cx.2.1 dL_isText_88 (by decide) (fun c9 => ?_) (fun c9 => ?_)
  rotate_left
  · exact absurd c9 (by decide)
  refine lv_iload cx.1 cx.2.1 dL_isText_96 (lv_at hl 3 rfl) ?_
  refine lv_iconst (v := 1) cx.1 cx.2.1 dL_isText_98 (by decide) ?_
  refine lv_icmp_ne (tgt := 107) cx.1 cx.2.1 dL_isText_99 (by decide) (fun c10 => ?_) (fun c10 => ?_)
  rotate_left
  · exact absurd c10 (by decide)
  refine lv_iload cx.1 cx.2.1 dL_isText_107 (lv_at hl 3 rfl) ?_
  refine lv_iconst (v := 2) cx.1 cx.2.1 dL_isText_109 (by decide) ?_
  refine lv_icmp_ne (tgt := 118) cx.1 cx.2.1 dL_isText_110 (by decide) (fun c11 => ?_) (fun c11 => ?_)
  · exact absurd c11 (by decide)
  refine lv_bipush (v := 72) cx.1 cx.2.1 dL_isText_113 (by decide) ?_
  refine lv_goto (tgt := 143) cx.1 cx.2.1 dL_isText_115 (by decide) ?_
  refine lv_icmp_ne (tgt := 189) cx.1 cx.2.1 dL_isText_143 (by decide) (fun c12 => ?_) (fun c12 => ?_)
  · exact absurd c12 (by decide)
  refine lv_iload cx.1 cx.2.1 dL_isText_146 (lv_at hl 3 rfl) ?_
  refine lv_iconst (v := 2) cx.1 cx.2.1 dL_isText_148 (by decide) ?_
  refine lv_icmp_lt (tgt := 185) cx.1 cx.2.1 dL_isText_149 (by decide) (fun c13 => ?_) (fun c13 => ?_)
  · exact absurd c13 (by decide)
  refine lv_iload cx.1 cx.2.1 dL_isText_152 (lv_at hl 0 rfl) ?_
  refine lv_iload cx.1 cx.2.1 dL_isText_154 (lv_at hl 3 rfl) ?_
  refine lv_iconst (v := 4) cx.1 cx.2.1 dL_isText_156 (by decide) ?_
  refine lv_icmp_ge (tgt := 169) cx.1 cx.2.1 dL_isText_157 (by decide) (fun c14 => ?_) (fun c14 => ?_)
  · exact absurd c14 (by decide)
  refine lv_bipush (v := 48) cx.1 cx.2.1 dL_isText_160 (by decide) ?_
  refine lv_aload_n cx.1 cx.2.1 dL_isText_162 rfl (lv_at hl 6 rfl) ?_
  refine lv_iload_n cx.1 cx.2.1 dL_isText_163 rfl (lv_at hl 7 rfl) ?_
  refine zIldN cx hK hP 37 0 rfl rfl (nc) (by omega) (by decide) rfl dL_isText_164 ?_
  refine lv_iadd cx.1 cx.2.1 dL_isText_165 ?_
  refine lv_goto (tgt := 182) cx.1 cx.2.1 dL_isText_166 (by decide) ?_
  refine lv_icmp_ne (tgt := 189) cx.1 cx.2.1 dL_isText_182 (by decide) (fun c15 => ?_) (fun c15 => ?_)
  · exact absurd rfl c15
  · refine lv_iconst (v := 1) cx.1 cx.2.1 dL_isText_185 (by decide) ?_
    refine lv_goto (tgt := 190) cx.1 cx.2.1 dL_isText_186 (by decide) ?_
    exact bRet (v := 1) cx hrt hlk (by first | rfl | decide) hS hP ⟨rfl, rfl⟩ (Nat.le_of_ble_eq_true rfl) (Nat.le_of_ble_eq_true rfl) dL_isText_190
set_option maxHeartbeats 4000000 in
set_option maxRecDepth 100000 in
theorem c_L_isText3 (l : Launch) (dC : Nat → ClassId) (dI : Nat → Nat → Nat) (cyI cyB : ClassId) (ad : Nat → Nat) (hI : zI ad 39) (hlf : l.stackTraces = false) (S : zS) (F : zS) (hF : LF S F) (nc : Nat) (hnc : nc < 64) (hk : S 20 nc = 3) : bMet l (dC, dI) (lTys cyI cyB) ad 39 xL (qw cyI ad) yL_isText wsL_isText ({ frames := 14, cells := 32, slots := 256, locals := 447 } : Room) [.ref (ad 0), .ref (ad 36), .ref (ad 37), .int (nI nc)] S 32 256 (fun v T => v = 1 ∧ T = S) := by
  refine bStart (by decide) rfl (Nat.le_of_ble_eq_true rfl) ?_
  intro p e s m args below meth c ls cx hrt hlk hP hK hXs hl
  have hl : lv_has ls 8 [(0, .ref (ad 0)), (1, .ref (ad 36)), (2, .ref (ad 37)), (3, .int (nI nc))] := hl
  have hS : va_S (zA ad 39 s.heap.size) s.heap s.heap [] := va_S.rf
  refine lv_aload_n cx.1 cx.2.1 dL_isText_0 rfl (lv_at hl 1 rfl) ?_
  refine lv_iload_n cx.1 cx.2.1 dL_isText_1 rfl (lv_at hl 3 rfl) ?_
  refine zIldN cx hK hP 36 0 rfl rfl (nc) (by omega) (by decide) rfl dL_isText_2 ?_
  rw [hk]
  refine lv_istore (lv' := [(4, .int 3), (0, .ref (ad 0)), (1, .ref (ad 36)), (2, .ref (ad 37)), (3, .int (nI nc))]) cx.1 cx.2.1 dL_isText_3 hl (by decide) rfl (fun ls hl => ?_)
  refine lv_iload cx.1 cx.2.1 dL_isText_5 (lv_at hl 0 rfl) ?_
  refine lv_iconst (v := 2) cx.1 cx.2.1 dL_isText_7 (by decide) ?_
  refine lv_icmp_ge (tgt := 15) cx.1 cx.2.1 dL_isText_8 (by decide) (fun c1 => ?_) (fun c1 => ?_)
  rotate_left
  · exact absurd c1 (by decide)
  refine lv_iload cx.1 cx.2.1 dL_isText_15 (lv_at hl 0 rfl) ?_
  refine lv_iconst (v := 4) cx.1 cx.2.1 dL_isText_17 (by decide) ?_
  refine lv_icmp_ge (tgt := 25) cx.1 cx.2.1 dL_isText_18 (by decide) (fun c2 => ?_) (fun c2 => ?_)
  · exact absurd c2 (by decide)
  refine lv_iconst (v := 2) cx.1 cx.2.1 dL_isText_21 (by decide) ?_
  refine lv_goto (tgt := 36) cx.1 cx.2.1 dL_isText_22 (by decide) ?_
  refine lv_istore (lv' := [(5, .int 2), (4, .int 3), (0, .ref (ad 0)), (1, .ref (ad 36)), (2, .ref (ad 37)), (3, .int (nI nc))]) cx.1 cx.2.1 dL_isText_36 hl (by decide) rfl (fun ls hl => ?_)
  refine lv_aload_n cx.1 cx.2.1 dL_isText_38 rfl (lv_at hl 2 rfl) ?_
  refine lv_iconst (v := 2) cx.1 cx.2.1 dL_isText_39 (by decide) ?_
  refine lv_iload_n cx.1 cx.2.1 dL_isText_40 rfl (lv_at hl 5 rfl) ?_
  refine lv_iconst (v := 0) cx.1 cx.2.1 dL_isText_41 (by decide) ?_
  refine bCallW (As := [.ref (ad 0), .int 2, .int (nI nc), .int 0]) (rest := []) 4 cx (c_L_asks2 l dC dI cyI cyB ad hI hlf S F hF nc 0 (by omega)) gL_isText_L_asks rfl ⟨rfl, rfl⟩ (by decide +kernel) ⟨Nat.le_of_ble_eq_true rfl, Nat.le_of_ble_eq_true rfl⟩ (xL_X ad 39) hXs hK hP hS rfl hl.1 rfl (Nat.le_of_ble_eq_true rfl) dL_isText_42 ⟨Nat.le_of_ble_eq_true rfl, Nat.le_of_ble_eq_true rfl⟩ (fun r T3 H locs hp hP hS => ?_)
  obtain ⟨h7, h8⟩ := hp
  subst h7
  rw [h8] at hP
  rw [(sgn_k3 hF hnc hk).1]
  refine lv_istore (lv' := [(6, .int 84), (5, .int 2), (4, .int 3), (0, .ref (ad 0)), (1, .ref (ad 36)), (2, .ref (ad 37)), (3, .int (nI nc))]) cx.1 cx.2.1 dL_isText_45 hl (by decide) rfl (fun ls hl => ?_)
  refine lv_aload_n cx.1 cx.2.1 dL_isText_47 rfl (lv_at hl 3 rfl) ?_
  refine lv_iconst (v := 2) cx.1 cx.2.1 dL_isText_48 (by decide) ?_
  refine lv_iload_n cx.1 cx.2.1 dL_isText_49 rfl (lv_at hl 6 rfl) ?_
  refine lv_iload cx.1 cx.2.1 dL_isText_50 (lv_at hl 1 rfl) ?_
  refine lv_iconst (v := 1) cx.1 cx.2.1 dL_isText_52 (by decide) ?_
  refine lv_isub cx.1 cx.2.1 dL_isText_53 ?_
  refine bCallW (As := [.ref (ad 0), .int 2, .int (nI nc), .int (2 - 1)]) (rest := []) 4 cx (c_L_asks2 l dC dI cyI cyB ad hI hlf S F hF nc (2 - 1) (by omega)) gL_isText_L_asks rfl ⟨rfl, rfl⟩ (by decide +kernel) ⟨Nat.le_of_ble_eq_true rfl, Nat.le_of_ble_eq_true rfl⟩ (xL_X ad 39) hXs hK hP hS rfl hl.1 rfl (Nat.le_of_ble_eq_true rfl) dL_isText_54 ⟨Nat.le_of_ble_eq_true rfl, Nat.le_of_ble_eq_true rfl⟩ (fun r T4 H locs hp hP hS => ?_)
  obtain ⟨h7, h8⟩ := hp
  subst h7
  rw [h8] at hP
  rw [(sgn_k3 hF hnc hk).2.1]
  refine lv_istore (lv' := [(7, .int (48 + (S 21 nc))), (6, .int 84), (5, .int 2), (4, .int 3), (0, .ref (ad 0)), (1, .ref (ad 36)), (2, .ref (ad 37)), (3, .int (nI nc))]) cx.1 cx.2.1 dL_isText_57 hl (by decide) rfl (fun ls hl => ?_)
  refine lv_aload_n cx.1 cx.2.1 dL_isText_59 rfl (lv_at hl 4 rfl) ?_
  refine lv_iconst (v := 2) cx.1 cx.2.1 dL_isText_60 (by decide) ?_
  refine lv_iload_n cx.1 cx.2.1 dL_isText_61 rfl (lv_at hl 7 rfl) ?_
  refine lv_iload cx.1 cx.2.1 dL_isText_62 (lv_at hl 2 rfl) ?_
  refine bCallW (As := [.ref (ad 0), .int 2, .int (nI nc), .int 2]) (rest := []) 4 cx (c_L_asks2 l dC dI cyI cyB ad hI hlf S F hF nc 2 (by omega)) gL_isText_L_asks rfl ⟨rfl, rfl⟩ (by decide +kernel) ⟨Nat.le_of_ble_eq_true rfl, Nat.le_of_ble_eq_true rfl⟩ (xL_X ad 39) hXs hK hP hS rfl hl.1 rfl (Nat.le_of_ble_eq_true rfl) dL_isText_64 ⟨Nat.le_of_ble_eq_true rfl, Nat.le_of_ble_eq_true rfl⟩ (fun r T5 H locs hp hP hS => ?_)
  obtain ⟨h7, h8⟩ := hp
  subst h7
  rw [h8] at hP
  rw [(sgn_k3 hF hnc hk).2.2.1]
  refine lv_ldc (own := RL) (v := (-3000000)) cx.1 cx.2.1 cx.2.2.2.1 (cx.2.2.2.2 (Cond.constant RL 33 (-3000000)) (by decide +kernel)) dL_isText_67 ?_
  refine lv_icmp_ne (tgt := 189) cx.1 cx.2.1 dL_isText_69 (by decide) (fun c6 => ?_) (fun c6 => ?_)
  · exact absurd c6 (by decide)
  refine lv_aload_n cx.1 cx.2.1 dL_isText_72 rfl (lv_at hl 4 rfl) ?_
  refine lv_iconst (v := 2) cx.1 cx.2.1 dL_isText_73 (by decide) ?_
  refine lv_iload_n cx.1 cx.2.1 dL_isText_74 rfl (lv_at hl 7 rfl) ?_
  refine lv_iconst (v := (-1)) cx.1 cx.2.1 dL_isText_75 (by decide) ?_
  refine bCallW (As := [.ref (ad 0), .int 2, .int (nI nc), .int (-1)]) (rest := []) 4 cx (c_L_asks2 l dC dI cyI cyB ad hI hlf S F hF nc (-1) (by omega)) gL_isText_L_asks rfl ⟨rfl, rfl⟩ (by decide +kernel) ⟨Nat.le_of_ble_eq_true rfl, Nat.le_of_ble_eq_true rfl⟩ (xL_X ad 39) hXs hK hP hS rfl hl.1 rfl (Nat.le_of_ble_eq_true rfl) dL_isText_76 ⟨Nat.le_of_ble_eq_true rfl, Nat.le_of_ble_eq_true rfl⟩ (fun r T7 H locs hp hP hS => ?_)
  obtain ⟨h7, h8⟩ := hp
  subst h7
  rw [h8] at hP
  rw [(sgn_k3 hF hnc hk).2.2.2]
  refine lv_ldc (own := RL) (v := (-3000000)) cx.1 cx.2.1 cx.2.2.2.1 (cx.2.2.2.2 (Cond.constant RL 33 (-3000000)) (by decide +kernel)) dL_isText_79 ?_
  refine lv_icmp_ne (tgt := 189) cx.1 cx.2.1 dL_isText_81 (by decide) (fun c8 => ?_) (fun c8 => ?_)
  · exact absurd c8 (by decide)
  refine lv_iload cx.1 cx.2.1 dL_isText_84 (lv_at hl 1 rfl) ?_
  refine lv_iload cx.1 cx.2.1 dL_isText_86 (lv_at hl 3 rfl) ?_
  refine lv_if_ne (tgt := 96) cx.1 cx.2.1 dL_isText_88 (by decide) (fun c9 => ?_) (fun c9 => ?_)
  rotate_left
  · exact absurd c9 (by decide)
  refine lv_iload cx.1 cx.2.1 dL_isText_96 (lv_at hl 3 rfl) ?_
  refine lv_iconst (v := 1) cx.1 cx.2.1 dL_isText_98 (by decide) ?_
  refine lv_icmp_ne (tgt := 107) cx.1 cx.2.1 dL_isText_99 (by decide) (fun c10 => ?_) (fun c10 => ?_)
  rotate_left
  · exact absurd c10 (by decide)
  refine lv_iload cx.1 cx.2.1 dL_isText_107 (lv_at hl 3 rfl) ?_
  refine lv_iconst (v := 2) cx.1 cx.2.1 dL_isText_109 (by decide) ?_
  refine lv_icmp_ne (tgt := 118) cx.1 cx.2.1 dL_isText_110 (by decide) (fun c11 => ?_) (fun c11 => ?_)
  rotate_left
  · exact absurd c11 (by decide)
  refine lv_iload cx.1 cx.2.1 dL_isText_118 (lv_at hl 3 rfl) ?_
  refine lv_iconst (v := 3) cx.1 cx.2.1 dL_isText_120 (by decide) ?_
  refine lv_icmp_ne (tgt := 129) cx.1 cx.2.1 dL_isText_121 (by decide) (fun c12 => ?_) (fun c12 => ?_)
  · exact absurd c12 (by decide)
  refine lv_bipush (v := 84) cx.1 cx.2.1 dL_isText_124 (by decide) ?_
  refine lv_goto (tgt := 143) cx.1 cx.2.1 dL_isText_126 (by decide) ?_
  refine lv_icmp_ne (tgt := 189) cx.1 cx.2.1 dL_isText_143 (by decide) (fun c13 => ?_) (fun c13 => ?_)
  · exact absurd c13 (by decide)
  refine lv_iload cx.1 cx.2.1 dL_isText_146 (lv_at hl 3 rfl) ?_
  refine lv_iconst (v := 2) cx.1 cx.2.1 dL_isText_148 (by decide) ?_
  refine lv_icmp_lt (tgt := 185) cx.1 cx.2.1 dL_isText_149 (by decide) (fun c14 => ?_) (fun c14 => ?_)
  · exact absurd c14 (by decide)
  refine lv_iload cx.1 cx.2.1 dL_isText_152 (lv_at hl 0 rfl) ?_
  refine lv_iload cx.1 cx.2.1 dL_isText_154 (lv_at hl 3 rfl) ?_
  refine lv_iconst (v := 4) cx.1 cx.2.1 dL_isText_156 (by decide) ?_
  refine lv_icmp_ge (tgt := 169) cx.1 cx.2.1 dL_isText_157 (by decide) (fun c15 => ?_) (fun c15 => ?_)
  · exact absurd c15 (by decide)
  refine lv_bipush (v := 48) cx.1 cx.2.1 dL_isText_160 (by decide) ?_
  refine lv_aload_n cx.1 cx.2.1 dL_isText_162 rfl (lv_at hl 6 rfl) ?_
  refine lv_iload_n cx.1 cx.2.1 dL_isText_163 rfl (lv_at hl 7 rfl) ?_
  refine zIldN cx hK hP 37 0 rfl rfl (nc) (by omega) (by decide) rfl dL_isText_164 ?_
  refine lv_iadd cx.1 cx.2.1 dL_isText_165 ?_
  refine lv_goto (tgt := 182) cx.1 cx.2.1 dL_isText_166 (by decide) ?_
  refine lv_icmp_ne (tgt := 189) cx.1 cx.2.1 dL_isText_182 (by decide) (fun c16 => ?_) (fun c16 => ?_)
  · exact absurd rfl c16
  · refine lv_iconst (v := 1) cx.1 cx.2.1 dL_isText_185 (by decide) ?_
    refine lv_goto (tgt := 190) cx.1 cx.2.1 dL_isText_186 (by decide) ?_
    exact bRet (v := 1) cx hrt hlk (by first | rfl | decide) hS hP ⟨rfl, rfl⟩ (Nat.le_of_ble_eq_true rfl) (Nat.le_of_ble_eq_true rfl) dL_isText_190
set_option maxHeartbeats 4000000 in
set_option maxRecDepth 100000 in
theorem c_L_isText4 (l : Launch) (dC : Nat → ClassId) (dI : Nat → Nat → Nat) (cyI cyB : ClassId) (ad : Nat → Nat) (hI : zI ad 39) (hlf : l.stackTraces = false) (S : zS) (F : zS) (hF : LF S F) (nc : Nat) (hnc : nc < 64) (hk : S 20 nc = 4) : bMet l (dC, dI) (lTys cyI cyB) ad 39 xL (qw cyI ad) yL_isText wsL_isText ({ frames := 14, cells := 32, slots := 256, locals := 447 } : Room) [.ref (ad 0), .ref (ad 36), .ref (ad 37), .int (nI nc)] S 32 256 (fun v T => v = 1 ∧ T = S) := by
  refine bStart (by decide) rfl (Nat.le_of_ble_eq_true rfl) ?_
  intro p e s m args below meth c ls cx hrt hlk hP hK hXs hl
  have hl : lv_has ls 8 [(0, .ref (ad 0)), (1, .ref (ad 36)), (2, .ref (ad 37)), (3, .int (nI nc))] := hl
  have hS : va_S (zA ad 39 s.heap.size) s.heap s.heap [] := va_S.rf
  refine lv_aload_n cx.1 cx.2.1 dL_isText_0 rfl (lv_at hl 1 rfl) ?_
  refine lv_iload_n cx.1 cx.2.1 dL_isText_1 rfl (lv_at hl 3 rfl) ?_
  refine zIldN cx hK hP 36 0 rfl rfl (nc) (by omega) (by decide) rfl dL_isText_2 ?_
  rw [hk]
  refine lv_istore (lv' := [(4, .int 4), (0, .ref (ad 0)), (1, .ref (ad 36)), (2, .ref (ad 37)), (3, .int (nI nc))]) cx.1 cx.2.1 dL_isText_3 hl (by decide) rfl (fun ls hl => ?_)
  refine lv_iload cx.1 cx.2.1 dL_isText_5 (lv_at hl 0 rfl) ?_
  refine lv_iconst (v := 2) cx.1 cx.2.1 dL_isText_7 (by decide) ?_
  refine lv_icmp_ge (tgt := 15) cx.1 cx.2.1 dL_isText_8 (by decide) (fun c1 => ?_) (fun c1 => ?_)
  rotate_left
  · exact absurd c1 (by decide)
  refine lv_iload cx.1 cx.2.1 dL_isText_15 (lv_at hl 0 rfl) ?_
  refine lv_iconst (v := 4) cx.1 cx.2.1 dL_isText_17 (by decide) ?_
  refine lv_icmp_ge (tgt := 25) cx.1 cx.2.1 dL_isText_18 (by decide) (fun c2 => ?_) (fun c2 => ?_)
  rotate_left
  · exact absurd c2 (by decide)
  refine lv_iload cx.1 cx.2.1 dL_isText_25 (lv_at hl 0 rfl) ?_
  refine lv_iconst (v := 4) cx.1 cx.2.1 dL_isText_27 (by decide) ?_
  refine lv_icmp_ne (tgt := 35) cx.1 cx.2.1 dL_isText_28 (by decide) (fun c3 => ?_) (fun c3 => ?_)
  · exact absurd c3 (by decide)
  refine lv_iconst (v := 4) cx.1 cx.2.1 dL_isText_31 (by decide) ?_
  refine lv_goto (tgt := 36) cx.1 cx.2.1 dL_isText_32 (by decide) ?_
  refine lv_istore (lv' := [(5, .int 4), (4, .int 4), (0, .ref (ad 0)), (1, .ref (ad 36)), (2, .ref (ad 37)), (3, .int (nI nc))]) cx.1 cx.2.1 dL_isText_36 hl (by decide) rfl (fun ls hl => ?_)
  refine lv_aload_n cx.1 cx.2.1 dL_isText_38 rfl (lv_at hl 2 rfl) ?_
  refine lv_iconst (v := 2) cx.1 cx.2.1 dL_isText_39 (by decide) ?_
  refine lv_iload_n cx.1 cx.2.1 dL_isText_40 rfl (lv_at hl 5 rfl) ?_
  refine lv_iconst (v := 0) cx.1 cx.2.1 dL_isText_41 (by decide) ?_
  refine bCallW (As := [.ref (ad 0), .int 2, .int (nI nc), .int 0]) (rest := []) 4 cx (c_L_asks2 l dC dI cyI cyB ad hI hlf S F hF nc 0 (by omega)) gL_isText_L_asks rfl ⟨rfl, rfl⟩ (by decide +kernel) ⟨Nat.le_of_ble_eq_true rfl, Nat.le_of_ble_eq_true rfl⟩ (xL_X ad 39) hXs hK hP hS rfl hl.1 rfl (Nat.le_of_ble_eq_true rfl) dL_isText_42 ⟨Nat.le_of_ble_eq_true rfl, Nat.le_of_ble_eq_true rfl⟩ (fun r T4 H locs hp hP hS => ?_)
  obtain ⟨h7, h8⟩ := hp
  subst h7
  rw [h8] at hP
  rw [(sgn_k4 hF hnc hk).1]
  refine lv_istore (lv' := [(6, .int 112), (5, .int 4), (4, .int 4), (0, .ref (ad 0)), (1, .ref (ad 36)), (2, .ref (ad 37)), (3, .int (nI nc))]) cx.1 cx.2.1 dL_isText_45 hl (by decide) rfl (fun ls hl => ?_)
  refine lv_aload_n cx.1 cx.2.1 dL_isText_47 rfl (lv_at hl 3 rfl) ?_
  refine lv_iconst (v := 2) cx.1 cx.2.1 dL_isText_48 (by decide) ?_
  refine lv_iload_n cx.1 cx.2.1 dL_isText_49 rfl (lv_at hl 6 rfl) ?_
  refine lv_iload cx.1 cx.2.1 dL_isText_50 (lv_at hl 1 rfl) ?_
  refine lv_iconst (v := 1) cx.1 cx.2.1 dL_isText_52 (by decide) ?_
  refine lv_isub cx.1 cx.2.1 dL_isText_53 ?_
  refine bCallW (As := [.ref (ad 0), .int 2, .int (nI nc), .int (4 - 1)]) (rest := []) 4 cx (c_L_asks2 l dC dI cyI cyB ad hI hlf S F hF nc (4 - 1) (by omega)) gL_isText_L_asks rfl ⟨rfl, rfl⟩ (by decide +kernel) ⟨Nat.le_of_ble_eq_true rfl, Nat.le_of_ble_eq_true rfl⟩ (xL_X ad 39) hXs hK hP hS rfl hl.1 rfl (Nat.le_of_ble_eq_true rfl) dL_isText_54 ⟨Nat.le_of_ble_eq_true rfl, Nat.le_of_ble_eq_true rfl⟩ (fun r T5 H locs hp hP hS => ?_)
  obtain ⟨h7, h8⟩ := hp
  subst h7
  rw [h8] at hP
  rw [(sgn_k4 hF hnc hk).2.1]
  refine lv_istore (lv' := [(7, .int 107), (6, .int 112), (5, .int 4), (4, .int 4), (0, .ref (ad 0)), (1, .ref (ad 36)), (2, .ref (ad 37)), (3, .int (nI nc))]) cx.1 cx.2.1 dL_isText_57 hl (by decide) rfl (fun ls hl => ?_)
  refine lv_aload_n cx.1 cx.2.1 dL_isText_59 rfl (lv_at hl 4 rfl) ?_
  refine lv_iconst (v := 2) cx.1 cx.2.1 dL_isText_60 (by decide) ?_
  refine lv_iload_n cx.1 cx.2.1 dL_isText_61 rfl (lv_at hl 7 rfl) ?_
  refine lv_iload cx.1 cx.2.1 dL_isText_62 (lv_at hl 2 rfl) ?_
  refine bCallW (As := [.ref (ad 0), .int 2, .int (nI nc), .int 4]) (rest := []) 4 cx (c_L_asks2 l dC dI cyI cyB ad hI hlf S F hF nc 4 (by omega)) gL_isText_L_asks rfl ⟨rfl, rfl⟩ (by decide +kernel) ⟨Nat.le_of_ble_eq_true rfl, Nat.le_of_ble_eq_true rfl⟩ (xL_X ad 39) hXs hK hP hS rfl hl.1 rfl (Nat.le_of_ble_eq_true rfl) dL_isText_64 ⟨Nat.le_of_ble_eq_true rfl, Nat.le_of_ble_eq_true rfl⟩ (fun r T6 H locs hp hP hS => ?_)
  obtain ⟨h7, h8⟩ := hp
  subst h7
  rw [h8] at hP
  rw [(sgn_k4 hF hnc hk).2.2.1]
  refine lv_ldc (own := RL) (v := (-3000000)) cx.1 cx.2.1 cx.2.2.2.1 (cx.2.2.2.2 (Cond.constant RL 33 (-3000000)) (by decide +kernel)) dL_isText_67 ?_
  refine lv_icmp_ne (tgt := 189) cx.1 cx.2.1 dL_isText_69 (by decide) (fun c7 => ?_) (fun c7 => ?_)
  · exact absurd c7 (by decide)
  refine lv_aload_n cx.1 cx.2.1 dL_isText_72 rfl (lv_at hl 4 rfl) ?_
  refine lv_iconst (v := 2) cx.1 cx.2.1 dL_isText_73 (by decide) ?_
  refine lv_iload_n cx.1 cx.2.1 dL_isText_74 rfl (lv_at hl 7 rfl) ?_
  refine lv_iconst (v := (-1)) cx.1 cx.2.1 dL_isText_75 (by decide) ?_
  refine bCallW (As := [.ref (ad 0), .int 2, .int (nI nc), .int (-1)]) (rest := []) 4 cx (c_L_asks2 l dC dI cyI cyB ad hI hlf S F hF nc (-1) (by omega)) gL_isText_L_asks rfl ⟨rfl, rfl⟩ (by decide +kernel) ⟨Nat.le_of_ble_eq_true rfl, Nat.le_of_ble_eq_true rfl⟩ (xL_X ad 39) hXs hK hP hS rfl hl.1 rfl (Nat.le_of_ble_eq_true rfl) dL_isText_76 ⟨Nat.le_of_ble_eq_true rfl, Nat.le_of_ble_eq_true rfl⟩ (fun r T8 H locs hp hP hS => ?_)
  obtain ⟨h7, h8⟩ := hp
  subst h7
  rw [h8] at hP
  rw [(sgn_k4 hF hnc hk).2.2.2]
  refine lv_ldc (own := RL) (v := (-3000000)) cx.1 cx.2.1 cx.2.2.2.1 (cx.2.2.2.2 (Cond.constant RL 33 (-3000000)) (by decide +kernel)) dL_isText_79 ?_
  refine lv_icmp_ne (tgt := 189) cx.1 cx.2.1 dL_isText_81 (by decide) (fun c9 => ?_) (fun c9 => ?_)
  · exact absurd c9 (by decide)
  refine lv_iload cx.1 cx.2.1 dL_isText_84 (lv_at hl 1 rfl) ?_
  refine lv_iload cx.1 cx.2.1 dL_isText_86 (lv_at hl 3 rfl) ?_
  refine lv_if_ne (tgt := 96) cx.1 cx.2.1 dL_isText_88 (by decide) (fun c10 => ?_) (fun c10 => ?_)
  rotate_left
  · exact absurd c10 (by decide)
  refine lv_iload cx.1 cx.2.1 dL_isText_96 (lv_at hl 3 rfl) ?_
  refine lv_iconst (v := 1) cx.1 cx.2.1 dL_isText_98 (by decide) ?_
  refine lv_icmp_ne (tgt := 107) cx.1 cx.2.1 dL_isText_99 (by decide) (fun c11 => ?_) (fun c11 => ?_)
  rotate_left
  · exact absurd c11 (by decide)
  refine lv_iload cx.1 cx.2.1 dL_isText_107 (lv_at hl 3 rfl) ?_
  refine lv_iconst (v := 2) cx.1 cx.2.1 dL_isText_109 (by decide) ?_
  refine lv_icmp_ne (tgt := 118) cx.1 cx.2.1 dL_isText_110 (by decide) (fun c12 => ?_) (fun c12 => ?_)
  rotate_left
  · exact absurd c12 (by decide)
  refine lv_iload cx.1 cx.2.1 dL_isText_118 (lv_at hl 3 rfl) ?_
  refine lv_iconst (v := 3) cx.1 cx.2.1 dL_isText_120 (by decide) ?_
  refine lv_icmp_ne (tgt := 129) cx.1 cx.2.1 dL_isText_121 (by decide) (fun c13 => ?_) (fun c13 => ?_)
  rotate_left
  · exact absurd c13 (by decide)
  refine lv_iload cx.1 cx.2.1 dL_isText_129 (lv_at hl 3 rfl) ?_
  refine lv_bipush (v := 6) cx.1 cx.2.1 dL_isText_131 (by decide) ?_
  refine lv_icmp_ne (tgt := 141) cx.1 cx.2.1 dL_isText_133 (by decide) (fun c14 => ?_) (fun c14 => ?_)
  rotate_left
  · exact absurd c14 (by decide)
  refine lv_bipush (v := 112) cx.1 cx.2.1 dL_isText_141 (by decide) ?_
  refine lv_icmp_ne (tgt := 189) cx.1 cx.2.1 dL_isText_143 (by decide) (fun c15 => ?_) (fun c15 => ?_)
  · exact absurd c15 (by decide)
  refine lv_iload cx.1 cx.2.1 dL_isText_146 (lv_at hl 3 rfl) ?_
  refine lv_iconst (v := 2) cx.1 cx.2.1 dL_isText_148 (by decide) ?_
  refine lv_icmp_lt (tgt := 185) cx.1 cx.2.1 dL_isText_149 (by decide) (fun c16 => ?_) (fun c16 => ?_)
  · exact absurd c16 (by decide)
  refine lv_iload cx.1 cx.2.1 dL_isText_152 (lv_at hl 0 rfl) ?_
  refine lv_iload cx.1 cx.2.1 dL_isText_154 (lv_at hl 3 rfl) ?_
  refine lv_iconst (v := 4) cx.1 cx.2.1 dL_isText_156 (by decide) ?_
  refine lv_icmp_ge (tgt := 169) cx.1 cx.2.1 dL_isText_157 (by decide) (fun c17 => ?_) (fun c17 => ?_)
  rotate_left
  · exact absurd c17 (by decide)
  refine lv_iload cx.1 cx.2.1 dL_isText_169 (lv_at hl 3 rfl) ?_
  refine lv_iconst (v := 4) cx.1 cx.2.1 dL_isText_171 (by decide) ?_
  refine lv_icmp_ne (tgt := 180) cx.1 cx.2.1 dL_isText_172 (by decide) (fun c18 => ?_) (fun c18 => ?_)
  · exact absurd c18 (by decide)
  refine lv_bipush (v := 107) cx.1 cx.2.1 dL_isText_175 (by decide) ?_
  refine lv_goto (tgt := 182) cx.1 cx.2.1 dL_isText_177 (by decide) ?_
  refine lv_icmp_ne (tgt := 189) cx.1 cx.2.1 dL_isText_182 (by decide) (fun c19 => ?_) (fun c19 => ?_)
  · exact absurd c19 (by decide)
  refine lv_iconst (v := 1) cx.1 cx.2.1 dL_isText_185 (by decide) ?_
  refine lv_goto (tgt := 190) cx.1 cx.2.1 dL_isText_186 (by decide) ?_
  exact bRet (v := 1) cx hrt hlk (by first | rfl | decide) hS hP ⟨rfl, rfl⟩ (Nat.le_of_ble_eq_true rfl) (Nat.le_of_ble_eq_true rfl) dL_isText_190
set_option maxHeartbeats 4000000 in
set_option maxRecDepth 100000 in
theorem c_L_isText5 (l : Launch) (dC : Nat → ClassId) (dI : Nat → Nat → Nat) (cyI cyB : ClassId) (ad : Nat → Nat) (hI : zI ad 39) (hlf : l.stackTraces = false) (S : zS) (F : zS) (hF : LF S F) (nc : Nat) (hnc : nc < 64) (hk : S 20 nc = 5) : bMet l (dC, dI) (lTys cyI cyB) ad 39 xL (qw cyI ad) yL_isText wsL_isText ({ frames := 14, cells := 32, slots := 256, locals := 447 } : Room) [.ref (ad 0), .ref (ad 36), .ref (ad 37), .int (nI nc)] S 32 256 (fun v T => v = 1 ∧ T = S) := by
  refine bStart (by decide) rfl (Nat.le_of_ble_eq_true rfl) ?_
  intro p e s m args below meth c ls cx hrt hlk hP hK hXs hl
  have hl : lv_has ls 8 [(0, .ref (ad 0)), (1, .ref (ad 36)), (2, .ref (ad 37)), (3, .int (nI nc))] := hl
  have hS : va_S (zA ad 39 s.heap.size) s.heap s.heap [] := va_S.rf
  refine lv_aload_n cx.1 cx.2.1 dL_isText_0 rfl (lv_at hl 1 rfl) ?_
  refine lv_iload_n cx.1 cx.2.1 dL_isText_1 rfl (lv_at hl 3 rfl) ?_
  refine zIldN cx hK hP 36 0 rfl rfl (nc) (by omega) (by decide) rfl dL_isText_2 ?_
  rw [hk]
  refine lv_istore (lv' := [(4, .int 5), (0, .ref (ad 0)), (1, .ref (ad 36)), (2, .ref (ad 37)), (3, .int (nI nc))]) cx.1 cx.2.1 dL_isText_3 hl (by decide) rfl (fun ls hl => ?_)
  refine lv_iload cx.1 cx.2.1 dL_isText_5 (lv_at hl 0 rfl) ?_
  refine lv_iconst (v := 2) cx.1 cx.2.1 dL_isText_7 (by decide) ?_
  refine lv_icmp_ge (tgt := 15) cx.1 cx.2.1 dL_isText_8 (by decide) (fun c1 => ?_) (fun c1 => ?_)
  rotate_left
  · exact absurd c1 (by decide)
  refine lv_iload cx.1 cx.2.1 dL_isText_15 (lv_at hl 0 rfl) ?_
  refine lv_iconst (v := 4) cx.1 cx.2.1 dL_isText_17 (by decide) ?_
  refine lv_icmp_ge (tgt := 25) cx.1 cx.2.1 dL_isText_18 (by decide) (fun c2 => ?_) (fun c2 => ?_)
  rotate_left
  · exact absurd c2 (by decide)
  refine lv_iload cx.1 cx.2.1 dL_isText_25 (lv_at hl 0 rfl) ?_
  refine lv_iconst (v := 4) cx.1 cx.2.1 dL_isText_27 (by decide) ?_
  refine lv_icmp_ne (tgt := 35) cx.1 cx.2.1 dL_isText_28 (by decide) (fun c3 => ?_) (fun c3 => ?_)
  rotate_left
  · exact absurd c3 (by decide)
  refine lv_iconst (v := 5) cx.1 cx.2.1 dL_isText_35 (by decide) ?_
  refine lv_istore (lv' := [(5, .int 5), (4, .int 5), (0, .ref (ad 0)), (1, .ref (ad 36)), (2, .ref (ad 37)), (3, .int (nI nc))]) cx.1 cx.2.1 dL_isText_36 hl (by decide) rfl (fun ls hl => ?_)
  refine lv_aload_n cx.1 cx.2.1 dL_isText_38 rfl (lv_at hl 2 rfl) ?_
  refine lv_iconst (v := 2) cx.1 cx.2.1 dL_isText_39 (by decide) ?_
  refine lv_iload_n cx.1 cx.2.1 dL_isText_40 rfl (lv_at hl 5 rfl) ?_
  refine lv_iconst (v := 0) cx.1 cx.2.1 dL_isText_41 (by decide) ?_
  refine bCallW (As := [.ref (ad 0), .int 2, .int (nI nc), .int 0]) (rest := []) 4 cx (c_L_asks2 l dC dI cyI cyB ad hI hlf S F hF nc 0 (by omega)) gL_isText_L_asks rfl ⟨rfl, rfl⟩ (by decide +kernel) ⟨Nat.le_of_ble_eq_true rfl, Nat.le_of_ble_eq_true rfl⟩ (xL_X ad 39) hXs hK hP hS rfl hl.1 rfl (Nat.le_of_ble_eq_true rfl) dL_isText_42 ⟨Nat.le_of_ble_eq_true rfl, Nat.le_of_ble_eq_true rfl⟩ (fun r T4 H locs hp hP hS => ?_)
  obtain ⟨h7, h8⟩ := hp
  subst h7
  rw [h8] at hP
  rw [(sgn_k5 hF hnc hk).1]
  refine lv_istore (lv' := [(6, .int 112), (5, .int 5), (4, .int 5), (0, .ref (ad 0)), (1, .ref (ad 36)), (2, .ref (ad 37)), (3, .int (nI nc))]) cx.1 cx.2.1 dL_isText_45 hl (by decide) rfl (fun ls hl => ?_)
  refine lv_aload_n cx.1 cx.2.1 dL_isText_47 rfl (lv_at hl 3 rfl) ?_
  refine lv_iconst (v := 2) cx.1 cx.2.1 dL_isText_48 (by decide) ?_
  refine lv_iload_n cx.1 cx.2.1 dL_isText_49 rfl (lv_at hl 6 rfl) ?_
  refine lv_iload cx.1 cx.2.1 dL_isText_50 (lv_at hl 1 rfl) ?_
  refine lv_iconst (v := 1) cx.1 cx.2.1 dL_isText_52 (by decide) ?_
  refine lv_isub cx.1 cx.2.1 dL_isText_53 ?_
  refine bCallW (As := [.ref (ad 0), .int 2, .int (nI nc), .int (5 - 1)]) (rest := []) 4 cx (c_L_asks2 l dC dI cyI cyB ad hI hlf S F hF nc (5 - 1) (by omega)) gL_isText_L_asks rfl ⟨rfl, rfl⟩ (by decide +kernel) ⟨Nat.le_of_ble_eq_true rfl, Nat.le_of_ble_eq_true rfl⟩ (xL_X ad 39) hXs hK hP hS rfl hl.1 rfl (Nat.le_of_ble_eq_true rfl) dL_isText_54 ⟨Nat.le_of_ble_eq_true rfl, Nat.le_of_ble_eq_true rfl⟩ (fun r T5 H locs hp hP hS => ?_)
  obtain ⟨h7, h8⟩ := hp
  subst h7
  rw [h8] at hP
  rw [(sgn_k5 hF hnc hk).2.1]
  refine lv_istore (lv' := [(7, .int 114), (6, .int 112), (5, .int 5), (4, .int 5), (0, .ref (ad 0)), (1, .ref (ad 36)), (2, .ref (ad 37)), (3, .int (nI nc))]) cx.1 cx.2.1 dL_isText_57 hl (by decide) rfl (fun ls hl => ?_)
  refine lv_aload_n cx.1 cx.2.1 dL_isText_59 rfl (lv_at hl 4 rfl) ?_
  refine lv_iconst (v := 2) cx.1 cx.2.1 dL_isText_60 (by decide) ?_
  refine lv_iload_n cx.1 cx.2.1 dL_isText_61 rfl (lv_at hl 7 rfl) ?_
  refine lv_iload cx.1 cx.2.1 dL_isText_62 (lv_at hl 2 rfl) ?_
  refine bCallW (As := [.ref (ad 0), .int 2, .int (nI nc), .int 5]) (rest := []) 4 cx (c_L_asks2 l dC dI cyI cyB ad hI hlf S F hF nc 5 (by omega)) gL_isText_L_asks rfl ⟨rfl, rfl⟩ (by decide +kernel) ⟨Nat.le_of_ble_eq_true rfl, Nat.le_of_ble_eq_true rfl⟩ (xL_X ad 39) hXs hK hP hS rfl hl.1 rfl (Nat.le_of_ble_eq_true rfl) dL_isText_64 ⟨Nat.le_of_ble_eq_true rfl, Nat.le_of_ble_eq_true rfl⟩ (fun r T6 H locs hp hP hS => ?_)
  obtain ⟨h7, h8⟩ := hp
  subst h7
  rw [h8] at hP
  rw [(sgn_k5 hF hnc hk).2.2.1]
  refine lv_ldc (own := RL) (v := (-3000000)) cx.1 cx.2.1 cx.2.2.2.1 (cx.2.2.2.2 (Cond.constant RL 33 (-3000000)) (by decide +kernel)) dL_isText_67 ?_
  refine lv_icmp_ne (tgt := 189) cx.1 cx.2.1 dL_isText_69 (by decide) (fun c7 => ?_) (fun c7 => ?_)
  · exact absurd c7 (by decide)
  refine lv_aload_n cx.1 cx.2.1 dL_isText_72 rfl (lv_at hl 4 rfl) ?_
  refine lv_iconst (v := 2) cx.1 cx.2.1 dL_isText_73 (by decide) ?_
  refine lv_iload_n cx.1 cx.2.1 dL_isText_74 rfl (lv_at hl 7 rfl) ?_
  refine lv_iconst (v := (-1)) cx.1 cx.2.1 dL_isText_75 (by decide) ?_
  refine bCallW (As := [.ref (ad 0), .int 2, .int (nI nc), .int (-1)]) (rest := []) 4 cx (c_L_asks2 l dC dI cyI cyB ad hI hlf S F hF nc (-1) (by omega)) gL_isText_L_asks rfl ⟨rfl, rfl⟩ (by decide +kernel) ⟨Nat.le_of_ble_eq_true rfl, Nat.le_of_ble_eq_true rfl⟩ (xL_X ad 39) hXs hK hP hS rfl hl.1 rfl (Nat.le_of_ble_eq_true rfl) dL_isText_76 ⟨Nat.le_of_ble_eq_true rfl, Nat.le_of_ble_eq_true rfl⟩ (fun r T8 H locs hp hP hS => ?_)
  obtain ⟨h7, h8⟩ := hp
  subst h7
  rw [h8] at hP
  rw [(sgn_k5 hF hnc hk).2.2.2]
  refine lv_ldc (own := RL) (v := (-3000000)) cx.1 cx.2.1 cx.2.2.2.1 (cx.2.2.2.2 (Cond.constant RL 33 (-3000000)) (by decide +kernel)) dL_isText_79 ?_
  refine lv_icmp_ne (tgt := 189) cx.1 cx.2.1 dL_isText_81 (by decide) (fun c9 => ?_) (fun c9 => ?_)
  · exact absurd c9 (by decide)
  refine lv_iload cx.1 cx.2.1 dL_isText_84 (lv_at hl 1 rfl) ?_
  refine lv_iload cx.1 cx.2.1 dL_isText_86 (lv_at hl 3 rfl) ?_
  refine lv_if_ne (tgt := 96) cx.1 cx.2.1 dL_isText_88 (by decide) (fun c10 => ?_) (fun c10 => ?_)
  rotate_left
  · exact absurd c10 (by decide)
  refine lv_iload cx.1 cx.2.1 dL_isText_96 (lv_at hl 3 rfl) ?_
  refine lv_iconst (v := 1) cx.1 cx.2.1 dL_isText_98 (by decide) ?_
  refine lv_icmp_ne (tgt := 107) cx.1 cx.2.1 dL_isText_99 (by decide) (fun c11 => ?_) (fun c11 => ?_)
  rotate_left
  · exact absurd c11 (by decide)
  refine lv_iload cx.1 cx.2.1 dL_isText_107 (lv_at hl 3 rfl) ?_
  refine lv_iconst (v := 2) cx.1 cx.2.1 dL_isText_109 (by decide) ?_
  refine lv_icmp_ne (tgt := 118) cx.1 cx.2.1 dL_isText_110 (by decide) (fun c12 => ?_) (fun c12 => ?_)
  rotate_left
  · exact absurd c12 (by decide)
  refine lv_iload cx.1 cx.2.1 dL_isText_118 (lv_at hl 3 rfl) ?_
  refine lv_iconst (v := 3) cx.1 cx.2.1 dL_isText_120 (by decide) ?_
  refine lv_icmp_ne (tgt := 129) cx.1 cx.2.1 dL_isText_121 (by decide) (fun c13 => ?_) (fun c13 => ?_)
  rotate_left
  · exact absurd c13 (by decide)
  refine lv_iload cx.1 cx.2.1 dL_isText_129 (lv_at hl 3 rfl) ?_
  refine lv_bipush (v := 6) cx.1 cx.2.1 dL_isText_131 (by decide) ?_
  refine lv_icmp_ne (tgt := 141) cx.1 cx.2.1 dL_isText_133 (by decide) (fun c14 => ?_) (fun c14 => ?_)
  rotate_left
  · exact absurd c14 (by decide)
  refine lv_bipush (v := 112) cx.1 cx.2.1 dL_isText_141 (by decide) ?_
  refine lv_icmp_ne (tgt := 189) cx.1 cx.2.1 dL_isText_143 (by decide) (fun c15 => ?_) (fun c15 => ?_)
  · exact absurd c15 (by decide)
  refine lv_iload cx.1 cx.2.1 dL_isText_146 (lv_at hl 3 rfl) ?_
  refine lv_iconst (v := 2) cx.1 cx.2.1 dL_isText_148 (by decide) ?_
  refine lv_icmp_lt (tgt := 185) cx.1 cx.2.1 dL_isText_149 (by decide) (fun c16 => ?_) (fun c16 => ?_)
  · exact absurd c16 (by decide)
  refine lv_iload cx.1 cx.2.1 dL_isText_152 (lv_at hl 0 rfl) ?_
  refine lv_iload cx.1 cx.2.1 dL_isText_154 (lv_at hl 3 rfl) ?_
  refine lv_iconst (v := 4) cx.1 cx.2.1 dL_isText_156 (by decide) ?_
  refine lv_icmp_ge (tgt := 169) cx.1 cx.2.1 dL_isText_157 (by decide) (fun c17 => ?_) (fun c17 => ?_)
  rotate_left
  · exact absurd c17 (by decide)
  refine lv_iload cx.1 cx.2.1 dL_isText_169 (lv_at hl 3 rfl) ?_
  refine lv_iconst (v := 4) cx.1 cx.2.1 dL_isText_171 (by decide) ?_
  refine lv_icmp_ne (tgt := 180) cx.1 cx.2.1 dL_isText_172 (by decide) (fun c18 => ?_) (fun c18 => ?_)
  rotate_left
  · exact absurd c18 (by decide)
  refine lv_bipush (v := 114) cx.1 cx.2.1 dL_isText_180 (by decide) ?_
  refine lv_icmp_ne (tgt := 189) cx.1 cx.2.1 dL_isText_182 (by decide) (fun c19 => ?_) (fun c19 => ?_)
  · exact absurd c19 (by decide)
  refine lv_iconst (v := 1) cx.1 cx.2.1 dL_isText_185 (by decide) ?_
  refine lv_goto (tgt := 190) cx.1 cx.2.1 dL_isText_186 (by decide) ?_
  exact bRet (v := 1) cx hrt hlk (by first | rfl | decide) hS hP ⟨rfl, rfl⟩ (Nat.le_of_ble_eq_true rfl) (Nat.le_of_ble_eq_true rfl) dL_isText_190
set_option maxHeartbeats 4000000 in
set_option maxRecDepth 100000 in
theorem c_L_isText6 (l : Launch) (dC : Nat → ClassId) (dI : Nat → Nat → Nat) (cyI cyB : ClassId) (ad : Nat → Nat) (hI : zI ad 39) (hlf : l.stackTraces = false) (S : zS) (F : zS) (hF : LF S F) (nc : Nat) (hnc : nc < 64) (hk : S 20 nc = 6) : bMet l (dC, dI) (lTys cyI cyB) ad 39 xL (qw cyI ad) yL_isText wsL_isText ({ frames := 14, cells := 32, slots := 256, locals := 447 } : Room) [.ref (ad 0), .ref (ad 36), .ref (ad 37), .int (nI nc)] S 32 256 (fun v T => v = 1 ∧ T = S) := by
  refine bStart (by decide) rfl (Nat.le_of_ble_eq_true rfl) ?_
  intro p e s m args below meth c ls cx hrt hlk hP hK hXs hl
  have hl : lv_has ls 8 [(0, .ref (ad 0)), (1, .ref (ad 36)), (2, .ref (ad 37)), (3, .int (nI nc))] := hl
  have hS : va_S (zA ad 39 s.heap.size) s.heap s.heap [] := va_S.rf
  refine lv_aload_n cx.1 cx.2.1 dL_isText_0 rfl (lv_at hl 1 rfl) ?_
  refine lv_iload_n cx.1 cx.2.1 dL_isText_1 rfl (lv_at hl 3 rfl) ?_
  refine zIldN cx hK hP 36 0 rfl rfl (nc) (by omega) (by decide) rfl dL_isText_2 ?_
  rw [hk]
  refine lv_istore (lv' := [(4, .int 6), (0, .ref (ad 0)), (1, .ref (ad 36)), (2, .ref (ad 37)), (3, .int (nI nc))]) cx.1 cx.2.1 dL_isText_3 hl (by decide) rfl (fun ls hl => ?_)
  refine lv_iload cx.1 cx.2.1 dL_isText_5 (lv_at hl 0 rfl) ?_
  refine lv_iconst (v := 2) cx.1 cx.2.1 dL_isText_7 (by decide) ?_
  refine lv_icmp_ge (tgt := 15) cx.1 cx.2.1 dL_isText_8 (by decide) (fun c1 => ?_) (fun c1 => ?_)
  rotate_left
  · exact absurd c1 (by decide)
  refine lv_iload cx.1 cx.2.1 dL_isText_15 (lv_at hl 0 rfl) ?_
  refine lv_iconst (v := 4) cx.1 cx.2.1 dL_isText_17 (by decide) ?_
  refine lv_icmp_ge (tgt := 25) cx.1 cx.2.1 dL_isText_18 (by decide) (fun c2 => ?_) (fun c2 => ?_)
  rotate_left
  · exact absurd c2 (by decide)
  refine lv_iload cx.1 cx.2.1 dL_isText_25 (lv_at hl 0 rfl) ?_
  refine lv_iconst (v := 4) cx.1 cx.2.1 dL_isText_27 (by decide) ?_
  refine lv_icmp_ne (tgt := 35) cx.1 cx.2.1 dL_isText_28 (by decide) (fun c3 => ?_) (fun c3 => ?_)
  rotate_left
  · exact absurd c3 (by decide)
  refine lv_iconst (v := 5) cx.1 cx.2.1 dL_isText_35 (by decide) ?_
  refine lv_istore (lv' := [(5, .int 5), (4, .int 6), (0, .ref (ad 0)), (1, .ref (ad 36)), (2, .ref (ad 37)), (3, .int (nI nc))]) cx.1 cx.2.1 dL_isText_36 hl (by decide) rfl (fun ls hl => ?_)
  refine lv_aload_n cx.1 cx.2.1 dL_isText_38 rfl (lv_at hl 2 rfl) ?_
  refine lv_iconst (v := 2) cx.1 cx.2.1 dL_isText_39 (by decide) ?_
  refine lv_iload_n cx.1 cx.2.1 dL_isText_40 rfl (lv_at hl 5 rfl) ?_
  refine lv_iconst (v := 0) cx.1 cx.2.1 dL_isText_41 (by decide) ?_
  refine bCallW (As := [.ref (ad 0), .int 2, .int (nI nc), .int 0]) (rest := []) 4 cx (c_L_asks2 l dC dI cyI cyB ad hI hlf S F hF nc 0 (by omega)) gL_isText_L_asks rfl ⟨rfl, rfl⟩ (by decide +kernel) ⟨Nat.le_of_ble_eq_true rfl, Nat.le_of_ble_eq_true rfl⟩ (xL_X ad 39) hXs hK hP hS rfl hl.1 rfl (Nat.le_of_ble_eq_true rfl) dL_isText_42 ⟨Nat.le_of_ble_eq_true rfl, Nat.le_of_ble_eq_true rfl⟩ (fun r T4 H locs hp hP hS => ?_)
  obtain ⟨h7, h8⟩ := hp
  subst h7
  rw [h8] at hP
  rw [(sgn_k6 hF hnc hk).1]
  refine lv_istore (lv' := [(6, .int 119), (5, .int 5), (4, .int 6), (0, .ref (ad 0)), (1, .ref (ad 36)), (2, .ref (ad 37)), (3, .int (nI nc))]) cx.1 cx.2.1 dL_isText_45 hl (by decide) rfl (fun ls hl => ?_)
  refine lv_aload_n cx.1 cx.2.1 dL_isText_47 rfl (lv_at hl 3 rfl) ?_
  refine lv_iconst (v := 2) cx.1 cx.2.1 dL_isText_48 (by decide) ?_
  refine lv_iload_n cx.1 cx.2.1 dL_isText_49 rfl (lv_at hl 6 rfl) ?_
  refine lv_iload cx.1 cx.2.1 dL_isText_50 (lv_at hl 1 rfl) ?_
  refine lv_iconst (v := 1) cx.1 cx.2.1 dL_isText_52 (by decide) ?_
  refine lv_isub cx.1 cx.2.1 dL_isText_53 ?_
  refine bCallW (As := [.ref (ad 0), .int 2, .int (nI nc), .int (5 - 1)]) (rest := []) 4 cx (c_L_asks2 l dC dI cyI cyB ad hI hlf S F hF nc (5 - 1) (by omega)) gL_isText_L_asks rfl ⟨rfl, rfl⟩ (by decide +kernel) ⟨Nat.le_of_ble_eq_true rfl, Nat.le_of_ble_eq_true rfl⟩ (xL_X ad 39) hXs hK hP hS rfl hl.1 rfl (Nat.le_of_ble_eq_true rfl) dL_isText_54 ⟨Nat.le_of_ble_eq_true rfl, Nat.le_of_ble_eq_true rfl⟩ (fun r T5 H locs hp hP hS => ?_)
  obtain ⟨h7, h8⟩ := hp
  subst h7
  rw [h8] at hP
  rw [(sgn_k6 hF hnc hk).2.1]
  refine lv_istore (lv' := [(7, .int 114), (6, .int 119), (5, .int 5), (4, .int 6), (0, .ref (ad 0)), (1, .ref (ad 36)), (2, .ref (ad 37)), (3, .int (nI nc))]) cx.1 cx.2.1 dL_isText_57 hl (by decide) rfl (fun ls hl => ?_)
  refine lv_aload_n cx.1 cx.2.1 dL_isText_59 rfl (lv_at hl 4 rfl) ?_
  refine lv_iconst (v := 2) cx.1 cx.2.1 dL_isText_60 (by decide) ?_
  refine lv_iload_n cx.1 cx.2.1 dL_isText_61 rfl (lv_at hl 7 rfl) ?_
  refine lv_iload cx.1 cx.2.1 dL_isText_62 (lv_at hl 2 rfl) ?_
  refine bCallW (As := [.ref (ad 0), .int 2, .int (nI nc), .int 5]) (rest := []) 4 cx (c_L_asks2 l dC dI cyI cyB ad hI hlf S F hF nc 5 (by omega)) gL_isText_L_asks rfl ⟨rfl, rfl⟩ (by decide +kernel) ⟨Nat.le_of_ble_eq_true rfl, Nat.le_of_ble_eq_true rfl⟩ (xL_X ad 39) hXs hK hP hS rfl hl.1 rfl (Nat.le_of_ble_eq_true rfl) dL_isText_64 ⟨Nat.le_of_ble_eq_true rfl, Nat.le_of_ble_eq_true rfl⟩ (fun r T6 H locs hp hP hS => ?_)
  obtain ⟨h7, h8⟩ := hp
  subst h7
  rw [h8] at hP
  rw [(sgn_k6 hF hnc hk).2.2.1]
  refine lv_ldc (own := RL) (v := (-3000000)) cx.1 cx.2.1 cx.2.2.2.1 (cx.2.2.2.2 (Cond.constant RL 33 (-3000000)) (by decide +kernel)) dL_isText_67 ?_
  refine lv_icmp_ne (tgt := 189) cx.1 cx.2.1 dL_isText_69 (by decide) (fun c7 => ?_) (fun c7 => ?_)
  · exact absurd c7 (by decide)
  refine lv_aload_n cx.1 cx.2.1 dL_isText_72 rfl (lv_at hl 4 rfl) ?_
  refine lv_iconst (v := 2) cx.1 cx.2.1 dL_isText_73 (by decide) ?_
  refine lv_iload_n cx.1 cx.2.1 dL_isText_74 rfl (lv_at hl 7 rfl) ?_
  refine lv_iconst (v := (-1)) cx.1 cx.2.1 dL_isText_75 (by decide) ?_
  refine bCallW (As := [.ref (ad 0), .int 2, .int (nI nc), .int (-1)]) (rest := []) 4 cx (c_L_asks2 l dC dI cyI cyB ad hI hlf S F hF nc (-1) (by omega)) gL_isText_L_asks rfl ⟨rfl, rfl⟩ (by decide +kernel) ⟨Nat.le_of_ble_eq_true rfl, Nat.le_of_ble_eq_true rfl⟩ (xL_X ad 39) hXs hK hP hS rfl hl.1 rfl (Nat.le_of_ble_eq_true rfl) dL_isText_76 ⟨Nat.le_of_ble_eq_true rfl, Nat.le_of_ble_eq_true rfl⟩ (fun r T8 H locs hp hP hS => ?_)
  obtain ⟨h7, h8⟩ := hp
  subst h7
  rw [h8] at hP
  rw [(sgn_k6 hF hnc hk).2.2.2]
  refine lv_ldc (own := RL) (v := (-3000000)) cx.1 cx.2.1 cx.2.2.2.1 (cx.2.2.2.2 (Cond.constant RL 33 (-3000000)) (by decide +kernel)) dL_isText_79 ?_
  refine lv_icmp_ne (tgt := 189) cx.1 cx.2.1 dL_isText_81 (by decide) (fun c9 => ?_) (fun c9 => ?_)
  · exact absurd c9 (by decide)
  refine lv_iload cx.1 cx.2.1 dL_isText_84 (lv_at hl 1 rfl) ?_
  refine lv_iload cx.1 cx.2.1 dL_isText_86 (lv_at hl 3 rfl) ?_
  refine lv_if_ne (tgt := 96) cx.1 cx.2.1 dL_isText_88 (by decide) (fun c10 => ?_) (fun c10 => ?_)
  rotate_left
  · exact absurd c10 (by decide)
  refine lv_iload cx.1 cx.2.1 dL_isText_96 (lv_at hl 3 rfl) ?_
  refine lv_iconst (v := 1) cx.1 cx.2.1 dL_isText_98 (by decide) ?_
  refine lv_icmp_ne (tgt := 107) cx.1 cx.2.1 dL_isText_99 (by decide) (fun c11 => ?_) (fun c11 => ?_)
  rotate_left
  · exact absurd c11 (by decide)
  refine lv_iload cx.1 cx.2.1 dL_isText_107 (lv_at hl 3 rfl) ?_
  refine lv_iconst (v := 2) cx.1 cx.2.1 dL_isText_109 (by decide) ?_
  refine lv_icmp_ne (tgt := 118) cx.1 cx.2.1 dL_isText_110 (by decide) (fun c12 => ?_) (fun c12 => ?_)
  rotate_left
  · exact absurd c12 (by decide)
  refine lv_iload cx.1 cx.2.1 dL_isText_118 (lv_at hl 3 rfl) ?_
  refine lv_iconst (v := 3) cx.1 cx.2.1 dL_isText_120 (by decide) ?_
  refine lv_icmp_ne (tgt := 129) cx.1 cx.2.1 dL_isText_121 (by decide) (fun c13 => ?_) (fun c13 => ?_)
  rotate_left
  · exact absurd c13 (by decide)
  refine lv_iload cx.1 cx.2.1 dL_isText_129 (lv_at hl 3 rfl) ?_
  refine lv_bipush (v := 6) cx.1 cx.2.1 dL_isText_131 (by decide) ?_
  refine lv_icmp_ne (tgt := 141) cx.1 cx.2.1 dL_isText_133 (by decide) (fun c14 => ?_) (fun c14 => ?_)
  · exact absurd c14 (by decide)
  refine lv_bipush (v := 119) cx.1 cx.2.1 dL_isText_136 (by decide) ?_
  refine lv_goto (tgt := 143) cx.1 cx.2.1 dL_isText_138 (by decide) ?_
  refine lv_icmp_ne (tgt := 189) cx.1 cx.2.1 dL_isText_143 (by decide) (fun c15 => ?_) (fun c15 => ?_)
  · exact absurd c15 (by decide)
  refine lv_iload cx.1 cx.2.1 dL_isText_146 (lv_at hl 3 rfl) ?_
  refine lv_iconst (v := 2) cx.1 cx.2.1 dL_isText_148 (by decide) ?_
  refine lv_icmp_lt (tgt := 185) cx.1 cx.2.1 dL_isText_149 (by decide) (fun c16 => ?_) (fun c16 => ?_)
  · exact absurd c16 (by decide)
  refine lv_iload cx.1 cx.2.1 dL_isText_152 (lv_at hl 0 rfl) ?_
  refine lv_iload cx.1 cx.2.1 dL_isText_154 (lv_at hl 3 rfl) ?_
  refine lv_iconst (v := 4) cx.1 cx.2.1 dL_isText_156 (by decide) ?_
  refine lv_icmp_ge (tgt := 169) cx.1 cx.2.1 dL_isText_157 (by decide) (fun c17 => ?_) (fun c17 => ?_)
  rotate_left
  · exact absurd c17 (by decide)
  refine lv_iload cx.1 cx.2.1 dL_isText_169 (lv_at hl 3 rfl) ?_
  refine lv_iconst (v := 4) cx.1 cx.2.1 dL_isText_171 (by decide) ?_
  refine lv_icmp_ne (tgt := 180) cx.1 cx.2.1 dL_isText_172 (by decide) (fun c18 => ?_) (fun c18 => ?_)
  rotate_left
  · exact absurd c18 (by decide)
  refine lv_bipush (v := 114) cx.1 cx.2.1 dL_isText_180 (by decide) ?_
  refine lv_icmp_ne (tgt := 189) cx.1 cx.2.1 dL_isText_182 (by decide) (fun c19 => ?_) (fun c19 => ?_)
  · exact absurd c19 (by decide)
  refine lv_iconst (v := 1) cx.1 cx.2.1 dL_isText_185 (by decide) ?_
  refine lv_goto (tgt := 190) cx.1 cx.2.1 dL_isText_186 (by decide) ?_
  exact bRet (v := 1) cx hrt hlk (by first | rfl | decide) hS hP ⟨rfl, rfl⟩ (Nat.le_of_ble_eq_true rfl) (Nat.le_of_ble_eq_true rfl) dL_isText_190
theorem c_L_isText (l : Launch) (dC : Nat → ClassId) (dI : Nat → Nat → Nat) (cyI cyB : ClassId) (ad : Nat → Nat) (hI : zI ad 39) (hlf : l.stackTraces = false) (S F : zS) (hF : LF S F) (nc : Nat) (hnc : nc < 64) : bMet l (dC, dI) (lTys cyI cyB) ad 39 xL (qw cyI ad) yL_isText wsL_isText ({ frames := 14, cells := 32, slots := 256, locals := 447 } : Room) [.ref (ad 0), .ref (ad 36), .ref (ad 37), .int (nI nc)] S 32 256 (fun v T => v = 1 ∧ T = S) := by
  rcases hF.kd nc hnc with hk | hk | hk | hk | hk | hk | hk
  · exact c_L_isText0 l dC dI cyI cyB ad hI hlf S F hF nc hnc hk
  · exact c_L_isText1 l dC dI cyI cyB ad hI hlf S F hF nc hnc hk
  · exact c_L_isText2 l dC dI cyI cyB ad hI hlf S F hF nc hnc hk
  · exact c_L_isText3 l dC dI cyI cyB ad hI hlf S F hF nc hnc hk
  · exact c_L_isText4 l dC dI cyI cyB ad hI hlf S F hF nc hnc hk
  · exact c_L_isText5 l dC dI cyI cyB ad hI hlf S F hF nc hnc hk
  · exact c_L_isText6 l dC dI cyI cyB ad hI hlf S F hF nc hnc hk
