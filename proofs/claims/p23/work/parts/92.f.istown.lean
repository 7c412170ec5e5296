set_option maxHeartbeats 4000000 in
set_option maxRecDepth 100000 in
theorem c_L_isTown (l : Launch) (dC : Nat → ClassId) (dI : Nat → Nat → Nat) (cyI cyB : ClassId) (ad : Nat → Nat) (hI : zI ad 39) (hlf : l.stackTraces = false) (S : zS) (F : zS) (hF : LF S F) (nc : Nat) (no : Nat) (hnc : nc < 64) (hno : no < 64) : bMet l (dC, dI) (lTys cyI cyB) ad 39 xL (qw cyI ad) yL_isTown wsB_isTown ({ frames := 16, cells := 144, slots := 1152, locals := 501 } : Room) [.ref (ad 0), .ref (ad 36), .ref (ad 37), .ref (ad 38), .int (nI nc), .int (nI no)] S 144 1152 (fun v T => v = 1 ∧ T = S) := by
  refine bStart (by decide) rfl (Nat.le_of_ble_eq_true rfl) ?_
  intro p e s m args below meth c ls cx hrt hlk hP hK hXs hl
  have hl : lv_has ls 7 [(0, .ref (ad 0)), (1, .ref (ad 36)), (2, .ref (ad 37)), (3, .ref (ad 38)), (4, .int (nI nc)), (5, .int (nI no))] := hl
  have hS : va_S (zA ad 39 s.heap.size) s.heap s.heap [] := va_S.rf
  refine lv_aload_n cx.1 cx.2.1 dL_isTown_0 rfl (lv_at hl 0 rfl) ?_
  refine zThenIx (v := S 22 0) (S' := S) hS (zRunV (As := []) (rest := []) _ 0 cx (bq_X6_cash l dC dI cyI cyB ad hI S F hF ) gL_isTown_X6_cash rfl ⟨rfl, rfl⟩ (by decide +kernel) ⟨Nat.le_of_ble_eq_true rfl, Nat.le_of_ble_eq_true rfl⟩ (xL_X ad 39) hXs hK hP hS 0 rfl rfl rfl rfl hl.1 rfl (Nat.le_of_ble_eq_true rfl) dL_isTown_1 ⟨Nat.le_of_ble_eq_true rfl, Nat.le_of_ble_eq_true rfl⟩) (fun H locs hP hS => ?_)
  refine lv_aload_n cx.1 cx.2.1 dL_isTown_4 rfl (lv_at hl 3 rfl) ?_
  refine lv_iconst (v := 0) cx.1 cx.2.1 dL_isTown_5 (by decide) ?_
  refine zIldN cx hK hP 38 0 rfl rfl (0) (by omega) (by decide) rfl dL_isTown_6 ?_
  refine lv_icmp_ne (tgt := 165) cx.1 cx.2.1 dL_isTown_7 (by decide) (fun c1 => ?_) (fun c1 => ?_)
  · exact absurd rfl c1
  · refine lv_aload_n cx.1 cx.2.1 dL_isTown_10 rfl (lv_at hl 0 rfl) ?_
    refine zThenIx (v := S 22 1) (S' := S) hS (zRunV (As := []) (rest := []) _ 0 cx (bq_X6_debt l dC dI cyI cyB ad hI S F hF ) gL_isTown_X6_debt rfl ⟨rfl, rfl⟩ (by decide +kernel) ⟨Nat.le_of_ble_eq_true rfl, Nat.le_of_ble_eq_true rfl⟩ (xL_X ad 39) hXs hK hP hS 0 rfl rfl rfl rfl hl.1 rfl (Nat.le_of_ble_eq_true rfl) dL_isTown_11 ⟨Nat.le_of_ble_eq_true rfl, Nat.le_of_ble_eq_true rfl⟩) (fun H locs hP hS => ?_)
    refine lv_aload_n cx.1 cx.2.1 dL_isTown_14 rfl (lv_at hl 3 rfl) ?_
    refine lv_iconst (v := 1) cx.1 cx.2.1 dL_isTown_15 (by decide) ?_
    refine zIldN cx hK hP 38 0 rfl rfl (1) (by omega) (by decide) rfl dL_isTown_16 ?_
    refine lv_icmp_ne (tgt := 165) cx.1 cx.2.1 dL_isTown_17 (by decide) (fun c2 => ?_) (fun c2 => ?_)
    · exact absurd rfl c2
    · refine lv_aload_n cx.1 cx.2.1 dL_isTown_20 rfl (lv_at hl 0 rfl) ?_
      refine zThenIx (v := S 22 2) (S' := S) hS (zRunV (As := []) (rest := []) _ 0 cx (bq_X6_earned l dC dI cyI cyB ad hI S F hF ) gL_isTown_X6_earned rfl ⟨rfl, rfl⟩ (by decide +kernel) ⟨Nat.le_of_ble_eq_true rfl, Nat.le_of_ble_eq_true rfl⟩ (xL_X ad 39) hXs hK hP hS 0 rfl rfl rfl rfl hl.1 rfl (Nat.le_of_ble_eq_true rfl) dL_isTown_21 ⟨Nat.le_of_ble_eq_true rfl, Nat.le_of_ble_eq_true rfl⟩) (fun H locs hP hS => ?_)
      refine lv_aload_n cx.1 cx.2.1 dL_isTown_24 rfl (lv_at hl 3 rfl) ?_
      refine lv_iconst (v := 2) cx.1 cx.2.1 dL_isTown_25 (by decide) ?_
      refine zIldN cx hK hP 38 0 rfl rfl (2) (by omega) (by decide) rfl dL_isTown_26 ?_
      refine lv_icmp_ne (tgt := 165) cx.1 cx.2.1 dL_isTown_27 (by decide) (fun c3 => ?_) (fun c3 => ?_)
      · exact absurd rfl c3
      · refine lv_aload_n cx.1 cx.2.1 dL_isTown_30 rfl (lv_at hl 0 rfl) ?_
        refine lv_iconst (v := 0) cx.1 cx.2.1 dL_isTown_31 (by decide) ?_
        refine lv_bipush (v := 64) cx.1 cx.2.1 dL_isTown_32 (by decide) ?_
        refine lv_iconst (v := 0) cx.1 cx.2.1 dL_isTown_34 (by decide) ?_
        refine bCallW (As := [.ref (ad 0), .int 0, .int 64, .int 0]) (rest := []) 4 cx (c_L_asks0 l dC dI cyI cyB ad hI hlf S ) gL_isTown_L_asks rfl ⟨rfl, rfl⟩ (by decide +kernel) ⟨Nat.le_of_ble_eq_true rfl, Nat.le_of_ble_eq_true rfl⟩ (xL_X ad 39) hXs hK hP hS rfl hl.1 rfl (Nat.le_of_ble_eq_true rfl) dL_isTown_35 ⟨Nat.le_of_ble_eq_true rfl, Nat.le_of_ble_eq_true rfl⟩ (fun r T4 H locs hp hP hS => ?_)
        obtain ⟨h7, h8⟩ := hp
        subst h7
        rw [h8] at hP
        refine lv_ldc (own := RL) (v := (-3000000)) cx.1 cx.2.1 cx.2.2.2.1 (cx.2.2.2.2 (Cond.constant RL 33 (-3000000)) (by decide +kernel)) dL_isTown_38 ?_
        refine lv_icmp_ne (tgt := 165) cx.1 cx.2.1 dL_isTown_40 (by decide) (fun c5 => ?_) (fun c5 => ?_)
        · exact absurd c5 (by decide)
        refine lv_aload_n cx.1 cx.2.1 dL_isTown_43 rfl (lv_at hl 0 rfl) ?_
        refine lv_iconst (v := 1) cx.1 cx.2.1 dL_isTown_44 (by decide) ?_
        refine lv_iconst (v := (-1)) cx.1 cx.2.1 dL_isTown_45 (by decide) ?_
        refine lv_iconst (v := 0) cx.1 cx.2.1 dL_isTown_46 (by decide) ?_
        refine bCallW (As := [.ref (ad 0), .int 1, .int (-1), .int 0]) (rest := []) 4 cx (c_L_asks1 l dC dI cyI cyB ad hI hlf S ) gL_isTown_L_asks rfl ⟨rfl, rfl⟩ (by decide +kernel) ⟨Nat.le_of_ble_eq_true rfl, Nat.le_of_ble_eq_true rfl⟩ (xL_X ad 39) hXs hK hP hS rfl hl.1 rfl (Nat.le_of_ble_eq_true rfl) dL_isTown_47 ⟨Nat.le_of_ble_eq_true rfl, Nat.le_of_ble_eq_true rfl⟩ (fun r T6 H locs hp hP hS => ?_)
        obtain ⟨h7, h8⟩ := hp
        subst h7
        rw [h8] at hP
        refine lv_ldc (own := RL) (v := (-3000000)) cx.1 cx.2.1 cx.2.2.2.1 (cx.2.2.2.2 (Cond.constant RL 33 (-3000000)) (by decide +kernel)) dL_isTown_50 ?_
        refine lv_icmp_ne (tgt := 165) cx.1 cx.2.1 dL_isTown_52 (by decide) (fun c7 => ?_) (fun c7 => ?_)
        · exact absurd c7 (by decide)
        refine lv_aload_n cx.1 cx.2.1 dL_isTown_55 rfl (lv_at hl 0 rfl) ?_
        refine lv_iconst (v := 3) cx.1 cx.2.1 dL_isTown_56 (by decide) ?_
        refine lv_bipush (v := 64) cx.1 cx.2.1 dL_isTown_57 (by decide) ?_
        refine lv_iconst (v := 0) cx.1 cx.2.1 dL_isTown_59 (by decide) ?_
        refine bCallW (As := [.ref (ad 0), .int 3, .int 64, .int 0]) (rest := []) 4 cx (c_L_asks3 l dC dI cyI cyB ad hI hlf S ) gL_isTown_L_asks rfl ⟨rfl, rfl⟩ (by decide +kernel) ⟨Nat.le_of_ble_eq_true rfl, Nat.le_of_ble_eq_true rfl⟩ (xL_X ad 39) hXs hK hP hS rfl hl.1 rfl (Nat.le_of_ble_eq_true rfl) dL_isTown_60 ⟨Nat.le_of_ble_eq_true rfl, Nat.le_of_ble_eq_true rfl⟩ (fun r T8 H locs hp hP hS => ?_)
        obtain ⟨h7, h8⟩ := hp
        subst h7
        rw [h8] at hP
        refine lv_ldc (own := RL) (v := (-3000000)) cx.1 cx.2.1 cx.2.2.2.1 (cx.2.2.2.2 (Cond.constant RL 33 (-3000000)) (by decide +kernel)) dL_isTown_63 ?_
        refine lv_icmp_ne (tgt := 165) cx.1 cx.2.1 dL_isTown_65 (by decide) (fun c9 => ?_) (fun c9 => ?_)
        · exact absurd c9 (by decide)
        refine lv_aload_n cx.1 cx.2.1 dL_isTown_68 rfl (lv_at hl 0 rfl) ?_
        refine lv_iconst (v := 4) cx.1 cx.2.1 dL_isTown_69 (by decide) ?_
        refine lv_iconst (v := 0) cx.1 cx.2.1 dL_isTown_70 (by decide) ?_
        refine lv_bipush (v := 64) cx.1 cx.2.1 dL_isTown_71 (by decide) ?_
        refine bCallW (As := [.ref (ad 0), .int 4, .int 0, .int 64]) (rest := []) 4 cx (c_L_asks4 l dC dI cyI cyB ad hI hlf S ) gL_isTown_L_asks rfl ⟨rfl, rfl⟩ (by decide +kernel) ⟨Nat.le_of_ble_eq_true rfl, Nat.le_of_ble_eq_true rfl⟩ (xL_X ad 39) hXs hK hP hS rfl hl.1 rfl (Nat.le_of_ble_eq_true rfl) dL_isTown_73 ⟨Nat.le_of_ble_eq_true rfl, Nat.le_of_ble_eq_true rfl⟩ (fun r T10 H locs hp hP hS => ?_)
        obtain ⟨h7, h8⟩ := hp
        subst h7
        rw [h8] at hP
        refine lv_ldc (own := RL) (v := (-3000000)) cx.1 cx.2.1 cx.2.2.2.1 (cx.2.2.2.2 (Cond.constant RL 33 (-3000000)) (by decide +kernel)) dL_isTown_76 ?_
        refine lv_icmp_ne (tgt := 165) cx.1 cx.2.1 dL_isTown_78 (by decide) (fun c11 => ?_) (fun c11 => ?_)
        · exact absurd c11 (by decide)
        refine lv_aload_n cx.1 cx.2.1 dL_isTown_81 rfl (lv_at hl 0 rfl) ?_
        refine lv_iconst (v := 5) cx.1 cx.2.1 dL_isTown_82 (by decide) ?_
        refine lv_iconst (v := (-1)) cx.1 cx.2.1 dL_isTown_83 (by decide) ?_
        refine lv_iconst (v := 0) cx.1 cx.2.1 dL_isTown_84 (by decide) ?_
        refine bCallW (As := [.ref (ad 0), .int 5, .int (-1), .int 0]) (rest := []) 4 cx (c_L_asks5 l dC dI cyI cyB ad hI hlf S ) gL_isTown_L_asks rfl ⟨rfl, rfl⟩ (by decide +kernel) ⟨Nat.le_of_ble_eq_true rfl, Nat.le_of_ble_eq_true rfl⟩ (xL_X ad 39) hXs hK hP hS rfl hl.1 rfl (Nat.le_of_ble_eq_true rfl) dL_isTown_85 ⟨Nat.le_of_ble_eq_true rfl, Nat.le_of_ble_eq_true rfl⟩ (fun r T12 H locs hp hP hS => ?_)
        obtain ⟨h7, h8⟩ := hp
        subst h7
        rw [h8] at hP
        refine lv_ldc (own := RL) (v := (-3000000)) cx.1 cx.2.1 cx.2.2.2.1 (cx.2.2.2.2 (Cond.constant RL 33 (-3000000)) (by decide +kernel)) dL_isTown_88 ?_
        refine lv_icmp_ne (tgt := 165) cx.1 cx.2.1 dL_isTown_90 (by decide) (fun c13 => ?_) (fun c13 => ?_)
        · exact absurd c13 (by decide)
        refine lv_aload_n cx.1 cx.2.1 dL_isTown_93 rfl (lv_at hl 0 rfl) ?_
        refine lv_bipush (v := 6) cx.1 cx.2.1 dL_isTown_94 (by decide) ?_
        refine lv_bipush (v := 64) cx.1 cx.2.1 dL_isTown_96 (by decide) ?_
        refine lv_iconst (v := 0) cx.1 cx.2.1 dL_isTown_98 (by decide) ?_
        refine bCallW (As := [.ref (ad 0), .int 6, .int 64, .int 0]) (rest := []) 4 cx (c_L_asks6 l dC dI cyI cyB ad hI hlf S ) gL_isTown_L_asks rfl ⟨rfl, rfl⟩ (by decide +kernel) ⟨Nat.le_of_ble_eq_true rfl, Nat.le_of_ble_eq_true rfl⟩ (xL_X ad 39) hXs hK hP hS rfl hl.1 rfl (Nat.le_of_ble_eq_true rfl) dL_isTown_99 ⟨Nat.le_of_ble_eq_true rfl, Nat.le_of_ble_eq_true rfl⟩ (fun r T14 H locs hp hP hS => ?_)
        obtain ⟨h7, h8⟩ := hp
        subst h7
        rw [h8] at hP
        refine lv_ldc (own := RL) (v := (-3000000)) cx.1 cx.2.1 cx.2.2.2.1 (cx.2.2.2.2 (Cond.constant RL 33 (-3000000)) (by decide +kernel)) dL_isTown_102 ?_
        refine lv_icmp_ne (tgt := 165) cx.1 cx.2.1 dL_isTown_104 (by decide) (fun c15 => ?_) (fun c15 => ?_)
        · exact absurd c15 (by decide)
        refine lv_aload_n cx.1 cx.2.1 dL_isTown_107 rfl (lv_at hl 0 rfl) ?_
        refine lv_bipush (v := 7) cx.1 cx.2.1 dL_isTown_108 (by decide) ?_
        refine lv_iconst (v := (-1)) cx.1 cx.2.1 dL_isTown_110 (by decide) ?_
        refine lv_iconst (v := 0) cx.1 cx.2.1 dL_isTown_111 (by decide) ?_
        refine bCallW (As := [.ref (ad 0), .int 7, .int (-1), .int 0]) (rest := []) 4 cx (c_L_asks7 l dC dI cyI cyB ad hI hlf S ) gL_isTown_L_asks rfl ⟨rfl, rfl⟩ (by decide +kernel) ⟨Nat.le_of_ble_eq_true rfl, Nat.le_of_ble_eq_true rfl⟩ (xL_X ad 39) hXs hK hP hS rfl hl.1 rfl (Nat.le_of_ble_eq_true rfl) dL_isTown_112 ⟨Nat.le_of_ble_eq_true rfl, Nat.le_of_ble_eq_true rfl⟩ (fun r T16 H locs hp hP hS => ?_)
        obtain ⟨h7, h8⟩ := hp
        subst h7
        rw [h8] at hP
        refine lv_ldc (own := RL) (v := (-3000000)) cx.1 cx.2.1 cx.2.2.2.1 (cx.2.2.2.2 (Cond.constant RL 33 (-3000000)) (by decide +kernel)) dL_isTown_115 ?_
        refine lv_icmp_ne (tgt := 165) cx.1 cx.2.1 dL_isTown_117 (by decide) (fun c17 => ?_) (fun c17 => ?_)
        · exact absurd c17 (by decide)
        refine lv_aload_n cx.1 cx.2.1 dL_isTown_120 rfl (lv_at hl 0 rfl) ?_
        refine lv_bipush (v := 8) cx.1 cx.2.1 dL_isTown_121 (by decide) ?_
        refine lv_bipush (v := 64) cx.1 cx.2.1 dL_isTown_123 (by decide) ?_
        refine lv_iconst (v := 0) cx.1 cx.2.1 dL_isTown_125 (by decide) ?_
        refine bCallW (As := [.ref (ad 0), .int 8, .int 64, .int 0]) (rest := []) 4 cx (c_L_asks8 l dC dI cyI cyB ad hI hlf S ) gL_isTown_L_asks rfl ⟨rfl, rfl⟩ (by decide +kernel) ⟨Nat.le_of_ble_eq_true rfl, Nat.le_of_ble_eq_true rfl⟩ (xL_X ad 39) hXs hK hP hS rfl hl.1 rfl (Nat.le_of_ble_eq_true rfl) dL_isTown_126 ⟨Nat.le_of_ble_eq_true rfl, Nat.le_of_ble_eq_true rfl⟩ (fun r T18 H locs hp hP hS => ?_)
        obtain ⟨h7, h8⟩ := hp
        subst h7
        rw [h8] at hP
        refine lv_ldc (own := RL) (v := (-3000000)) cx.1 cx.2.1 cx.2.2.2.1 (cx.2.2.2.2 (Cond.constant RL 33 (-3000000)) (by decide +kernel)) dL_isTown_129 ?_
        refine lv_icmp_ne (tgt := 165) cx.1 cx.2.1 dL_isTown_131 (by decide) (fun c19 => ?_) (fun c19 => ?_)
        · exact absurd c19 (by decide)
        refine lv_aload_n cx.1 cx.2.1 dL_isTown_134 rfl (lv_at hl 0 rfl) ?_
        refine lv_bipush (v := 9) cx.1 cx.2.1 dL_isTown_135 (by decide) ?_
        refine lv_iconst (v := (-1)) cx.1 cx.2.1 dL_isTown_137 (by decide) ?_
        refine lv_iconst (v := 0) cx.1 cx.2.1 dL_isTown_138 (by decide) ?_
        refine bCallW (As := [.ref (ad 0), .int 9, .int (-1), .int 0]) (rest := []) 4 cx (c_L_asks9 l dC dI cyI cyB ad hI hlf S ) gL_isTown_L_asks rfl ⟨rfl, rfl⟩ (by decide +kernel) ⟨Nat.le_of_ble_eq_true rfl, Nat.le_of_ble_eq_true rfl⟩ (xL_X ad 39) hXs hK hP hS rfl hl.1 rfl (Nat.le_of_ble_eq_true rfl) dL_isTown_139 ⟨Nat.le_of_ble_eq_true rfl, Nat.le_of_ble_eq_true rfl⟩ (fun r T20 H locs hp hP hS => ?_)
        obtain ⟨h7, h8⟩ := hp
        subst h7
        rw [h8] at hP
        refine lv_ldc (own := RL) (v := (-3000000)) cx.1 cx.2.1 cx.2.2.2.1 (cx.2.2.2.2 (Cond.constant RL 33 (-3000000)) (by decide +kernel)) dL_isTown_142 ?_
        refine lv_icmp_ne (tgt := 165) cx.1 cx.2.1 dL_isTown_144 (by decide) (fun c21 => ?_) (fun c21 => ?_)
        · exact absurd c21 (by decide)
        refine lv_aload_n cx.1 cx.2.1 dL_isTown_147 rfl (lv_at hl 0 rfl) ?_
        refine lv_bipush (v := 10) cx.1 cx.2.1 dL_isTown_148 (by decide) ?_
        refine lv_bipush (v := 64) cx.1 cx.2.1 dL_isTown_150 (by decide) ?_
        refine lv_iconst (v := 0) cx.1 cx.2.1 dL_isTown_152 (by decide) ?_
        refine bCallW (As := [.ref (ad 0), .int 10, .int 64, .int 0]) (rest := []) 4 cx (c_L_asks10 l dC dI cyI cyB ad hI hlf S ) gL_isTown_L_asks rfl ⟨rfl, rfl⟩ (by decide +kernel) ⟨Nat.le_of_ble_eq_true rfl, Nat.le_of_ble_eq_true rfl⟩ (xL_X ad 39) hXs hK hP hS rfl hl.1 rfl (Nat.le_of_ble_eq_true rfl) dL_isTown_153 ⟨Nat.le_of_ble_eq_true rfl, Nat.le_of_ble_eq_true rfl⟩ (fun r T22 H locs hp hP hS => ?_)
        obtain ⟨h7, h8⟩ := hp
        subst h7
        rw [h8] at hP
        refine lv_ldc (own := RL) (v := (-3000000)) cx.1 cx.2.1 cx.2.2.2.1 (cx.2.2.2.2 (Cond.constant RL 33 (-3000000)) (by decide +kernel)) dL_isTown_156 ?_
        refine lv_icmp_ne (tgt := 165) cx.1 cx.2.1 dL_isTown_158 (by decide) (fun c23 => ?_) (fun c23 => ?_)
        · exact absurd c23 (by decide)
        refine lv_iconst (v := 1) cx.1 cx.2.1 dL_isTown_161 (by decide) ?_
        refine lv_goto (tgt := 166) cx.1 cx.2.1 dL_isTown_162 (by decide) ?_
        refine lv_istore (lv' := [(6, .int 1), (0, .ref (ad 0)), (1, .ref (ad 36)), (2, .ref (ad 37)), (3, .ref (ad 38)), (4, .int (nI nc)), (5, .int (nI no))]) cx.1 cx.2.1 dL_isTown_166 hl (by decide) rfl (fun ls hl => ?_)
        refine lv_iload cx.1 cx.2.1 dL_isTown_168 (lv_at hl 0 rfl) ?_
        refine lv_if_eq (tgt := 222) cx.1 cx.2.1 dL_isTown_170 (by decide) (fun c24 => ?_) (fun c24 => ?_)
        · exact absurd c24 (by decide)
        refine lv_aload_n cx.1 cx.2.1 dL_isTown_173 rfl (lv_at hl 1 rfl) ?_
        refine lv_aload_n cx.1 cx.2.1 dL_isTown_174 rfl (lv_at hl 2 rfl) ?_
        refine lv_aload_n cx.1 cx.2.1 dL_isTown_175 rfl (lv_at hl 3 rfl) ?_
        refine lv_iload cx.1 cx.2.1 dL_isTown_176 (lv_at hl 5 rfl) ?_
        refine bCall (As := [.ref (ad 0), .ref (ad 36), .ref (ad 37), .int (nI nc)]) (rest := []) 4 cx (c_L_isCell l dC dI cyI cyB ad hI hlf S F hF nc (by omega)) gL_isTown_L_isCell rfl ⟨rfl, rfl⟩ (by decide +kernel) ⟨Nat.le_of_ble_eq_true rfl, Nat.le_of_ble_eq_true rfl⟩ (xL_X ad 39) hXs hK hP hS rfl hl.1 rfl (Nat.le_of_ble_eq_true rfl) dL_isTown_178 ⟨Nat.le_of_ble_eq_true rfl, Nat.le_of_ble_eq_true rfl⟩ (fun r T25 H locs hp hP hS => ?_)
        obtain ⟨h7, h8⟩ := hp
        subst h7
        rw [h8] at hP
        refine lv_if_eq (tgt := 222) cx.1 cx.2.1 dL_isTown_181 (by decide) (fun c26 => ?_) (fun c26 => ?_)
        · exact absurd c26 (by decide)
        refine lv_aload_n cx.1 cx.2.1 dL_isTown_184 rfl (lv_at hl 1 rfl) ?_
        refine lv_aload_n cx.1 cx.2.1 dL_isTown_185 rfl (lv_at hl 2 rfl) ?_
        refine lv_aload_n cx.1 cx.2.1 dL_isTown_186 rfl (lv_at hl 3 rfl) ?_
        refine lv_iload cx.1 cx.2.1 dL_isTown_187 (lv_at hl 6 rfl) ?_
        refine bCall (As := [.ref (ad 0), .ref (ad 36), .ref (ad 37), .int (nI no)]) (rest := []) 4 cx (c_L_isCell l dC dI cyI cyB ad hI hlf S F hF no (by omega)) gL_isTown_L_isCell rfl ⟨rfl, rfl⟩ (by decide +kernel) ⟨Nat.le_of_ble_eq_true rfl, Nat.le_of_ble_eq_true rfl⟩ (xL_X ad 39) hXs hK hP hS rfl hl.1 rfl (Nat.le_of_ble_eq_true rfl) dL_isTown_189 ⟨Nat.le_of_ble_eq_true rfl, Nat.le_of_ble_eq_true rfl⟩ (fun r T27 H locs hp hP hS => ?_)
        obtain ⟨h7, h8⟩ := hp
        subst h7
        rw [h8] at hP
        refine lv_if_eq (tgt := 222) cx.1 cx.2.1 dL_isTown_192 (by decide) (fun c28 => ?_) (fun c28 => ?_)
        · exact absurd c28 (by decide)
        refine lv_aload_n cx.1 cx.2.1 dL_isTown_195 rfl (lv_at hl 1 rfl) ?_
        refine lv_aload_n cx.1 cx.2.1 dL_isTown_196 rfl (lv_at hl 2 rfl) ?_
        refine lv_iload cx.1 cx.2.1 dL_isTown_197 (lv_at hl 5 rfl) ?_
        refine lv_iload cx.1 cx.2.1 dL_isTown_199 (lv_at hl 6 rfl) ?_
        refine zThenIx (v := 1) (S' := S) hS (zRunS (As := [.ref (ad 0), .ref (ad 36), .int (nI nc), .int (nI no)]) (rest := []) _ 4 cx (c_L_isNet l dC dI cyI cyB ad hI S F hF nc no (by omega) (by omega)) gL_isTown_L_isNet rfl ⟨rfl, rfl⟩ (by decide +kernel) ⟨Nat.le_of_ble_eq_true rfl, Nat.le_of_ble_eq_true rfl⟩ (xL_X ad 39) hXs hK hP hS rfl hl.1 rfl (Nat.le_of_ble_eq_true rfl) dL_isTown_201 ⟨Nat.le_of_ble_eq_true rfl, Nat.le_of_ble_eq_true rfl⟩) (fun H locs hP hS => ?_)
        refine lv_if_eq (tgt := 222) cx.1 cx.2.1 dL_isTown_204 (by decide) (fun c29 => ?_) (fun c29 => ?_)
        · exact absurd c29 (by decide)
        refine lv_aload_n cx.1 cx.2.1 dL_isTown_207 rfl (lv_at hl 1 rfl) ?_
        refine lv_aload_n cx.1 cx.2.1 dL_isTown_208 rfl (lv_at hl 2 rfl) ?_
        refine lv_aload_n cx.1 cx.2.1 dL_isTown_209 rfl (lv_at hl 3 rfl) ?_
        refine lv_iload cx.1 cx.2.1 dL_isTown_210 (lv_at hl 5 rfl) ?_
        refine zThenIx (v := 1) (S' := S) hS (zRunS (As := [.ref (ad 0), .ref (ad 36), .ref (ad 37), .int (nI nc)]) (rest := []) _ 4 cx (c_L_isSupplied l dC dI cyI cyB ad hI S F hF nc (by omega)) gL_isTown_L_isSupplied rfl ⟨rfl, rfl⟩ (by decide +kernel) ⟨Nat.le_of_ble_eq_true rfl, Nat.le_of_ble_eq_true rfl⟩ (xL_X ad 39) hXs hK hP hS rfl hl.1 rfl (Nat.le_of_ble_eq_true rfl) dL_isTown_212 ⟨Nat.le_of_ble_eq_true rfl, Nat.le_of_ble_eq_true rfl⟩) (fun H locs hP hS => ?_)
        refine lv_if_eq (tgt := 222) cx.1 cx.2.1 dL_isTown_215 (by decide) (fun c30 => ?_) (fun c30 => ?_)
        · exact absurd c30 (by decide)
        refine lv_iconst (v := 1) cx.1 cx.2.1 dL_isTown_218 (by decide) ?_
        refine lv_goto (tgt := 223) cx.1 cx.2.1 dL_isTown_219 (by decide) ?_
        exact bRet (v := 1) cx hrt hlk (by first | rfl | decide) hS hP ⟨rfl, rfl⟩ (Nat.le_of_ble_eq_true rfl) (Nat.le_of_ble_eq_true rfl) dL_isTown_223
