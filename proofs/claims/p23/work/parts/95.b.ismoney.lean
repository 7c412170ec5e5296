set_option maxHeartbeats 4000000 in
set_option maxRecDepth 100000 in
theorem c_L_isMoney2 (l : Launch) (dC : Nat → ClassId) (dI : Nat → Nat → Nat) (cyI cyB : ClassId) (ad : Nat → Nat) (hI : zI ad 39) (hlf : l.stackTraces = false) (S : zS) (d : Nat) (a : Nat) (ha : a < 7000) (hB : LBd S) (hdb : d ≤ 5000) (hd : S 22 1 = nI d) : bMet l (dC, dI) (lTys cyI cyB) ad 39 xL (qw cyI ad) yL_isMoney wsB_isMoney ({ frames := 9, cells := 4, slots := 24, locals := 203 } : Room) [.ref (ad 0), .ref (ad 38), .int 2, .int (nI a)] S 4 24 (fun v T => v = 1 ∧ LBd T) := by
  refine bStart (by decide) rfl (Nat.le_of_ble_eq_true rfl) ?_
  intro p e s m args below meth c ls cx hrt hlk hP hK hXs hl
  have hl : lv_has ls 7 [(0, .ref (ad 0)), (1, .ref (ad 38)), (2, .int 2), (3, .int (nI a))] := hl
  have hS : va_S (zA ad 39 s.heap.size) s.heap s.heap [] := va_S.rf
  refine lv_iload_n cx.1 cx.2.1 dL_isMoney_0 rfl (lv_at hl 2 rfl) ?_
  refine lv_iconst (v := 2) cx.1 cx.2.1 dL_isMoney_1 (by decide) ?_
  refine lv_icmp_ne (tgt := 117) cx.1 cx.2.1 dL_isMoney_2 (by decide) (fun c1 => ?_) (fun c1 => ?_)
  · exact absurd c1 (by decide)
  refine lv_iload_n cx.1 cx.2.1 dL_isMoney_5 rfl (lv_at hl 3 rfl) ?_
  refine lv_iconst (v := 2) cx.1 cx.2.1 dL_isMoney_6 (by decide) ?_
  refine lv_irem cx.1 cx.2.1 dL_isMoney_7 (by decide) ?_
  rw [show (nI a) - (nI a) / 2 * 2 = nI (a % 2) from pk_rem (a := a) (d := 2) (by omega) (by decide) (by decide)]
  refine lv_iconst (v := 1) cx.1 cx.2.1 dL_isMoney_8 (by decide) ?_
  refine lv_icmp_ne (tgt := 16) cx.1 cx.2.1 dL_isMoney_9 (by decide) (fun c2 => ?_) (fun c2 => ?_)
  · have nc2 : ¬ a % 2 = 1 := fun z => c2 ((nI_eq (a := a % 2) (b := 1) (by first | decide | omega) (by first | decide | omega)).mpr z)
    refine lv_iconst (v := 0) cx.1 cx.2.1 dL_isMoney_16 (by decide) ?_
    refine lv_istore (lv' := [(4, .int 0), (0, .ref (ad 0)), (1, .ref (ad 38)), (2, .int 2), (3, .int (nI a))]) cx.1 cx.2.1 dL_isMoney_17 hl (by decide) rfl (fun ls hl => ?_)
    refine lv_iload_n cx.1 cx.2.1 dL_isMoney_19 rfl (lv_at hl 4 rfl) ?_
    refine lv_iconst (v := 2) cx.1 cx.2.1 dL_isMoney_20 (by decide) ?_
    refine lv_idiv cx.1 cx.2.1 dL_isMoney_21 (by decide) ?_
    rw [show (nI a) / 2 = nI (a / 2) from pk_div (a := a) (d := 2) (by omega) (by decide) (by decide)]
    refine lv_bipush (v := 22) cx.1 cx.2.1 dL_isMoney_22 (by decide) ?_
    refine lv_irem cx.1 cx.2.1 dL_isMoney_24 (by decide) ?_
    rw [show (nI (a / 2)) - (nI (a / 2)) / 22 * 22 = nI ((a / 2) % 22) from pk_rem (a := a / 2) (d := 22) (by omega) (by decide) (by decide)]
    refine lv_istore (lv' := [(5, .int (nI ((a / 2) % 22))), (4, .int 0), (0, .ref (ad 0)), (1, .ref (ad 38)), (2, .int 2), (3, .int (nI a))]) cx.1 cx.2.1 dL_isMoney_25 hl (by decide) rfl (fun ls hl => ?_)
    refine lv_iload cx.1 cx.2.1 dL_isMoney_27 (lv_at hl 0 rfl) ?_
    refine lv_bipush (v := 21) cx.1 cx.2.1 dL_isMoney_29 (by decide) ?_
    refine lv_icmp_ne (tgt := 39) cx.1 cx.2.1 dL_isMoney_31 (by decide) (fun c3 => ?_) (fun c3 => ?_)
    · have nc3 : ¬ (a / 2) % 22 = 21 := fun z => c3 ((nI_eq (a := (a / 2) % 22) (b := 21) (by first | decide | omega) (by first | decide | omega)).mpr z)
      refine lv_aload_n cx.1 cx.2.1 dL_isMoney_39 rfl (lv_at hl 3 rfl) ?_
      refine lv_iload cx.1 cx.2.1 dL_isMoney_40 (lv_at hl 1 rfl) ?_
      refine lv_if_eq (tgt := 49) cx.1 cx.2.1 dL_isMoney_42 (by decide) (fun c4 => ?_) (fun c4 => ?_)
      rotate_left
      · exact absurd c4 (by decide)
      refine lv_iconst (v := 3) cx.1 cx.2.1 dL_isMoney_49 (by decide) ?_
      refine zIldN cx hK hP 38 0 rfl rfl (3) (by omega) (by decide) rfl dL_isMoney_50 ?_
      refine lv_istore (lv' := [(6, .int (S 22 3)), (5, .int (nI ((a / 2) % 22))), (4, .int 0), (0, .ref (ad 0)), (1, .ref (ad 38)), (2, .int 2), (3, .int (nI a))]) cx.1 cx.2.1 dL_isMoney_51 hl (by decide) rfl (fun ls hl => ?_)
      refine lv_aload_n cx.1 cx.2.1 dL_isMoney_53 rfl (lv_at hl 4 rfl) ?_
      refine lv_iload cx.1 cx.2.1 dL_isMoney_54 (lv_at hl 2 rfl) ?_
      refine lv_if_eq (tgt := 63) cx.1 cx.2.1 dL_isMoney_56 (by decide) (fun c5 => ?_) (fun c5 => ?_)
      rotate_left
      · exact absurd c5 (by decide)
      refine lv_iconst (v := 3) cx.1 cx.2.1 dL_isMoney_63 (by decide) ?_
      refine lv_iload cx.1 cx.2.1 dL_isMoney_64 (lv_at hl 1 rfl) ?_
      refine lv_bipush (v := 21) cx.1 cx.2.1 dL_isMoney_66 (by decide) ?_
      refine lv_icmp_ne (tgt := 86) cx.1 cx.2.1 dL_isMoney_68 (by decide) (fun c6 => ?_) (fun c6 => ?_)
      rotate_left
      · exact absurd c6 c3
      refine lv_iload cx.1 cx.2.1 dL_isMoney_86 (lv_at hl 1 rfl) ?_
      refine zIstN cx (qw_W cyI ad) hI hK hP hS 38 0 rfl rfl (3) (by omega) (by decide) rfl (zUp S 22 (upd (S 22) 3 (nI ((a / 2) % 22)))) rfl dL_isMoney_88 (fun H locs hP hS => ?_)
      refine lv_aload_n cx.1 cx.2.1 dL_isMoney_89 rfl (lv_at hl 3 rfl) ?_
      refine lv_iconst (v := 2) cx.1 cx.2.1 dL_isMoney_90 (by decide) ?_
      refine lv_iload cx.1 cx.2.1 dL_isMoney_91 (lv_at hl 1 rfl) ?_
      refine lv_iload cx.1 cx.2.1 dL_isMoney_93 (lv_at hl 2 rfl) ?_
      refine lv_if_eq (tgt := 102) cx.1 cx.2.1 dL_isMoney_95 (by decide) (fun c7 => ?_) (fun c7 => ?_)
      rotate_left
      · exact absurd c7 (by decide)
      refine lv_iconst (v := 0) cx.1 cx.2.1 dL_isMoney_102 (by decide) ?_
      refine bCallW (As := [.ref (ad 0), .int 2, .int (nI ((a / 2) % 22)), .int 0]) (rest := []) 4 cx (c_L_does2_0 l dC dI cyI cyB ad hI hlf (zUp S 22 (upd (S 22) 3 (nI ((a / 2) % 22)))) (nI ((a / 2) % 22))) gL_isMoney_L_does rfl ⟨rfl, rfl⟩ (by decide +kernel) ⟨Nat.le_of_ble_eq_true rfl, Nat.le_of_ble_eq_true rfl⟩ (xL_X ad 39) hXs hK hP hS rfl hl.1 rfl (Nat.le_of_ble_eq_true rfl) dL_isMoney_103 ⟨Nat.le_of_ble_eq_true rfl, Nat.le_of_ble_eq_true rfl⟩ (fun rD TD H locs hp hP hS => ?_)
      obtain ⟨hv, hMF⟩ := m2_0 hB (by omega) rfl hp
      refine lv_iload cx.1 cx.2.1 dL_isMoney_106 (lv_at hl 0 rfl) ?_
      refine lv_icmp_ne (tgt := 115) cx.1 cx.2.1 dL_isMoney_108 (by decide) (fun c8 => ?_) (fun c8 => ?_)
      · exact absurd hv c8
      · refine lv_iconst (v := 1) cx.1 cx.2.1 dL_isMoney_111 (by decide) ?_
        refine lv_goto (tgt := 116) cx.1 cx.2.1 dL_isMoney_112 (by decide) ?_
        exact bRet (v := 1) cx hrt hlk (by first | rfl | decide) hS hP ⟨rfl, hMF⟩ (Nat.le_of_ble_eq_true rfl) (Nat.le_of_ble_eq_true rfl) dL_isMoney_116
    · have nc3 : (a / 2) % 22 = 21 := (nI_eq (a := (a / 2) % 22) (b := 21) (by first | decide | omega) (by first | decide | omega)).mp c3
      refine lv_ldc (own := RL) (v := (-2000000)) cx.1 cx.2.1 cx.2.2.2.1 (cx.2.2.2.2 (Cond.constant RL 36 (-2000000)) (by decide +kernel)) dL_isMoney_34 ?_
      refine lv_goto (tgt := 51) cx.1 cx.2.1 dL_isMoney_36 (by decide) ?_
      refine lv_istore (lv' := [(6, .int (-2000000)), (5, .int (nI ((a / 2) % 22))), (4, .int 0), (0, .ref (ad 0)), (1, .ref (ad 38)), (2, .int 2), (3, .int (nI a))]) cx.1 cx.2.1 dL_isMoney_51 hl (by decide) rfl (fun ls hl => ?_)
      refine lv_aload_n cx.1 cx.2.1 dL_isMoney_53 rfl (lv_at hl 4 rfl) ?_
      refine lv_iload cx.1 cx.2.1 dL_isMoney_54 (lv_at hl 2 rfl) ?_
      refine lv_if_eq (tgt := 63) cx.1 cx.2.1 dL_isMoney_56 (by decide) (fun c9 => ?_) (fun c9 => ?_)
      rotate_left
      · exact absurd c9 (by decide)
      refine lv_iconst (v := 3) cx.1 cx.2.1 dL_isMoney_63 (by decide) ?_
      refine lv_iload cx.1 cx.2.1 dL_isMoney_64 (lv_at hl 1 rfl) ?_
      refine lv_bipush (v := 21) cx.1 cx.2.1 dL_isMoney_66 (by decide) ?_
      refine lv_icmp_ne (tgt := 86) cx.1 cx.2.1 dL_isMoney_68 (by decide) (fun c10 => ?_) (fun c10 => ?_)
      · exact absurd c3 c10
      refine lv_aload_n cx.1 cx.2.1 dL_isMoney_71 rfl (lv_at hl 4 rfl) ?_
      refine lv_iload cx.1 cx.2.1 dL_isMoney_72 (lv_at hl 2 rfl) ?_
      refine lv_if_eq (tgt := 81) cx.1 cx.2.1 dL_isMoney_74 (by decide) (fun c11 => ?_) (fun c11 => ?_)
      rotate_left
      · exact absurd c11 (by decide)
      refine lv_iconst (v := 3) cx.1 cx.2.1 dL_isMoney_81 (by decide) ?_
      refine zIldN cx hK hP 38 0 rfl rfl (3) (by omega) (by decide) rfl dL_isMoney_82 ?_
      refine lv_goto (tgt := 88) cx.1 cx.2.1 dL_isMoney_83 (by decide) ?_
      refine zIstN cx (qw_W cyI ad) hI hK hP hS 38 0 rfl rfl (3) (by omega) (by decide) rfl (zUp S 22 (upd (S 22) 3 (S 22 3))) rfl dL_isMoney_88 (fun H locs hP hS => ?_)
      refine lv_aload_n cx.1 cx.2.1 dL_isMoney_89 rfl (lv_at hl 3 rfl) ?_
      refine lv_iconst (v := 2) cx.1 cx.2.1 dL_isMoney_90 (by decide) ?_
      refine lv_iload cx.1 cx.2.1 dL_isMoney_91 (lv_at hl 1 rfl) ?_
      refine lv_iload cx.1 cx.2.1 dL_isMoney_93 (lv_at hl 2 rfl) ?_
      refine lv_if_eq (tgt := 102) cx.1 cx.2.1 dL_isMoney_95 (by decide) (fun c12 => ?_) (fun c12 => ?_)
      rotate_left
      · exact absurd c12 (by decide)
      refine lv_iconst (v := 0) cx.1 cx.2.1 dL_isMoney_102 (by decide) ?_
      refine bCallW (As := [.ref (ad 0), .int 2, .int (nI ((a / 2) % 22)), .int 0]) (rest := []) 4 cx (c_L_does2_0 l dC dI cyI cyB ad hI hlf (zUp S 22 (upd (S 22) 3 (S 22 3))) (nI ((a / 2) % 22))) gL_isMoney_L_does rfl ⟨rfl, rfl⟩ (by decide +kernel) ⟨Nat.le_of_ble_eq_true rfl, Nat.le_of_ble_eq_true rfl⟩ (xL_X ad 39) hXs hK hP hS rfl hl.1 rfl (Nat.le_of_ble_eq_true rfl) dL_isMoney_103 ⟨Nat.le_of_ble_eq_true rfl, Nat.le_of_ble_eq_true rfl⟩ (fun rD2 TD2 H locs hp hP hS => ?_)
      obtain ⟨hv, hMF⟩ := m2_bad hB (by omega) rfl hp
      refine lv_iload cx.1 cx.2.1 dL_isMoney_106 (lv_at hl 0 rfl) ?_
      refine lv_icmp_ne (tgt := 115) cx.1 cx.2.1 dL_isMoney_108 (by decide) (fun c13 => ?_) (fun c13 => ?_)
      · exact absurd hv c13
      · refine lv_iconst (v := 1) cx.1 cx.2.1 dL_isMoney_111 (by decide) ?_
        refine lv_goto (tgt := 116) cx.1 cx.2.1 dL_isMoney_112 (by decide) ?_
        exact bRet (v := 1) cx hrt hlk (by first | rfl | decide) hS hP ⟨rfl, hMF⟩ (Nat.le_of_ble_eq_true rfl) (Nat.le_of_ble_eq_true rfl) dL_isMoney_116
  · have nc2 : a % 2 = 1 := (nI_eq (a := a % 2) (b := 1) (by first | decide | omega) (by first | decide | omega)).mp c2
    refine lv_iconst (v := 1) cx.1 cx.2.1 dL_isMoney_12 (by decide) ?_
    refine lv_goto (tgt := 17) cx.1 cx.2.1 dL_isMoney_13 (by decide) ?_
    refine lv_istore (lv' := [(4, .int 1), (0, .ref (ad 0)), (1, .ref (ad 38)), (2, .int 2), (3, .int (nI a))]) cx.1 cx.2.1 dL_isMoney_17 hl (by decide) rfl (fun ls hl => ?_)
    refine lv_iload_n cx.1 cx.2.1 dL_isMoney_19 rfl (lv_at hl 4 rfl) ?_
    refine lv_iconst (v := 2) cx.1 cx.2.1 dL_isMoney_20 (by decide) ?_
    refine lv_idiv cx.1 cx.2.1 dL_isMoney_21 (by decide) ?_
    rw [show (nI a) / 2 = nI (a / 2) from pk_div (a := a) (d := 2) (by omega) (by decide) (by decide)]
    refine lv_bipush (v := 22) cx.1 cx.2.1 dL_isMoney_22 (by decide) ?_
    refine lv_irem cx.1 cx.2.1 dL_isMoney_24 (by decide) ?_
    rw [show (nI (a / 2)) - (nI (a / 2)) / 22 * 22 = nI ((a / 2) % 22) from pk_rem (a := a / 2) (d := 22) (by omega) (by decide) (by decide)]
    refine lv_istore (lv' := [(5, .int (nI ((a / 2) % 22))), (4, .int 1), (0, .ref (ad 0)), (1, .ref (ad 38)), (2, .int 2), (3, .int (nI a))]) cx.1 cx.2.1 dL_isMoney_25 hl (by decide) rfl (fun ls hl => ?_)
    refine lv_iload cx.1 cx.2.1 dL_isMoney_27 (lv_at hl 0 rfl) ?_
    refine lv_bipush (v := 21) cx.1 cx.2.1 dL_isMoney_29 (by decide) ?_
    refine lv_icmp_ne (tgt := 39) cx.1 cx.2.1 dL_isMoney_31 (by decide) (fun c14 => ?_) (fun c14 => ?_)
    · have nc14 : ¬ (a / 2) % 22 = 21 := fun z => c14 ((nI_eq (a := (a / 2) % 22) (b := 21) (by first | decide | omega) (by first | decide | omega)).mpr z)
      refine lv_aload_n cx.1 cx.2.1 dL_isMoney_39 rfl (lv_at hl 3 rfl) ?_
      refine lv_iload cx.1 cx.2.1 dL_isMoney_40 (lv_at hl 1 rfl) ?_
      refine lv_if_eq (tgt := 49) cx.1 cx.2.1 dL_isMoney_42 (by decide) (fun c15 => ?_) (fun c15 => ?_)
      · exact absurd c15 (by decide)
      refine lv_iconst (v := 4) cx.1 cx.2.1 dL_isMoney_45 (by decide) ?_
      refine lv_goto (tgt := 50) cx.1 cx.2.1 dL_isMoney_46 (by decide) ?_
      refine zIldN cx hK hP 38 0 rfl rfl (4) (by omega) (by decide) rfl dL_isMoney_50 ?_
      refine lv_istore (lv' := [(6, .int (S 22 4)), (5, .int (nI ((a / 2) % 22))), (4, .int 1), (0, .ref (ad 0)), (1, .ref (ad 38)), (2, .int 2), (3, .int (nI a))]) cx.1 cx.2.1 dL_isMoney_51 hl (by decide) rfl (fun ls hl => ?_)
      refine lv_aload_n cx.1 cx.2.1 dL_isMoney_53 rfl (lv_at hl 4 rfl) ?_
      refine lv_iload cx.1 cx.2.1 dL_isMoney_54 (lv_at hl 2 rfl) ?_
      refine lv_if_eq (tgt := 63) cx.1 cx.2.1 dL_isMoney_56 (by decide) (fun c16 => ?_) (fun c16 => ?_)
      · exact absurd c16 (by decide)
      refine lv_iconst (v := 4) cx.1 cx.2.1 dL_isMoney_59 (by decide) ?_
      refine lv_goto (tgt := 64) cx.1 cx.2.1 dL_isMoney_60 (by decide) ?_
      refine lv_iload cx.1 cx.2.1 dL_isMoney_64 (lv_at hl 1 rfl) ?_
      refine lv_bipush (v := 21) cx.1 cx.2.1 dL_isMoney_66 (by decide) ?_
      refine lv_icmp_ne (tgt := 86) cx.1 cx.2.1 dL_isMoney_68 (by decide) (fun c17 => ?_) (fun c17 => ?_)
      rotate_left
      · exact absurd c17 c14
      refine lv_iload cx.1 cx.2.1 dL_isMoney_86 (lv_at hl 1 rfl) ?_
      refine zIstN cx (qw_W cyI ad) hI hK hP hS 38 0 rfl rfl (4) (by omega) (by decide) rfl (zUp S 22 (upd (S 22) 4 (nI ((a / 2) % 22)))) rfl dL_isMoney_88 (fun H locs hP hS => ?_)
      refine lv_aload_n cx.1 cx.2.1 dL_isMoney_89 rfl (lv_at hl 3 rfl) ?_
      refine lv_iconst (v := 2) cx.1 cx.2.1 dL_isMoney_90 (by decide) ?_
      refine lv_iload cx.1 cx.2.1 dL_isMoney_91 (lv_at hl 1 rfl) ?_
      refine lv_iload cx.1 cx.2.1 dL_isMoney_93 (lv_at hl 2 rfl) ?_
      refine lv_if_eq (tgt := 102) cx.1 cx.2.1 dL_isMoney_95 (by decide) (fun c18 => ?_) (fun c18 => ?_)
      · exact absurd c18 (by decide)
      refine lv_iconst (v := 1) cx.1 cx.2.1 dL_isMoney_98 (by decide) ?_
      refine lv_goto (tgt := 103) cx.1 cx.2.1 dL_isMoney_99 (by decide) ?_
      refine bCallW (As := [.ref (ad 0), .int 2, .int (nI ((a / 2) % 22)), .int 1]) (rest := []) 4 cx (c_L_does2_1 l dC dI cyI cyB ad hI hlf (zUp S 22 (upd (S 22) 4 (nI ((a / 2) % 22)))) (nI ((a / 2) % 22))) gL_isMoney_L_does rfl ⟨rfl, rfl⟩ (by decide +kernel) ⟨Nat.le_of_ble_eq_true rfl, Nat.le_of_ble_eq_true rfl⟩ (xL_X ad 39) hXs hK hP hS rfl hl.1 rfl (Nat.le_of_ble_eq_true rfl) dL_isMoney_103 ⟨Nat.le_of_ble_eq_true rfl, Nat.le_of_ble_eq_true rfl⟩ (fun rD3 TD3 H locs hp hP hS => ?_)
      obtain ⟨hv, hMF⟩ := m2_1 hB (by omega) rfl hp
      refine lv_iload cx.1 cx.2.1 dL_isMoney_106 (lv_at hl 0 rfl) ?_
      refine lv_icmp_ne (tgt := 115) cx.1 cx.2.1 dL_isMoney_108 (by decide) (fun c19 => ?_) (fun c19 => ?_)
      · exact absurd hv c19
      · refine lv_iconst (v := 1) cx.1 cx.2.1 dL_isMoney_111 (by decide) ?_
        refine lv_goto (tgt := 116) cx.1 cx.2.1 dL_isMoney_112 (by decide) ?_
        exact bRet (v := 1) cx hrt hlk (by first | rfl | decide) hS hP ⟨rfl, hMF⟩ (Nat.le_of_ble_eq_true rfl) (Nat.le_of_ble_eq_true rfl) dL_isMoney_116
    · have nc14 : (a / 2) % 22 = 21 := (nI_eq (a := (a / 2) % 22) (b := 21) (by first | decide | omega) (by first | decide | omega)).mp c14
      refine lv_ldc (own := RL) (v := (-2000000)) cx.1 cx.2.1 cx.2.2.2.1 (cx.2.2.2.2 (Cond.constant RL 36 (-2000000)) (by decide +kernel)) dL_isMoney_34 ?_
      refine lv_goto (tgt := 51) cx.1 cx.2.1 dL_isMoney_36 (by decide) ?_
      refine lv_istore (lv' := [(6, .int (-2000000)), (5, .int (nI ((a / 2) % 22))), (4, .int 1), (0, .ref (ad 0)), (1, .ref (ad 38)), (2, .int 2), (3, .int (nI a))]) cx.1 cx.2.1 dL_isMoney_51 hl (by decide) rfl (fun ls hl => ?_)
      refine lv_aload_n cx.1 cx.2.1 dL_isMoney_53 rfl (lv_at hl 4 rfl) ?_
      refine lv_iload cx.1 cx.2.1 dL_isMoney_54 (lv_at hl 2 rfl) ?_
      refine lv_if_eq (tgt := 63) cx.1 cx.2.1 dL_isMoney_56 (by decide) (fun c20 => ?_) (fun c20 => ?_)
      · exact absurd c20 (by decide)
      refine lv_iconst (v := 4) cx.1 cx.2.1 dL_isMoney_59 (by decide) ?_
      refine lv_goto (tgt := 64) cx.1 cx.2.1 dL_isMoney_60 (by decide) ?_
      refine lv_iload cx.1 cx.2.1 dL_isMoney_64 (lv_at hl 1 rfl) ?_
      refine lv_bipush (v := 21) cx.1 cx.2.1 dL_isMoney_66 (by decide) ?_
      refine lv_icmp_ne (tgt := 86) cx.1 cx.2.1 dL_isMoney_68 (by decide) (fun c21 => ?_) (fun c21 => ?_)
      · exact absurd c14 c21
      refine lv_aload_n cx.1 cx.2.1 dL_isMoney_71 rfl (lv_at hl 4 rfl) ?_
      refine lv_iload cx.1 cx.2.1 dL_isMoney_72 (lv_at hl 2 rfl) ?_
      refine lv_if_eq (tgt := 81) cx.1 cx.2.1 dL_isMoney_74 (by decide) (fun c22 => ?_) (fun c22 => ?_)
      · exact absurd c22 (by decide)
      refine lv_iconst (v := 4) cx.1 cx.2.1 dL_isMoney_77 (by decide) ?_
      refine lv_goto (tgt := 82) cx.1 cx.2.1 dL_isMoney_78 (by decide) ?_
      refine zIldN cx hK hP 38 0 rfl rfl (4) (by omega) (by decide) rfl dL_isMoney_82 ?_
      refine lv_goto (tgt := 88) cx.1 cx.2.1 dL_isMoney_83 (by decide) ?_
      refine zIstN cx (qw_W cyI ad) hI hK hP hS 38 0 rfl rfl (4) (by omega) (by decide) rfl (zUp S 22 (upd (S 22) 4 (S 22 4))) rfl dL_isMoney_88 (fun H locs hP hS => ?_)
      refine lv_aload_n cx.1 cx.2.1 dL_isMoney_89 rfl (lv_at hl 3 rfl) ?_
      refine lv_iconst (v := 2) cx.1 cx.2.1 dL_isMoney_90 (by decide) ?_
      refine lv_iload cx.1 cx.2.1 dL_isMoney_91 (lv_at hl 1 rfl) ?_
      refine lv_iload cx.1 cx.2.1 dL_isMoney_93 (lv_at hl 2 rfl) ?_
      refine lv_if_eq (tgt := 102) cx.1 cx.2.1 dL_isMoney_95 (by decide) (fun c23 => ?_) (fun c23 => ?_)
      · exact absurd c23 (by decide)
      refine lv_iconst (v := 1) cx.1 cx.2.1 dL_isMoney_98 (by decide) ?_
      refine lv_goto (tgt := 103) cx.1 cx.2.1 dL_isMoney_99 (by decide) ?_
      refine bCallW (As := [.ref (ad 0), .int 2, .int (nI ((a / 2) % 22)), .int 1]) (rest := []) 4 cx (c_L_does2_1 l dC dI cyI cyB ad hI hlf (zUp S 22 (upd (S 22) 4 (S 22 4))) (nI ((a / 2) % 22))) gL_isMoney_L_does rfl ⟨rfl, rfl⟩ (by decide +kernel) ⟨Nat.le_of_ble_eq_true rfl, Nat.le_of_ble_eq_true rfl⟩ (xL_X ad 39) hXs hK hP hS rfl hl.1 rfl (Nat.le_of_ble_eq_true rfl) dL_isMoney_103 ⟨Nat.le_of_ble_eq_true rfl, Nat.le_of_ble_eq_true rfl⟩ (fun rD4 TD4 H locs hp hP hS => ?_)
      obtain ⟨hv, hMF⟩ := m2_bad hB (by omega) rfl hp
      refine lv_iload cx.1 cx.2.1 dL_isMoney_106 (lv_at hl 0 rfl) ?_
      refine lv_icmp_ne (tgt := 115) cx.1 cx.2.1 dL_isMoney_108 (by decide) (fun c24 => ?_) (fun c24 => ?_)
      · exact absurd hv c24
      · refine lv_iconst (v := 1) cx.1 cx.2.1 dL_isMoney_111 (by decide) ?_
        refine lv_goto (tgt := 116) cx.1 cx.2.1 dL_isMoney_112 (by decide) ?_
        exact bRet (v := 1) cx hrt hlk (by first | rfl | decide) hS hP ⟨rfl, hMF⟩ (Nat.le_of_ble_eq_true rfl) (Nat.le_of_ble_eq_true rfl) dL_isMoney_116
set_option maxHeartbeats 4000000 in
set_option maxRecDepth 100000 in
theorem c_L_isMoney3 (l : Launch) (dC : Nat → ClassId) (dI : Nat → Nat → Nat) (cyI cyB : ClassId) (ad : Nat → Nat) (hI : zI ad 39) (hlf : l.stackTraces = false) (S : zS) (d : Nat) (a : Nat) (ha : a < 7000) (hB : LBd S) (hdb : d ≤ 5000) (hd : S 22 1 = nI d) : bMet l (dC, dI) (lTys cyI cyB) ad 39 xL (qw cyI ad) yL_isMoney wsB_isMoney ({ frames := 9, cells := 4, slots := 24, locals := 203 } : Room) [.ref (ad 0), .ref (ad 38), .int 3, .int (nI a)] S 4 24 (fun v T => v = 1 ∧ LBd T) := by
  refine bStart (by decide) rfl (Nat.le_of_ble_eq_true rfl) ?_
  intro p e s m args below meth c ls cx hrt hlk hP hK hXs hl
  have hl : lv_has ls 7 [(0, .ref (ad 0)), (1, .ref (ad 38)), (2, .int 3), (3, .int (nI a))] := hl
  have hS : va_S (zA ad 39 s.heap.size) s.heap s.heap [] := va_S.rf
  refine lv_iload_n cx.1 cx.2.1 dL_isMoney_0 rfl (lv_at hl 2 rfl) ?_
  refine lv_iconst (v := 2) cx.1 cx.2.1 dL_isMoney_1 (by decide) ?_
  refine lv_icmp_ne (tgt := 117) cx.1 cx.2.1 dL_isMoney_2 (by decide) (fun c1 => ?_) (fun c1 => ?_)
  rotate_left
  · exact absurd c1 (by decide)
  refine lv_iload_n cx.1 cx.2.1 dL_isMoney_117 rfl (lv_at hl 2 rfl) ?_
  refine lv_iconst (v := 3) cx.1 cx.2.1 dL_isMoney_118 (by decide) ?_
  refine lv_icmp_ne (tgt := 212) cx.1 cx.2.1 dL_isMoney_119 (by decide) (fun c2 => ?_) (fun c2 => ?_)
  · exact absurd c2 (by decide)
  refine lv_iload_n cx.1 cx.2.1 dL_isMoney_122 rfl (lv_at hl 3 rfl) ?_
  refine lv_iconst (v := 1) cx.1 cx.2.1 dL_isMoney_123 (by decide) ?_
  refine lv_icmp_lt (tgt := 134) cx.1 cx.2.1 dL_isMoney_124 (by decide) (fun c3 => ?_) (fun c3 => ?_)
  · have nc3 : a < 1 := (nI_ltI (a := a) (b := 1) (by first | decide | omega) (by first | decide | omega)).mp c3
    refine lv_ldc (own := RL) (v := (-2000000)) cx.1 cx.2.1 cx.2.2.2.1 (cx.2.2.2.2 (Cond.constant RL 36 (-2000000)) (by decide +kernel)) dL_isMoney_134 ?_
    refine lv_goto (tgt := 160) cx.1 cx.2.1 dL_isMoney_136 (by decide) ?_
    refine lv_istore (lv' := [(4, .int (-2000000)), (0, .ref (ad 0)), (1, .ref (ad 38)), (2, .int 3), (3, .int (nI a))]) cx.1 cx.2.1 dL_isMoney_160 hl (by decide) rfl (fun ls hl => ?_)
    refine lv_aload_n cx.1 cx.2.1 dL_isMoney_162 rfl (lv_at hl 2 rfl) ?_
    refine lv_iconst (v := 0) cx.1 cx.2.1 dL_isMoney_163 (by decide) ?_
    refine lv_dup2_11 cx.1 cx.2.1 dL_isMoney_164 rfl rfl ?_
    refine zIldN cx hK hP 38 0 rfl rfl (0) (by omega) (by decide) rfl dL_isMoney_165 ?_
    refine lv_iload cx.1 cx.2.1 dL_isMoney_166 (lv_at hl 0 rfl) ?_
    refine lv_if_le (tgt := 175) cx.1 cx.2.1 dL_isMoney_168 (by decide) (fun c4 => ?_) (fun c4 => ?_)
    rotate_left
    · exact absurd c4 (by decide)
    refine lv_iconst (v := 0) cx.1 cx.2.1 dL_isMoney_175 (by decide) ?_
    refine lv_iadd cx.1 cx.2.1 dL_isMoney_176 ?_
    refine zIstN cx (qw_W cyI ad) hI hK hP hS 38 0 rfl rfl (0) (by omega) (by decide) rfl (zUp S 22 (upd (S 22) 0 ((S 22 0) + 0))) rfl dL_isMoney_177 (fun H locs hP hS => ?_)
    refine lv_aload_n cx.1 cx.2.1 dL_isMoney_178 rfl (lv_at hl 2 rfl) ?_
    refine lv_iconst (v := 1) cx.1 cx.2.1 dL_isMoney_179 (by decide) ?_
    refine lv_dup2_11 cx.1 cx.2.1 dL_isMoney_180 rfl rfl ?_
    refine zIldN cx hK hP 38 0 rfl rfl (1) (by omega) (by decide) rfl dL_isMoney_181 ?_
    refine lv_iload cx.1 cx.2.1 dL_isMoney_182 (lv_at hl 0 rfl) ?_
    refine lv_if_le (tgt := 191) cx.1 cx.2.1 dL_isMoney_184 (by decide) (fun c5 => ?_) (fun c5 => ?_)
    rotate_left
    · exact absurd c5 (by decide)
    refine lv_iconst (v := 0) cx.1 cx.2.1 dL_isMoney_191 (by decide) ?_
    refine lv_iadd cx.1 cx.2.1 dL_isMoney_192 ?_
    refine zIstN cx (qw_W cyI ad) hI hK hP hS 38 0 rfl rfl (1) (by omega) (by decide) rfl (zUp (zUp S 22 (upd (S 22) 0 ((S 22 0) + 0))) 22 (upd (upd (S 22) 0 ((S 22 0) + 0)) 1 (((upd (S 22) 0 ((S 22 0) + 0)) 1) + 0))) rfl dL_isMoney_193 (fun H locs hP hS => ?_)
    refine lv_aload_n cx.1 cx.2.1 dL_isMoney_194 rfl (lv_at hl 1 rfl) ?_
    refine lv_iconst (v := 3) cx.1 cx.2.1 dL_isMoney_195 (by decide) ?_
    refine lv_iload_n cx.1 cx.2.1 dL_isMoney_196 rfl (lv_at hl 4 rfl) ?_
    refine lv_iconst (v := 0) cx.1 cx.2.1 dL_isMoney_197 (by decide) ?_
    refine bCallW (As := [.ref (ad 0), .int 3, .int (nI a), .int 0]) (rest := []) 4 cx (c_L_does3 l dC dI cyI cyB ad hI hlf (zUp (zUp S 22 (upd (S 22) 0 ((S 22 0) + 0))) 22 (upd (upd (S 22) 0 ((S 22 0) + 0)) 1 (((upd (S 22) 0 ((S 22 0) + 0)) 1) + 0))) (nI a) 0) gL_isMoney_L_does rfl ⟨rfl, rfl⟩ (by decide +kernel) ⟨Nat.le_of_ble_eq_true rfl, Nat.le_of_ble_eq_true rfl⟩ (xL_X ad 39) hXs hK hP hS rfl hl.1 rfl (Nat.le_of_ble_eq_true rfl) dL_isMoney_198 ⟨Nat.le_of_ble_eq_true rfl, Nat.le_of_ble_eq_true rfl⟩ (fun rD TD H locs hp hP hS => ?_)
    obtain ⟨hv, hMF⟩ := m3_bad hB ha (by omega) (zUp_zUp _ _ _ _) hp
    refine lv_iload cx.1 cx.2.1 dL_isMoney_201 (lv_at hl 0 rfl) ?_
    refine lv_icmp_ne (tgt := 210) cx.1 cx.2.1 dL_isMoney_203 (by decide) (fun c6 => ?_) (fun c6 => ?_)
    · exact absurd hv c6
    · refine lv_iconst (v := 1) cx.1 cx.2.1 dL_isMoney_206 (by decide) ?_
      refine lv_goto (tgt := 211) cx.1 cx.2.1 dL_isMoney_207 (by decide) ?_
      exact bRet (v := 1) cx hrt hlk (by first | rfl | decide) hS hP ⟨rfl, hMF⟩ (Nat.le_of_ble_eq_true rfl) (Nat.le_of_ble_eq_true rfl) dL_isMoney_211
  · have nc3 : ¬ a < 1 := fun z => c3 ((nI_ltI (a := a) (b := 1) (by first | decide | omega) (by first | decide | omega)).mpr z)
    refine lv_iload_n cx.1 cx.2.1 dL_isMoney_127 rfl (lv_at hl 3 rfl) ?_
    refine lv_sipush (v := 1000) cx.1 cx.2.1 dL_isMoney_128 (by decide) ?_
    refine lv_icmp_le (tgt := 139) cx.1 cx.2.1 dL_isMoney_131 (by decide) (fun c7 => ?_) (fun c7 => ?_)
    · have nc7 : a ≤ 1000 := (nI_leI (a := a) (b := 1000) (by first | decide | omega) (by first | decide | omega)).mp c7
      refine lv_aload_n cx.1 cx.2.1 dL_isMoney_139 rfl (lv_at hl 1 rfl) ?_
      refine lv_iconst (v := 1) cx.1 cx.2.1 dL_isMoney_140 (by decide) ?_
      refine zIldN cx hK hP 38 0 rfl rfl (1) (by omega) (by decide) rfl dL_isMoney_141 ?_
      rw [hd]
      refine lv_iload_n cx.1 cx.2.1 dL_isMoney_142 rfl (lv_at hl 3 rfl) ?_
      refine zAddN (a := d) (b := a) cx.1 cx.2.1 dL_isMoney_143 ?_
      refine lv_sipush (v := 5000) cx.1 cx.2.1 dL_isMoney_144 (by decide) ?_
      refine lv_icmp_le (tgt := 155) cx.1 cx.2.1 dL_isMoney_147 (by decide) (fun c8 => ?_) (fun c8 => ?_)
      · have nc8 : d + a ≤ 5000 := (nI_leI (a := d + a) (b := 5000) (by first | decide | omega) (by first | decide | omega)).mp c8
        refine lv_aload_n cx.1 cx.2.1 dL_isMoney_155 rfl (lv_at hl 1 rfl) ?_
        refine lv_iconst (v := 1) cx.1 cx.2.1 dL_isMoney_156 (by decide) ?_
        refine zIldN cx hK hP 38 0 rfl rfl (1) (by omega) (by decide) rfl dL_isMoney_157 ?_
        rw [hd]
        refine lv_iload_n cx.1 cx.2.1 dL_isMoney_158 rfl (lv_at hl 3 rfl) ?_
        refine zAddN (a := d) (b := a) cx.1 cx.2.1 dL_isMoney_159 ?_
        refine lv_istore (lv' := [(4, .int (nI (d + a))), (0, .ref (ad 0)), (1, .ref (ad 38)), (2, .int 3), (3, .int (nI a))]) cx.1 cx.2.1 dL_isMoney_160 hl (by decide) rfl (fun ls hl => ?_)
        refine lv_aload_n cx.1 cx.2.1 dL_isMoney_162 rfl (lv_at hl 2 rfl) ?_
        refine lv_iconst (v := 0) cx.1 cx.2.1 dL_isMoney_163 (by decide) ?_
        refine lv_dup2_11 cx.1 cx.2.1 dL_isMoney_164 rfl rfl ?_
        refine zIldN cx hK hP 38 0 rfl rfl (0) (by omega) (by decide) rfl dL_isMoney_165 ?_
        refine lv_iload cx.1 cx.2.1 dL_isMoney_166 (lv_at hl 0 rfl) ?_
        refine lv_if_le (tgt := 175) cx.1 cx.2.1 dL_isMoney_168 (by decide) (fun c9 => ?_) (fun c9 => ?_)
        · have nc9 : d + a ≤ 0 := (nI_leI (a := d + a) (b := 0) (by first | decide | omega) (by first | decide | omega)).mp c9
          exact absurd nc9 (by omega)
        · have nc9 : ¬ d + a ≤ 0 := fun z => c9 ((nI_leI (a := d + a) (b := 0) (by first | decide | omega) (by first | decide | omega)).mpr z)
          refine lv_iload_n cx.1 cx.2.1 dL_isMoney_171 rfl (lv_at hl 4 rfl) ?_
          refine lv_goto (tgt := 176) cx.1 cx.2.1 dL_isMoney_172 (by decide) ?_
          refine lv_iadd cx.1 cx.2.1 dL_isMoney_176 ?_
          refine zIstN cx (qw_W cyI ad) hI hK hP hS 38 0 rfl rfl (0) (by omega) (by decide) rfl (zUp S 22 (upd (S 22) 0 ((S 22 0) + (nI a)))) rfl dL_isMoney_177 (fun H locs hP hS => ?_)
          refine lv_aload_n cx.1 cx.2.1 dL_isMoney_178 rfl (lv_at hl 2 rfl) ?_
          refine lv_iconst (v := 1) cx.1 cx.2.1 dL_isMoney_179 (by decide) ?_
          refine lv_dup2_11 cx.1 cx.2.1 dL_isMoney_180 rfl rfl ?_
          refine zIldN cx hK hP 38 0 rfl rfl (1) (by omega) (by decide) rfl dL_isMoney_181 ?_
          refine lv_iload cx.1 cx.2.1 dL_isMoney_182 (lv_at hl 0 rfl) ?_
          refine lv_if_le (tgt := 191) cx.1 cx.2.1 dL_isMoney_184 (by decide) (fun c10 => ?_) (fun c10 => ?_)
          · exact absurd c10 c9
          refine lv_iload_n cx.1 cx.2.1 dL_isMoney_187 rfl (lv_at hl 4 rfl) ?_
          refine lv_goto (tgt := 192) cx.1 cx.2.1 dL_isMoney_188 (by decide) ?_
          refine lv_iadd cx.1 cx.2.1 dL_isMoney_192 ?_
          refine zIstN cx (qw_W cyI ad) hI hK hP hS 38 0 rfl rfl (1) (by omega) (by decide) rfl (zUp (zUp S 22 (upd (S 22) 0 ((S 22 0) + (nI a)))) 22 (upd (upd (S 22) 0 ((S 22 0) + (nI a))) 1 (((upd (S 22) 0 ((S 22 0) + (nI a))) 1) + (nI a)))) rfl dL_isMoney_193 (fun H locs hP hS => ?_)
          refine lv_aload_n cx.1 cx.2.1 dL_isMoney_194 rfl (lv_at hl 1 rfl) ?_
          refine lv_iconst (v := 3) cx.1 cx.2.1 dL_isMoney_195 (by decide) ?_
          refine lv_iload_n cx.1 cx.2.1 dL_isMoney_196 rfl (lv_at hl 4 rfl) ?_
          refine lv_iconst (v := 0) cx.1 cx.2.1 dL_isMoney_197 (by decide) ?_
          refine bCallW (As := [.ref (ad 0), .int 3, .int (nI a), .int 0]) (rest := []) 4 cx (c_L_does3 l dC dI cyI cyB ad hI hlf (zUp (zUp S 22 (upd (S 22) 0 ((S 22 0) + (nI a)))) 22 (upd (upd (S 22) 0 ((S 22 0) + (nI a))) 1 (((upd (S 22) 0 ((S 22 0) + (nI a))) 1) + (nI a)))) (nI a) 0) gL_isMoney_L_does rfl ⟨rfl, rfl⟩ (by decide +kernel) ⟨Nat.le_of_ble_eq_true rfl, Nat.le_of_ble_eq_true rfl⟩ (xL_X ad 39) hXs hK hP hS rfl hl.1 rfl (Nat.le_of_ble_eq_true rfl) dL_isMoney_198 ⟨Nat.le_of_ble_eq_true rfl, Nat.le_of_ble_eq_true rfl⟩ (fun rD2 TD2 H locs hp hP hS => ?_)
          obtain ⟨hv, hMF⟩ := m3_ok hB hd (by omega) (by omega) (by omega) (zUp_zUp _ _ _ _) hp
          refine lv_iload cx.1 cx.2.1 dL_isMoney_201 (lv_at hl 0 rfl) ?_
          refine lv_icmp_ne (tgt := 210) cx.1 cx.2.1 dL_isMoney_203 (by decide) (fun c11 => ?_) (fun c11 => ?_)
          · exact absurd hv c11
          · refine lv_iconst (v := 1) cx.1 cx.2.1 dL_isMoney_206 (by decide) ?_
            refine lv_goto (tgt := 211) cx.1 cx.2.1 dL_isMoney_207 (by decide) ?_
            exact bRet (v := 1) cx hrt hlk (by first | rfl | decide) hS hP ⟨rfl, hMF⟩ (Nat.le_of_ble_eq_true rfl) (Nat.le_of_ble_eq_true rfl) dL_isMoney_211
      · have nc8 : ¬ d + a ≤ 5000 := fun z => c8 ((nI_leI (a := d + a) (b := 5000) (by first | decide | omega) (by first | decide | omega)).mpr z)
        refine lv_ldc (own := RL) (v := (-1000000)) cx.1 cx.2.1 cx.2.2.2.1 (cx.2.2.2.2 (Cond.constant RL 39 (-1000000)) (by decide +kernel)) dL_isMoney_150 ?_
        refine lv_goto (tgt := 160) cx.1 cx.2.1 dL_isMoney_152 (by decide) ?_
        refine lv_istore (lv' := [(4, .int (-1000000)), (0, .ref (ad 0)), (1, .ref (ad 38)), (2, .int 3), (3, .int (nI a))]) cx.1 cx.2.1 dL_isMoney_160 hl (by decide) rfl (fun ls hl => ?_)
        refine lv_aload_n cx.1 cx.2.1 dL_isMoney_162 rfl (lv_at hl 2 rfl) ?_
        refine lv_iconst (v := 0) cx.1 cx.2.1 dL_isMoney_163 (by decide) ?_
        refine lv_dup2_11 cx.1 cx.2.1 dL_isMoney_164 rfl rfl ?_
        refine zIldN cx hK hP 38 0 rfl rfl (0) (by omega) (by decide) rfl dL_isMoney_165 ?_
        refine lv_iload cx.1 cx.2.1 dL_isMoney_166 (lv_at hl 0 rfl) ?_
        refine lv_if_le (tgt := 175) cx.1 cx.2.1 dL_isMoney_168 (by decide) (fun c12 => ?_) (fun c12 => ?_)
        rotate_left
        · exact absurd c12 (by decide)
        refine lv_iconst (v := 0) cx.1 cx.2.1 dL_isMoney_175 (by decide) ?_
        refine lv_iadd cx.1 cx.2.1 dL_isMoney_176 ?_
        refine zIstN cx (qw_W cyI ad) hI hK hP hS 38 0 rfl rfl (0) (by omega) (by decide) rfl (zUp S 22 (upd (S 22) 0 ((S 22 0) + 0))) rfl dL_isMoney_177 (fun H locs hP hS => ?_)
        refine lv_aload_n cx.1 cx.2.1 dL_isMoney_178 rfl (lv_at hl 2 rfl) ?_
        refine lv_iconst (v := 1) cx.1 cx.2.1 dL_isMoney_179 (by decide) ?_
        refine lv_dup2_11 cx.1 cx.2.1 dL_isMoney_180 rfl rfl ?_
        refine zIldN cx hK hP 38 0 rfl rfl (1) (by omega) (by decide) rfl dL_isMoney_181 ?_
        refine lv_iload cx.1 cx.2.1 dL_isMoney_182 (lv_at hl 0 rfl) ?_
        refine lv_if_le (tgt := 191) cx.1 cx.2.1 dL_isMoney_184 (by decide) (fun c13 => ?_) (fun c13 => ?_)
        rotate_left
        · exact absurd c13 (by decide)
        refine lv_iconst (v := 0) cx.1 cx.2.1 dL_isMoney_191 (by decide) ?_
        refine lv_iadd cx.1 cx.2.1 dL_isMoney_192 ?_
        refine zIstN cx (qw_W cyI ad) hI hK hP hS 38 0 rfl rfl (1) (by omega) (by decide) rfl (zUp (zUp S 22 (upd (S 22) 0 ((S 22 0) + 0))) 22 (upd (upd (S 22) 0 ((S 22 0) + 0)) 1 (((upd (S 22) 0 ((S 22 0) + 0)) 1) + 0))) rfl dL_isMoney_193 (fun H locs hP hS => ?_)
        refine lv_aload_n cx.1 cx.2.1 dL_isMoney_194 rfl (lv_at hl 1 rfl) ?_
        refine lv_iconst (v := 3) cx.1 cx.2.1 dL_isMoney_195 (by decide) ?_
        refine lv_iload_n cx.1 cx.2.1 dL_isMoney_196 rfl (lv_at hl 4 rfl) ?_
        refine lv_iconst (v := 0) cx.1 cx.2.1 dL_isMoney_197 (by decide) ?_
        refine bCallW (As := [.ref (ad 0), .int 3, .int (nI a), .int 0]) (rest := []) 4 cx (c_L_does3 l dC dI cyI cyB ad hI hlf (zUp (zUp S 22 (upd (S 22) 0 ((S 22 0) + 0))) 22 (upd (upd (S 22) 0 ((S 22 0) + 0)) 1 (((upd (S 22) 0 ((S 22 0) + 0)) 1) + 0))) (nI a) 0) gL_isMoney_L_does rfl ⟨rfl, rfl⟩ (by decide +kernel) ⟨Nat.le_of_ble_eq_true rfl, Nat.le_of_ble_eq_true rfl⟩ (xL_X ad 39) hXs hK hP hS rfl hl.1 rfl (Nat.le_of_ble_eq_true rfl) dL_isMoney_198 ⟨Nat.le_of_ble_eq_true rfl, Nat.le_of_ble_eq_true rfl⟩ (fun rD3 TD3 H locs hp hP hS => ?_)
        obtain ⟨hv, hMF⟩ := m3_more hB hdb hd (by omega) (by omega) (by omega) (zUp_zUp _ _ _ _) hp
        refine lv_iload cx.1 cx.2.1 dL_isMoney_201 (lv_at hl 0 rfl) ?_
        refine lv_icmp_ne (tgt := 210) cx.1 cx.2.1 dL_isMoney_203 (by decide) (fun c14 => ?_) (fun c14 => ?_)
        · exact absurd hv c14
        · refine lv_iconst (v := 1) cx.1 cx.2.1 dL_isMoney_206 (by decide) ?_
          refine lv_goto (tgt := 211) cx.1 cx.2.1 dL_isMoney_207 (by decide) ?_
          exact bRet (v := 1) cx hrt hlk (by first | rfl | decide) hS hP ⟨rfl, hMF⟩ (Nat.le_of_ble_eq_true rfl) (Nat.le_of_ble_eq_true rfl) dL_isMoney_211
    · have nc7 : ¬ a ≤ 1000 := fun z => c7 ((nI_leI (a := a) (b := 1000) (by first | decide | omega) (by first | decide | omega)).mpr z)
      refine lv_ldc (own := RL) (v := (-2000000)) cx.1 cx.2.1 cx.2.2.2.1 (cx.2.2.2.2 (Cond.constant RL 36 (-2000000)) (by decide +kernel)) dL_isMoney_134 ?_
      refine lv_goto (tgt := 160) cx.1 cx.2.1 dL_isMoney_136 (by decide) ?_
      refine lv_istore (lv' := [(4, .int (-2000000)), (0, .ref (ad 0)), (1, .ref (ad 38)), (2, .int 3), (3, .int (nI a))]) cx.1 cx.2.1 dL_isMoney_160 hl (by decide) rfl (fun ls hl => ?_)
      refine lv_aload_n cx.1 cx.2.1 dL_isMoney_162 rfl (lv_at hl 2 rfl) ?_
      refine lv_iconst (v := 0) cx.1 cx.2.1 dL_isMoney_163 (by decide) ?_
      refine lv_dup2_11 cx.1 cx.2.1 dL_isMoney_164 rfl rfl ?_
      refine zIldN cx hK hP 38 0 rfl rfl (0) (by omega) (by decide) rfl dL_isMoney_165 ?_
      refine lv_iload cx.1 cx.2.1 dL_isMoney_166 (lv_at hl 0 rfl) ?_
      refine lv_if_le (tgt := 175) cx.1 cx.2.1 dL_isMoney_168 (by decide) (fun c15 => ?_) (fun c15 => ?_)
      rotate_left
      · exact absurd c15 (by decide)
      refine lv_iconst (v := 0) cx.1 cx.2.1 dL_isMoney_175 (by decide) ?_
      refine lv_iadd cx.1 cx.2.1 dL_isMoney_176 ?_
      refine zIstN cx (qw_W cyI ad) hI hK hP hS 38 0 rfl rfl (0) (by omega) (by decide) rfl (zUp S 22 (upd (S 22) 0 ((S 22 0) + 0))) rfl dL_isMoney_177 (fun H locs hP hS => ?_)
      refine lv_aload_n cx.1 cx.2.1 dL_isMoney_178 rfl (lv_at hl 2 rfl) ?_
      refine lv_iconst (v := 1) cx.1 cx.2.1 dL_isMoney_179 (by decide) ?_
      refine lv_dup2_11 cx.1 cx.2.1 dL_isMoney_180 rfl rfl ?_
      refine zIldN cx hK hP 38 0 rfl rfl (1) (by omega) (by decide) rfl dL_isMoney_181 ?_
      refine lv_iload cx.1 cx.2.1 dL_isMoney_182 (lv_at hl 0 rfl) ?_
      refine lv_if_le (tgt := 191) cx.1 cx.2.1 dL_isMoney_184 (by decide) (fun c16 => ?_) (fun c16 => ?_)
      rotate_left
      · exact absurd c16 (by decide)
      refine lv_iconst (v := 0) cx.1 cx.2.1 dL_isMoney_191 (by decide) ?_
      refine lv_iadd cx.1 cx.2.1 dL_isMoney_192 ?_
      refine zIstN cx (qw_W cyI ad) hI hK hP hS 38 0 rfl rfl (1) (by omega) (by decide) rfl (zUp (zUp S 22 (upd (S 22) 0 ((S 22 0) + 0))) 22 (upd (upd (S 22) 0 ((S 22 0) + 0)) 1 (((upd (S 22) 0 ((S 22 0) + 0)) 1) + 0))) rfl dL_isMoney_193 (fun H locs hP hS => ?_)
      refine lv_aload_n cx.1 cx.2.1 dL_isMoney_194 rfl (lv_at hl 1 rfl) ?_
      refine lv_iconst (v := 3) cx.1 cx.2.1 dL_isMoney_195 (by decide) ?_
      refine lv_iload_n cx.1 cx.2.1 dL_isMoney_196 rfl (lv_at hl 4 rfl) ?_
      refine lv_iconst (v := 0) cx.1 cx.2.1 dL_isMoney_197 (by decide) ?_
      refine bCallW (As := [.ref (ad 0), .int 3, .int (nI a), .int 0]) (rest := []) 4 cx (c_L_does3 l dC dI cyI cyB ad hI hlf (zUp (zUp S 22 (upd (S 22) 0 ((S 22 0) + 0))) 22 (upd (upd (S 22) 0 ((S 22 0) + 0)) 1 (((upd (S 22) 0 ((S 22 0) + 0)) 1) + 0))) (nI a) 0) gL_isMoney_L_does rfl ⟨rfl, rfl⟩ (by decide +kernel) ⟨Nat.le_of_ble_eq_true rfl, Nat.le_of_ble_eq_true rfl⟩ (xL_X ad 39) hXs hK hP hS rfl hl.1 rfl (Nat.le_of_ble_eq_true rfl) dL_isMoney_198 ⟨Nat.le_of_ble_eq_true rfl, Nat.le_of_ble_eq_true rfl⟩ (fun rD4 TD4 H locs hp hP hS => ?_)
      obtain ⟨hv, hMF⟩ := m3_bad hB ha (by omega) (zUp_zUp _ _ _ _) hp
      refine lv_iload cx.1 cx.2.1 dL_isMoney_201 (lv_at hl 0 rfl) ?_
      refine lv_icmp_ne (tgt := 210) cx.1 cx.2.1 dL_isMoney_203 (by decide) (fun c17 => ?_) (fun c17 => ?_)
      · exact absurd hv c17
      · refine lv_iconst (v := 1) cx.1 cx.2.1 dL_isMoney_206 (by decide) ?_
        refine lv_goto (tgt := 211) cx.1 cx.2.1 dL_isMoney_207 (by decide) ?_
        exact bRet (v := 1) cx hrt hlk (by first | rfl | decide) hS hP ⟨rfl, hMF⟩ (Nat.le_of_ble_eq_true rfl) (Nat.le_of_ble_eq_true rfl) dL_isMoney_211
set_option maxHeartbeats 4000000 in
set_option maxRecDepth 100000 in
theorem c_L_isMoney4 (l : Launch) (dC : Nat → ClassId) (dI : Nat → Nat → Nat) (cyI cyB : ClassId) (ad : Nat → Nat) (hI : zI ad 39) (hlf : l.stackTraces = false) (S : zS) (d : Nat) (a : Nat) (ha : a < 7000) (hB : LBd S) (hdb : d ≤ 5000) (hd : S 22 1 = nI d) : bMet l (dC, dI) (lTys cyI cyB) ad 39 xL (qw cyI ad) yL_isMoney wsB_isMoney ({ frames := 9, cells := 4, slots := 24, locals := 203 } : Room) [.ref (ad 0), .ref (ad 38), .int 4, .int (nI a)] S 4 24 (fun v T => v = 1 ∧ LBd T) := by
  refine bStart (by decide) rfl (Nat.le_of_ble_eq_true rfl) ?_
  intro p e s m args below meth c ls cx hrt hlk hP hK hXs hl
  have hl : lv_has ls 7 [(0, .ref (ad 0)), (1, .ref (ad 38)), (2, .int 4), (3, .int (nI a))] := hl
  have hS : va_S (zA ad 39 s.heap.size) s.heap s.heap [] := va_S.rf
  refine lv_iload_n cx.1 cx.2.1 dL_isMoney_0 rfl (lv_at hl 2 rfl) ?_
  refine lv_iconst (v := 2) cx.1 cx.2.1 dL_isMoney_1 (by decide) ?_
  refine lv_icmp_ne (tgt := 117) cx.1 cx.2.1 dL_isMoney_2 (by decide) (fun c1 => ?_) (fun c1 => ?_)
  rotate_left
  · exact absurd c1 (by decide)
  refine lv_iload_n cx.1 cx.2.1 dL_isMoney_117 rfl (lv_at hl 2 rfl) ?_
  refine lv_iconst (v := 3) cx.1 cx.2.1 dL_isMoney_118 (by decide) ?_
  refine lv_icmp_ne (tgt := 212) cx.1 cx.2.1 dL_isMoney_119 (by decide) (fun c2 => ?_) (fun c2 => ?_)
  rotate_left
  · exact absurd c2 (by decide)
  refine lv_iload_n cx.1 cx.2.1 dL_isMoney_212 rfl (lv_at hl 3 rfl) ?_
  refine lv_if_le (tgt := 227) cx.1 cx.2.1 dL_isMoney_213 (by decide) (fun c3 => ?_) (fun c3 => ?_)
  · have nc3 : a ≤ 0 := (nI_leI (a := a) (b := 0) (by first | decide | omega) (by first | decide | omega)).mp c3
    refine lv_iconst (v := 0) cx.1 cx.2.1 dL_isMoney_227 (by decide) ?_
    refine lv_istore (lv' := [(4, .int 0), (0, .ref (ad 0)), (1, .ref (ad 38)), (2, .int 4), (3, .int (nI a))]) cx.1 cx.2.1 dL_isMoney_228 hl (by decide) rfl (fun ls hl => ?_)
    refine lv_iload cx.1 cx.2.1 dL_isMoney_230 (lv_at hl 0 rfl) ?_
    refine lv_if_eq (tgt := 253) cx.1 cx.2.1 dL_isMoney_232 (by decide) (fun c4 => ?_) (fun c4 => ?_)
    rotate_left
    · exact absurd c4 (by decide)
    refine lv_iconst (v := 0) cx.1 cx.2.1 dL_isMoney_253 (by decide) ?_
    refine lv_istore (lv' := [(5, .int 0), (4, .int 0), (0, .ref (ad 0)), (1, .ref (ad 38)), (2, .int 4), (3, .int (nI a))]) cx.1 cx.2.1 dL_isMoney_254 hl (by decide) rfl (fun ls hl => ?_)
    refine lv_aload_n cx.1 cx.2.1 dL_isMoney_256 rfl (lv_at hl 3 rfl) ?_
    refine lv_iconst (v := 0) cx.1 cx.2.1 dL_isMoney_257 (by decide) ?_
    refine lv_dup2_11 cx.1 cx.2.1 dL_isMoney_258 rfl rfl ?_
    refine zIldN cx hK hP 38 0 rfl rfl (0) (by omega) (by decide) rfl dL_isMoney_259 ?_
    refine lv_iload cx.1 cx.2.1 dL_isMoney_260 (lv_at hl 0 rfl) ?_
    refine lv_if_eq (tgt := 269) cx.1 cx.2.1 dL_isMoney_262 (by decide) (fun c5 => ?_) (fun c5 => ?_)
    rotate_left
    · exact absurd c5 (by decide)
    refine lv_iconst (v := 0) cx.1 cx.2.1 dL_isMoney_269 (by decide) ?_
    refine lv_isub cx.1 cx.2.1 dL_isMoney_270 ?_
    refine zIstN cx (qw_W cyI ad) hI hK hP hS 38 0 rfl rfl (0) (by omega) (by decide) rfl (zUp S 22 (upd (S 22) 0 ((S 22 0) - 0))) rfl dL_isMoney_271 (fun H locs hP hS => ?_)
    refine lv_aload_n cx.1 cx.2.1 dL_isMoney_272 rfl (lv_at hl 3 rfl) ?_
    refine lv_iconst (v := 1) cx.1 cx.2.1 dL_isMoney_273 (by decide) ?_
    refine lv_dup2_11 cx.1 cx.2.1 dL_isMoney_274 rfl rfl ?_
    refine zIldN cx hK hP 38 0 rfl rfl (1) (by omega) (by decide) rfl dL_isMoney_275 ?_
    refine lv_iload cx.1 cx.2.1 dL_isMoney_276 (lv_at hl 0 rfl) ?_
    refine lv_if_eq (tgt := 285) cx.1 cx.2.1 dL_isMoney_278 (by decide) (fun c6 => ?_) (fun c6 => ?_)
    rotate_left
    · exact absurd c6 (by decide)
    refine lv_iconst (v := 0) cx.1 cx.2.1 dL_isMoney_285 (by decide) ?_
    refine lv_isub cx.1 cx.2.1 dL_isMoney_286 ?_
    refine zIstN cx (qw_W cyI ad) hI hK hP hS 38 0 rfl rfl (1) (by omega) (by decide) rfl (zUp (zUp S 22 (upd (S 22) 0 ((S 22 0) - 0))) 22 (upd (upd (S 22) 0 ((S 22 0) - 0)) 1 (((upd (S 22) 0 ((S 22 0) - 0)) 1) - 0))) rfl dL_isMoney_287 (fun H locs hP hS => ?_)
    refine lv_aload_n cx.1 cx.2.1 dL_isMoney_288 rfl (lv_at hl 2 rfl) ?_
    refine lv_iconst (v := 4) cx.1 cx.2.1 dL_isMoney_289 (by decide) ?_
    refine lv_iload_n cx.1 cx.2.1 dL_isMoney_290 rfl (lv_at hl 5 rfl) ?_
    refine lv_iconst (v := 0) cx.1 cx.2.1 dL_isMoney_291 (by decide) ?_
    refine bCallW (As := [.ref (ad 0), .int 4, .int (nI a), .int 0]) (rest := []) 4 cx (c_L_does4 l dC dI cyI cyB ad hI hlf (zUp (zUp S 22 (upd (S 22) 0 ((S 22 0) - 0))) 22 (upd (upd (S 22) 0 ((S 22 0) - 0)) 1 (((upd (S 22) 0 ((S 22 0) - 0)) 1) - 0))) (nI a) 0) gL_isMoney_L_does rfl ⟨rfl, rfl⟩ (by decide +kernel) ⟨Nat.le_of_ble_eq_true rfl, Nat.le_of_ble_eq_true rfl⟩ (xL_X ad 39) hXs hK hP hS rfl hl.1 rfl (Nat.le_of_ble_eq_true rfl) dL_isMoney_292 ⟨Nat.le_of_ble_eq_true rfl, Nat.le_of_ble_eq_true rfl⟩ (fun rD TD H locs hp hP hS => ?_)
    obtain ⟨hv, hMF⟩ := m4_bad hB ha (by omega) (zUp_zUp _ _ _ _) hp
    refine lv_iload cx.1 cx.2.1 dL_isMoney_295 (lv_at hl 1 rfl) ?_
    refine lv_if_ne (tgt := 305) cx.1 cx.2.1 dL_isMoney_297 (by decide) (fun c7 => ?_) (fun c7 => ?_)
    · exact absurd c7 (by decide)
    refine lv_ldc (own := RL) (v := (-2000000)) cx.1 cx.2.1 cx.2.2.2.1 (cx.2.2.2.2 (Cond.constant RL 36 (-2000000)) (by decide +kernel)) dL_isMoney_300 ?_
    refine lv_goto (tgt := 318) cx.1 cx.2.1 dL_isMoney_302 (by decide) ?_
    refine lv_icmp_ne (tgt := 325) cx.1 cx.2.1 dL_isMoney_318 (by decide) (fun c8 => ?_) (fun c8 => ?_)
    · exact absurd hv c8
    · refine lv_iconst (v := 1) cx.1 cx.2.1 dL_isMoney_321 (by decide) ?_
      refine lv_goto (tgt := 326) cx.1 cx.2.1 dL_isMoney_322 (by decide) ?_
      exact bRet (v := 1) cx hrt hlk (by first | rfl | decide) hS hP ⟨rfl, hMF⟩ (Nat.le_of_ble_eq_true rfl) (Nat.le_of_ble_eq_true rfl) dL_isMoney_326
  · have nc3 : ¬ a ≤ 0 := fun z => c3 ((nI_leI (a := a) (b := 0) (by first | decide | omega) (by first | decide | omega)).mpr z)
    refine lv_iload_n cx.1 cx.2.1 dL_isMoney_216 rfl (lv_at hl 3 rfl) ?_
    refine lv_sipush (v := 5000) cx.1 cx.2.1 dL_isMoney_217 (by decide) ?_
    refine lv_icmp_gt (tgt := 227) cx.1 cx.2.1 dL_isMoney_220 (by decide) (fun c9 => ?_) (fun c9 => ?_)
    · have nc9 : 5000 < a := (nI_ltI (a := 5000) (b := a) (by first | decide | omega) (by first | decide | omega)).mp c9
      refine lv_iconst (v := 0) cx.1 cx.2.1 dL_isMoney_227 (by decide) ?_
      refine lv_istore (lv' := [(4, .int 0), (0, .ref (ad 0)), (1, .ref (ad 38)), (2, .int 4), (3, .int (nI a))]) cx.1 cx.2.1 dL_isMoney_228 hl (by decide) rfl (fun ls hl => ?_)
      refine lv_iload cx.1 cx.2.1 dL_isMoney_230 (lv_at hl 0 rfl) ?_
      refine lv_if_eq (tgt := 253) cx.1 cx.2.1 dL_isMoney_232 (by decide) (fun c10 => ?_) (fun c10 => ?_)
      rotate_left
      · exact absurd c10 (by decide)
      refine lv_iconst (v := 0) cx.1 cx.2.1 dL_isMoney_253 (by decide) ?_
      refine lv_istore (lv' := [(5, .int 0), (4, .int 0), (0, .ref (ad 0)), (1, .ref (ad 38)), (2, .int 4), (3, .int (nI a))]) cx.1 cx.2.1 dL_isMoney_254 hl (by decide) rfl (fun ls hl => ?_)
      refine lv_aload_n cx.1 cx.2.1 dL_isMoney_256 rfl (lv_at hl 3 rfl) ?_
      refine lv_iconst (v := 0) cx.1 cx.2.1 dL_isMoney_257 (by decide) ?_
      refine lv_dup2_11 cx.1 cx.2.1 dL_isMoney_258 rfl rfl ?_
      refine zIldN cx hK hP 38 0 rfl rfl (0) (by omega) (by decide) rfl dL_isMoney_259 ?_
      refine lv_iload cx.1 cx.2.1 dL_isMoney_260 (lv_at hl 0 rfl) ?_
      refine lv_if_eq (tgt := 269) cx.1 cx.2.1 dL_isMoney_262 (by decide) (fun c11 => ?_) (fun c11 => ?_)
      rotate_left
      · exact absurd c11 (by decide)
      refine lv_iconst (v := 0) cx.1 cx.2.1 dL_isMoney_269 (by decide) ?_
      refine lv_isub cx.1 cx.2.1 dL_isMoney_270 ?_
      refine zIstN cx (qw_W cyI ad) hI hK hP hS 38 0 rfl rfl (0) (by omega) (by decide) rfl (zUp S 22 (upd (S 22) 0 ((S 22 0) - 0))) rfl dL_isMoney_271 (fun H locs hP hS => ?_)
      refine lv_aload_n cx.1 cx.2.1 dL_isMoney_272 rfl (lv_at hl 3 rfl) ?_
      refine lv_iconst (v := 1) cx.1 cx.2.1 dL_isMoney_273 (by decide) ?_
      refine lv_dup2_11 cx.1 cx.2.1 dL_isMoney_274 rfl rfl ?_
      refine zIldN cx hK hP 38 0 rfl rfl (1) (by omega) (by decide) rfl dL_isMoney_275 ?_
      refine lv_iload cx.1 cx.2.1 dL_isMoney_276 (lv_at hl 0 rfl) ?_
      refine lv_if_eq (tgt := 285) cx.1 cx.2.1 dL_isMoney_278 (by decide) (fun c12 => ?_) (fun c12 => ?_)
      rotate_left
      · exact absurd c12 (by decide)
      refine lv_iconst (v := 0) cx.1 cx.2.1 dL_isMoney_285 (by decide) ?_
      refine lv_isub cx.1 cx.2.1 dL_isMoney_286 ?_
      refine zIstN cx (qw_W cyI ad) hI hK hP hS 38 0 rfl rfl (1) (by omega) (by decide) rfl (zUp (zUp S 22 (upd (S 22) 0 ((S 22 0) - 0))) 22 (upd (upd (S 22) 0 ((S 22 0) - 0)) 1 (((upd (S 22) 0 ((S 22 0) - 0)) 1) - 0))) rfl dL_isMoney_287 (fun H locs hP hS => ?_)
      refine lv_aload_n cx.1 cx.2.1 dL_isMoney_288 rfl (lv_at hl 2 rfl) ?_
      refine lv_iconst (v := 4) cx.1 cx.2.1 dL_isMoney_289 (by decide) ?_
      refine lv_iload_n cx.1 cx.2.1 dL_isMoney_290 rfl (lv_at hl 5 rfl) ?_
      refine lv_iconst (v := 0) cx.1 cx.2.1 dL_isMoney_291 (by decide) ?_
      refine bCallW (As := [.ref (ad 0), .int 4, .int (nI a), .int 0]) (rest := []) 4 cx (c_L_does4 l dC dI cyI cyB ad hI hlf (zUp (zUp S 22 (upd (S 22) 0 ((S 22 0) - 0))) 22 (upd (upd (S 22) 0 ((S 22 0) - 0)) 1 (((upd (S 22) 0 ((S 22 0) - 0)) 1) - 0))) (nI a) 0) gL_isMoney_L_does rfl ⟨rfl, rfl⟩ (by decide +kernel) ⟨Nat.le_of_ble_eq_true rfl, Nat.le_of_ble_eq_true rfl⟩ (xL_X ad 39) hXs hK hP hS rfl hl.1 rfl (Nat.le_of_ble_eq_true rfl) dL_isMoney_292 ⟨Nat.le_of_ble_eq_true rfl, Nat.le_of_ble_eq_true rfl⟩ (fun rD2 TD2 H locs hp hP hS => ?_)
      obtain ⟨hv, hMF⟩ := m4_bad hB ha (by omega) (zUp_zUp _ _ _ _) hp
      refine lv_iload cx.1 cx.2.1 dL_isMoney_295 (lv_at hl 1 rfl) ?_
      refine lv_if_ne (tgt := 305) cx.1 cx.2.1 dL_isMoney_297 (by decide) (fun c13 => ?_) (fun c13 => ?_)
      · exact absurd c13 (by decide)
      refine lv_ldc (own := RL) (v := (-2000000)) cx.1 cx.2.1 cx.2.2.2.1 (cx.2.2.2.2 (Cond.constant RL 36 (-2000000)) (by decide +kernel)) dL_isMoney_300 ?_
      refine lv_goto (tgt := 318) cx.1 cx.2.1 dL_isMoney_302 (by decide) ?_
      refine lv_icmp_ne (tgt := 325) cx.1 cx.2.1 dL_isMoney_318 (by decide) (fun c14 => ?_) (fun c14 => ?_)
      · exact absurd hv c14
      · refine lv_iconst (v := 1) cx.1 cx.2.1 dL_isMoney_321 (by decide) ?_
        refine lv_goto (tgt := 326) cx.1 cx.2.1 dL_isMoney_322 (by decide) ?_
        exact bRet (v := 1) cx hrt hlk (by first | rfl | decide) hS hP ⟨rfl, hMF⟩ (Nat.le_of_ble_eq_true rfl) (Nat.le_of_ble_eq_true rfl) dL_isMoney_326
    · have nc9 : ¬ 5000 < a := fun z => c9 ((nI_ltI (a := 5000) (b := a) (by first | decide | omega) (by first | decide | omega)).mpr z)
      refine lv_iconst (v := 1) cx.1 cx.2.1 dL_isMoney_223 (by decide) ?_
      refine lv_goto (tgt := 228) cx.1 cx.2.1 dL_isMoney_224 (by decide) ?_
      refine lv_istore (lv' := [(4, .int 1), (0, .ref (ad 0)), (1, .ref (ad 38)), (2, .int 4), (3, .int (nI a))]) cx.1 cx.2.1 dL_isMoney_228 hl (by decide) rfl (fun ls hl => ?_)
      refine lv_iload cx.1 cx.2.1 dL_isMoney_230 (lv_at hl 0 rfl) ?_
      refine lv_if_eq (tgt := 253) cx.1 cx.2.1 dL_isMoney_232 (by decide) (fun c15 => ?_) (fun c15 => ?_)
      · exact absurd c15 (by decide)
      refine lv_iload_n cx.1 cx.2.1 dL_isMoney_235 rfl (lv_at hl 4 rfl) ?_
      refine lv_aload_n cx.1 cx.2.1 dL_isMoney_236 rfl (lv_at hl 2 rfl) ?_
      refine lv_iconst (v := 1) cx.1 cx.2.1 dL_isMoney_237 (by decide) ?_
      refine zIldN cx hK hP 38 0 rfl rfl (1) (by omega) (by decide) rfl dL_isMoney_238 ?_
      rw [hd]
      refine lv_icmp_gt (tgt := 253) cx.1 cx.2.1 dL_isMoney_239 (by decide) (fun c16 => ?_) (fun c16 => ?_)
      · have nc16 : d < a := (nI_ltI (a := d) (b := a) (by first | decide | omega) (by first | decide | omega)).mp c16
        have hno : d < a ∨ S 22 0 < nI a := Or.inl nc16
        refine lv_iconst (v := 0) cx.1 cx.2.1 dL_isMoney_253 (by decide) ?_
        refine lv_istore (lv' := [(5, .int 0), (4, .int 1), (0, .ref (ad 0)), (1, .ref (ad 38)), (2, .int 4), (3, .int (nI a))]) cx.1 cx.2.1 dL_isMoney_254 hl (by decide) rfl (fun ls hl => ?_)
        refine lv_aload_n cx.1 cx.2.1 dL_isMoney_256 rfl (lv_at hl 3 rfl) ?_
        refine lv_iconst (v := 0) cx.1 cx.2.1 dL_isMoney_257 (by decide) ?_
        refine lv_dup2_11 cx.1 cx.2.1 dL_isMoney_258 rfl rfl ?_
        refine zIldN cx hK hP 38 0 rfl rfl (0) (by omega) (by decide) rfl dL_isMoney_259 ?_
        refine lv_iload cx.1 cx.2.1 dL_isMoney_260 (lv_at hl 0 rfl) ?_
        refine lv_if_eq (tgt := 269) cx.1 cx.2.1 dL_isMoney_262 (by decide) (fun c17 => ?_) (fun c17 => ?_)
        rotate_left
        · exact absurd c17 (by decide)
        refine lv_iconst (v := 0) cx.1 cx.2.1 dL_isMoney_269 (by decide) ?_
        refine lv_isub cx.1 cx.2.1 dL_isMoney_270 ?_
        refine zIstN cx (qw_W cyI ad) hI hK hP hS 38 0 rfl rfl (0) (by omega) (by decide) rfl (zUp S 22 (upd (S 22) 0 ((S 22 0) - 0))) rfl dL_isMoney_271 (fun H locs hP hS => ?_)
        refine lv_aload_n cx.1 cx.2.1 dL_isMoney_272 rfl (lv_at hl 3 rfl) ?_
        refine lv_iconst (v := 1) cx.1 cx.2.1 dL_isMoney_273 (by decide) ?_
        refine lv_dup2_11 cx.1 cx.2.1 dL_isMoney_274 rfl rfl ?_
        refine zIldN cx hK hP 38 0 rfl rfl (1) (by omega) (by decide) rfl dL_isMoney_275 ?_
        refine lv_iload cx.1 cx.2.1 dL_isMoney_276 (lv_at hl 0 rfl) ?_
        refine lv_if_eq (tgt := 285) cx.1 cx.2.1 dL_isMoney_278 (by decide) (fun c18 => ?_) (fun c18 => ?_)
        rotate_left
        · exact absurd c18 (by decide)
        refine lv_iconst (v := 0) cx.1 cx.2.1 dL_isMoney_285 (by decide) ?_
        refine lv_isub cx.1 cx.2.1 dL_isMoney_286 ?_
        refine zIstN cx (qw_W cyI ad) hI hK hP hS 38 0 rfl rfl (1) (by omega) (by decide) rfl (zUp (zUp S 22 (upd (S 22) 0 ((S 22 0) - 0))) 22 (upd (upd (S 22) 0 ((S 22 0) - 0)) 1 (((upd (S 22) 0 ((S 22 0) - 0)) 1) - 0))) rfl dL_isMoney_287 (fun H locs hP hS => ?_)
        refine lv_aload_n cx.1 cx.2.1 dL_isMoney_288 rfl (lv_at hl 2 rfl) ?_
        refine lv_iconst (v := 4) cx.1 cx.2.1 dL_isMoney_289 (by decide) ?_
        refine lv_iload_n cx.1 cx.2.1 dL_isMoney_290 rfl (lv_at hl 5 rfl) ?_
        refine lv_iconst (v := 0) cx.1 cx.2.1 dL_isMoney_291 (by decide) ?_
        refine bCallW (As := [.ref (ad 0), .int 4, .int (nI a), .int 0]) (rest := []) 4 cx (c_L_does4 l dC dI cyI cyB ad hI hlf (zUp (zUp S 22 (upd (S 22) 0 ((S 22 0) - 0))) 22 (upd (upd (S 22) 0 ((S 22 0) - 0)) 1 (((upd (S 22) 0 ((S 22 0) - 0)) 1) - 0))) (nI a) 0) gL_isMoney_L_does rfl ⟨rfl, rfl⟩ (by decide +kernel) ⟨Nat.le_of_ble_eq_true rfl, Nat.le_of_ble_eq_true rfl⟩ (xL_X ad 39) hXs hK hP hS rfl hl.1 rfl (Nat.le_of_ble_eq_true rfl) dL_isMoney_292 ⟨Nat.le_of_ble_eq_true rfl, Nat.le_of_ble_eq_true rfl⟩ (fun rD3 TD3 H locs hp hP hS => ?_)
        obtain ⟨hv, hMF⟩ := m4_no hB hdb hd (by omega) (by omega) hno (zUp_zUp _ _ _ _) hp
        refine lv_iload cx.1 cx.2.1 dL_isMoney_295 (lv_at hl 1 rfl) ?_
        refine lv_if_ne (tgt := 305) cx.1 cx.2.1 dL_isMoney_297 (by decide) (fun c19 => ?_) (fun c19 => ?_)
        rotate_left
        · exact absurd c19 (by decide)
        refine lv_iload cx.1 cx.2.1 dL_isMoney_305 (lv_at hl 0 rfl) ?_
        refine lv_if_eq (tgt := 316) cx.1 cx.2.1 dL_isMoney_307 (by decide) (fun c20 => ?_) (fun c20 => ?_)
        rotate_left
        · exact absurd c20 (by decide)
        refine lv_ldc (own := RL) (v := (-1000000)) cx.1 cx.2.1 cx.2.2.2.1 (cx.2.2.2.2 (Cond.constant RL 39 (-1000000)) (by decide +kernel)) dL_isMoney_316 ?_
        refine lv_icmp_ne (tgt := 325) cx.1 cx.2.1 dL_isMoney_318 (by decide) (fun c21 => ?_) (fun c21 => ?_)
        · exact absurd hv c21
        · refine lv_iconst (v := 1) cx.1 cx.2.1 dL_isMoney_321 (by decide) ?_
          refine lv_goto (tgt := 326) cx.1 cx.2.1 dL_isMoney_322 (by decide) ?_
          exact bRet (v := 1) cx hrt hlk (by first | rfl | decide) hS hP ⟨rfl, hMF⟩ (Nat.le_of_ble_eq_true rfl) (Nat.le_of_ble_eq_true rfl) dL_isMoney_326
      · have nc16 : ¬ d < a := fun z => c16 ((nI_ltI (a := d) (b := a) (by first | decide | omega) (by first | decide | omega)).mpr z)
        refine lv_iload_n cx.1 cx.2.1 dL_isMoney_242 rfl (lv_at hl 4 rfl) ?_
        refine lv_aload_n cx.1 cx.2.1 dL_isMoney_243 rfl (lv_at hl 2 rfl) ?_
        refine lv_iconst (v := 0) cx.1 cx.2.1 dL_isMoney_244 (by decide) ?_
        refine zIldN cx hK hP 38 0 rfl rfl (0) (by omega) (by decide) rfl dL_isMoney_245 ?_
        refine lv_icmp_gt (tgt := 253) cx.1 cx.2.1 dL_isMoney_246 (by decide) (fun c22 => ?_) (fun c22 => ?_)
        · have hno : d < a ∨ S 22 0 < nI a := Or.inr c22
          refine lv_iconst (v := 0) cx.1 cx.2.1 dL_isMoney_253 (by decide) ?_
          refine lv_istore (lv' := [(5, .int 0), (4, .int 1), (0, .ref (ad 0)), (1, .ref (ad 38)), (2, .int 4), (3, .int (nI a))]) cx.1 cx.2.1 dL_isMoney_254 hl (by decide) rfl (fun ls hl => ?_)
          refine lv_aload_n cx.1 cx.2.1 dL_isMoney_256 rfl (lv_at hl 3 rfl) ?_
          refine lv_iconst (v := 0) cx.1 cx.2.1 dL_isMoney_257 (by decide) ?_
          refine lv_dup2_11 cx.1 cx.2.1 dL_isMoney_258 rfl rfl ?_
          refine zIldN cx hK hP 38 0 rfl rfl (0) (by omega) (by decide) rfl dL_isMoney_259 ?_
          refine lv_iload cx.1 cx.2.1 dL_isMoney_260 (lv_at hl 0 rfl) ?_
          refine lv_if_eq (tgt := 269) cx.1 cx.2.1 dL_isMoney_262 (by decide) (fun c23 => ?_) (fun c23 => ?_)
          rotate_left
          · exact absurd c23 (by decide)
          refine lv_iconst (v := 0) cx.1 cx.2.1 dL_isMoney_269 (by decide) ?_
          refine lv_isub cx.1 cx.2.1 dL_isMoney_270 ?_
          refine zIstN cx (qw_W cyI ad) hI hK hP hS 38 0 rfl rfl (0) (by omega) (by decide) rfl (zUp S 22 (upd (S 22) 0 ((S 22 0) - 0))) rfl dL_isMoney_271 (fun H locs hP hS => ?_)
          refine lv_aload_n cx.1 cx.2.1 dL_isMoney_272 rfl (lv_at hl 3 rfl) ?_
          refine lv_iconst (v := 1) cx.1 cx.2.1 dL_isMoney_273 (by decide) ?_
          refine lv_dup2_11 cx.1 cx.2.1 dL_isMoney_274 rfl rfl ?_
          refine zIldN cx hK hP 38 0 rfl rfl (1) (by omega) (by decide) rfl dL_isMoney_275 ?_
          refine lv_iload cx.1 cx.2.1 dL_isMoney_276 (lv_at hl 0 rfl) ?_
          refine lv_if_eq (tgt := 285) cx.1 cx.2.1 dL_isMoney_278 (by decide) (fun c24 => ?_) (fun c24 => ?_)
          rotate_left
          · exact absurd c24 (by decide)
          refine lv_iconst (v := 0) cx.1 cx.2.1 dL_isMoney_285 (by decide) ?_
          refine lv_isub cx.1 cx.2.1 dL_isMoney_286 ?_
          refine zIstN cx (qw_W cyI ad) hI hK hP hS 38 0 rfl rfl (1) (by omega) (by decide) rfl (zUp (zUp S 22 (upd (S 22) 0 ((S 22 0) - 0))) 22 (upd (upd (S 22) 0 ((S 22 0) - 0)) 1 (((upd (S 22) 0 ((S 22 0) - 0)) 1) - 0))) rfl dL_isMoney_287 (fun H locs hP hS => ?_)
          refine lv_aload_n cx.1 cx.2.1 dL_isMoney_288 rfl (lv_at hl 2 rfl) ?_
          refine lv_iconst (v := 4) cx.1 cx.2.1 dL_isMoney_289 (by decide) ?_
          refine lv_iload_n cx.1 cx.2.1 dL_isMoney_290 rfl (lv_at hl 5 rfl) ?_
          refine lv_iconst (v := 0) cx.1 cx.2.1 dL_isMoney_291 (by decide) ?_
          refine bCallW (As := [.ref (ad 0), .int 4, .int (nI a), .int 0]) (rest := []) 4 cx (c_L_does4 l dC dI cyI cyB ad hI hlf (zUp (zUp S 22 (upd (S 22) 0 ((S 22 0) - 0))) 22 (upd (upd (S 22) 0 ((S 22 0) - 0)) 1 (((upd (S 22) 0 ((S 22 0) - 0)) 1) - 0))) (nI a) 0) gL_isMoney_L_does rfl ⟨rfl, rfl⟩ (by decide +kernel) ⟨Nat.le_of_ble_eq_true rfl, Nat.le_of_ble_eq_true rfl⟩ (xL_X ad 39) hXs hK hP hS rfl hl.1 rfl (Nat.le_of_ble_eq_true rfl) dL_isMoney_292 ⟨Nat.le_of_ble_eq_true rfl, Nat.le_of_ble_eq_true rfl⟩ (fun rD4 TD4 H locs hp hP hS => ?_)
          obtain ⟨hv, hMF⟩ := m4_no hB hdb hd (by omega) (by omega) hno (zUp_zUp _ _ _ _) hp
          refine lv_iload cx.1 cx.2.1 dL_isMoney_295 (lv_at hl 1 rfl) ?_
          refine lv_if_ne (tgt := 305) cx.1 cx.2.1 dL_isMoney_297 (by decide) (fun c25 => ?_) (fun c25 => ?_)
          rotate_left
          · exact absurd c25 (by decide)
          refine lv_iload cx.1 cx.2.1 dL_isMoney_305 (lv_at hl 0 rfl) ?_
          refine lv_if_eq (tgt := 316) cx.1 cx.2.1 dL_isMoney_307 (by decide) (fun c26 => ?_) (fun c26 => ?_)
          rotate_left
          · exact absurd c26 (by decide)
          refine lv_ldc (own := RL) (v := (-1000000)) cx.1 cx.2.1 cx.2.2.2.1 (cx.2.2.2.2 (Cond.constant RL 39 (-1000000)) (by decide +kernel)) dL_isMoney_316 ?_
          refine lv_icmp_ne (tgt := 325) cx.1 cx.2.1 dL_isMoney_318 (by decide) (fun c27 => ?_) (fun c27 => ?_)
          · exact absurd hv c27
          · refine lv_iconst (v := 1) cx.1 cx.2.1 dL_isMoney_321 (by decide) ?_
            refine lv_goto (tgt := 326) cx.1 cx.2.1 dL_isMoney_322 (by decide) ?_
            exact bRet (v := 1) cx hrt hlk (by first | rfl | decide) hS hP ⟨rfl, hMF⟩ (Nat.le_of_ble_eq_true rfl) (Nat.le_of_ble_eq_true rfl) dL_isMoney_326
        · have hok : nI a ≤ S 22 0 := Int32.not_lt.mp c22
          refine lv_iconst (v := 1) cx.1 cx.2.1 dL_isMoney_249 (by decide) ?_
          refine lv_goto (tgt := 254) cx.1 cx.2.1 dL_isMoney_250 (by decide) ?_
          refine lv_istore (lv' := [(5, .int 1), (4, .int 1), (0, .ref (ad 0)), (1, .ref (ad 38)), (2, .int 4), (3, .int (nI a))]) cx.1 cx.2.1 dL_isMoney_254 hl (by decide) rfl (fun ls hl => ?_)
          refine lv_aload_n cx.1 cx.2.1 dL_isMoney_256 rfl (lv_at hl 3 rfl) ?_
          refine lv_iconst (v := 0) cx.1 cx.2.1 dL_isMoney_257 (by decide) ?_
          refine lv_dup2_11 cx.1 cx.2.1 dL_isMoney_258 rfl rfl ?_
          refine zIldN cx hK hP 38 0 rfl rfl (0) (by omega) (by decide) rfl dL_isMoney_259 ?_
          refine lv_iload cx.1 cx.2.1 dL_isMoney_260 (lv_at hl 0 rfl) ?_
          refine lv_if_eq (tgt := 269) cx.1 cx.2.1 dL_isMoney_262 (by decide) (fun c28 => ?_) (fun c28 => ?_)
          · exact absurd c28 (by decide)
          refine lv_iload_n cx.1 cx.2.1 dL_isMoney_265 rfl (lv_at hl 5 rfl) ?_
          refine lv_goto (tgt := 270) cx.1 cx.2.1 dL_isMoney_266 (by decide) ?_
          refine lv_isub cx.1 cx.2.1 dL_isMoney_270 ?_
          refine zIstN cx (qw_W cyI ad) hI hK hP hS 38 0 rfl rfl (0) (by omega) (by decide) rfl (zUp S 22 (upd (S 22) 0 ((S 22 0) - (nI a)))) rfl dL_isMoney_271 (fun H locs hP hS => ?_)
          refine lv_aload_n cx.1 cx.2.1 dL_isMoney_272 rfl (lv_at hl 3 rfl) ?_
          refine lv_iconst (v := 1) cx.1 cx.2.1 dL_isMoney_273 (by decide) ?_
          refine lv_dup2_11 cx.1 cx.2.1 dL_isMoney_274 rfl rfl ?_
          refine zIldN cx hK hP 38 0 rfl rfl (1) (by omega) (by decide) rfl dL_isMoney_275 ?_
          refine lv_iload cx.1 cx.2.1 dL_isMoney_276 (lv_at hl 0 rfl) ?_
          refine lv_if_eq (tgt := 285) cx.1 cx.2.1 dL_isMoney_278 (by decide) (fun c29 => ?_) (fun c29 => ?_)
          · exact absurd c29 (by decide)
          refine lv_iload_n cx.1 cx.2.1 dL_isMoney_281 rfl (lv_at hl 5 rfl) ?_
          refine lv_goto (tgt := 286) cx.1 cx.2.1 dL_isMoney_282 (by decide) ?_
          refine lv_isub cx.1 cx.2.1 dL_isMoney_286 ?_
          refine zIstN cx (qw_W cyI ad) hI hK hP hS 38 0 rfl rfl (1) (by omega) (by decide) rfl (zUp (zUp S 22 (upd (S 22) 0 ((S 22 0) - (nI a)))) 22 (upd (upd (S 22) 0 ((S 22 0) - (nI a))) 1 (((upd (S 22) 0 ((S 22 0) - (nI a))) 1) - (nI a)))) rfl dL_isMoney_287 (fun H locs hP hS => ?_)
          refine lv_aload_n cx.1 cx.2.1 dL_isMoney_288 rfl (lv_at hl 2 rfl) ?_
          refine lv_iconst (v := 4) cx.1 cx.2.1 dL_isMoney_289 (by decide) ?_
          refine lv_iload_n cx.1 cx.2.1 dL_isMoney_290 rfl (lv_at hl 5 rfl) ?_
          refine lv_iconst (v := 0) cx.1 cx.2.1 dL_isMoney_291 (by decide) ?_
          refine bCallW (As := [.ref (ad 0), .int 4, .int (nI a), .int 0]) (rest := []) 4 cx (c_L_does4 l dC dI cyI cyB ad hI hlf (zUp (zUp S 22 (upd (S 22) 0 ((S 22 0) - (nI a)))) 22 (upd (upd (S 22) 0 ((S 22 0) - (nI a))) 1 (((upd (S 22) 0 ((S 22 0) - (nI a))) 1) - (nI a)))) (nI a) 0) gL_isMoney_L_does rfl ⟨rfl, rfl⟩ (by decide +kernel) ⟨Nat.le_of_ble_eq_true rfl, Nat.le_of_ble_eq_true rfl⟩ (xL_X ad 39) hXs hK hP hS rfl hl.1 rfl (Nat.le_of_ble_eq_true rfl) dL_isMoney_292 ⟨Nat.le_of_ble_eq_true rfl, Nat.le_of_ble_eq_true rfl⟩ (fun rD5 TD5 H locs hp hP hS => ?_)
          obtain ⟨hv, hMF⟩ := m4_ok hB hdb hd (by omega) (by omega) (by omega) hok (zUp_zUp _ _ _ _) hp
          refine lv_iload cx.1 cx.2.1 dL_isMoney_295 (lv_at hl 1 rfl) ?_
          refine lv_if_ne (tgt := 305) cx.1 cx.2.1 dL_isMoney_297 (by decide) (fun c30 => ?_) (fun c30 => ?_)
          rotate_left
          · exact absurd c30 (by decide)
          refine lv_iload cx.1 cx.2.1 dL_isMoney_305 (lv_at hl 0 rfl) ?_
          refine lv_if_eq (tgt := 316) cx.1 cx.2.1 dL_isMoney_307 (by decide) (fun c31 => ?_) (fun c31 => ?_)
          · exact absurd c31 (by decide)
          refine lv_aload_n cx.1 cx.2.1 dL_isMoney_310 rfl (lv_at hl 3 rfl) ?_
          refine lv_iconst (v := 1) cx.1 cx.2.1 dL_isMoney_311 (by decide) ?_
          refine zIldN cx hK hP 38 0 rfl rfl (1) (by omega) (by decide) rfl dL_isMoney_312 ?_
          refine lv_goto (tgt := 318) cx.1 cx.2.1 dL_isMoney_313 (by decide) ?_
          refine lv_icmp_ne (tgt := 325) cx.1 cx.2.1 dL_isMoney_318 (by decide) (fun c32 => ?_) (fun c32 => ?_)
          · exact absurd hv c32
          · refine lv_iconst (v := 1) cx.1 cx.2.1 dL_isMoney_321 (by decide) ?_
            refine lv_goto (tgt := 326) cx.1 cx.2.1 dL_isMoney_322 (by decide) ?_
            exact bRet (v := 1) cx hrt hlk (by first | rfl | decide) hS hP ⟨rfl, hMF⟩ (Nat.le_of_ble_eq_true rfl) (Nat.le_of_ble_eq_true rfl) dL_isMoney_326
theorem c_L_isMoney2B (l : Launch) (dC : Nat → ClassId) (dI : Nat → Nat → Nat) (cyI cyB : ClassId) (ad : Nat → Nat) (hI : zI ad 39) (hlf : l.stackTraces = false) (S : zS) (a : Nat) (ha : a < 7000) (hB : LBd S) : bMet l (dC, dI) (lTys cyI cyB) ad 39 xL (qw cyI ad) yL_isMoney wsB_isMoney ({ frames := 9, cells := 4, slots := 24, locals := 203 } : Room) [.ref (ad 0), .ref (ad 38), .int 2, .int (nI a)] S 4 24 (fun v T => v = 1 ∧ LBd T) := by
  obtain ⟨d, hdb, hd⟩ := hB.2
  exact c_L_isMoney2 l dC dI cyI cyB ad hI hlf S d a ha hB hdb hd
theorem c_L_isMoney3B (l : Launch) (dC : Nat → ClassId) (dI : Nat → Nat → Nat) (cyI cyB : ClassId) (ad : Nat → Nat) (hI : zI ad 39) (hlf : l.stackTraces = false) (S : zS) (a : Nat) (ha : a < 7000) (hB : LBd S) : bMet l (dC, dI) (lTys cyI cyB) ad 39 xL (qw cyI ad) yL_isMoney wsB_isMoney ({ frames := 9, cells := 4, slots := 24, locals := 203 } : Room) [.ref (ad 0), .ref (ad 38), .int 3, .int (nI a)] S 4 24 (fun v T => v = 1 ∧ LBd T) := by
  obtain ⟨d, hdb, hd⟩ := hB.2
  exact c_L_isMoney3 l dC dI cyI cyB ad hI hlf S d a ha hB hdb hd
theorem c_L_isMoney4B (l : Launch) (dC : Nat → ClassId) (dI : Nat → Nat → Nat) (cyI cyB : ClassId) (ad : Nat → Nat) (hI : zI ad 39) (hlf : l.stackTraces = false) (S : zS) (a : Nat) (ha : a < 7000) (hB : LBd S) : bMet l (dC, dI) (lTys cyI cyB) ad 39 xL (qw cyI ad) yL_isMoney wsB_isMoney ({ frames := 9, cells := 4, slots := 24, locals := 203 } : Room) [.ref (ad 0), .ref (ad 38), .int 4, .int (nI a)] S 4 24 (fun v T => v = 1 ∧ LBd T) := by
  obtain ⟨d, hdb, hd⟩ := hB.2
  exact c_L_isMoney4 l dC dI cyI cyB ad hI hlf S d a ha hB hdb hd
