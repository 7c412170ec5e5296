set_option maxHeartbeats 4000000 in
set_option maxRecDepth 100000 in
theorem c_X7_finds (l : Launch) (dC : Nat → ClassId) (dI : Nat → Nat → Nat) (cyI cyZ : ClassId) (ad : Nat → Nat) (hI : zI ad 14) (S : zS)  : zMv l (dC, dI) [(cyI, .int), (cyZ, .boolean)] ad 14 (fun _ _ => True) (mw cyI cyZ ad) yX7_finds wsX7_finds ({ frames := 3, cells := 0, slots := 0, locals := 75 } : Room) [.ref (ad 0)] S (fun T => T = g_X7_finds S) := by
  refine zStartV (by decide) rfl (Nat.le_of_ble_eq_true rfl) ?_
  intro p e s m args below meth c ls cx hrt hlk hP hK hXs hl
  have hl : lv_has ls 1 [(0, .ref (ad 0))] := hl
  have hS : va_S (zA ad 14 s.heap.size) s.heap s.heap [] := va_S.rf
  refine lv_aload_n cx.1 cx.2.1 dX7_finds_0 rfl (lv_at hl 0 rfl) ?_
  refine zThenVx (S' := g_X7_findsNets S) hS (zRunV (As := []) (rest := []) _ 0 cx (c_X7_findsNets l dC dI cyI cyZ ad hI S ) gX7_finds_X7_findsNets rfl ⟨rfl, rfl⟩ (by decide +kernel) ⟨Nat.le_of_ble_eq_true rfl, Nat.le_of_ble_eq_true rfl⟩ (zX_true) trivial hK hP hS 0 rfl rfl rfl rfl hl.1 rfl (Nat.le_of_ble_eq_true rfl) dX7_finds_1 ⟨Nat.zero_le _, Nat.zero_le _⟩) (fun H locs hP hS => ?_)
  refine lv_aload_n cx.1 cx.2.1 dX7_finds_4 rfl (lv_at hl 0 rfl) ?_
  refine zThenVx (S' := g_X7_supplies (g_X7_findsNets S)) hS (zRunV (As := []) (rest := []) _ 0 cx (c_X7_supplies l dC dI cyI cyZ ad hI (g_X7_findsNets S) (nets_n S)) gX7_finds_X7_supplies rfl ⟨rfl, rfl⟩ (by decide +kernel) ⟨Nat.le_of_ble_eq_true rfl, Nat.le_of_ble_eq_true rfl⟩ (zX_true) trivial hK hP hS 0 rfl rfl rfl rfl hl.1 rfl (Nat.le_of_ble_eq_true rfl) dX7_finds_5 ⟨Nat.zero_le _, Nat.zero_le _⟩) (fun H locs hP hS => ?_)
  refine lv_aload_n cx.1 cx.2.1 dX7_finds_8 rfl (lv_at hl 0 rfl) ?_
  refine zThenVx (S' := g_X7_works (g_X7_supplies (g_X7_findsNets S))) hS (zRunV (As := []) (rest := []) _ 0 cx (c_X7_works l dC dI cyI cyZ ad hI (g_X7_supplies (g_X7_findsNets S)) (wkP_congr (nets_w S) (fr_X7_supplies _ _ (by decide) (by decide) (by decide)) (fr_X7_supplies _ _ (by decide) (by decide) (by decide)) (fr_X7_supplies _ _ (by decide) (by decide) (by decide)))) gX7_finds_X7_works rfl ⟨rfl, rfl⟩ (by decide +kernel) ⟨Nat.le_of_ble_eq_true rfl, Nat.le_of_ble_eq_true rfl⟩ (zX_true) trivial hK hP hS 0 rfl rfl rfl rfl hl.1 rfl (Nat.le_of_ble_eq_true rfl) dX7_finds_9 ⟨Nat.zero_le _, Nat.zero_le _⟩) (fun H locs hP hS => ?_)
  exact zRetV cx hrt hlk hS hP (by unfold g_X7_finds; rfl) dX7_finds_12

set_option maxHeartbeats 4000000 in
set_option maxRecDepth 100000 in
theorem c_X7_valueOf (l : Launch) (dC : Nat → ClassId) (dI : Nat → Nat → Nat) (cyI cyZ : ClassId) (ad : Nat → Nat) (hI : zI ad 14) (S : zS) (ni : Nat) (hni : ni < 64) (hro : ∀ k, k < 64 → rOK (S 2) k) : zMi l (dC, dI) [(cyI, .int), (cyZ, .boolean)] ad 14 (fun _ _ => True) (mw cyI cyZ ad) yX7_valueOf wsX7_valueOf ({ frames := 1, cells := 0, slots := 0, locals := 23 } : Room) [.ref (ad 0), .int (nI ni)] S (fun v T => v = f_X7_valueOf S ni ∧ T = S) := by
  refine zStartI (by decide) rfl (Nat.le_of_ble_eq_true rfl) ?_
  intro p e s m args below meth c ls cx hrt hlk hP hK hXs hl
  have hl : lv_has ls 5 [(0, .ref (ad 0)), (1, .int (nI ni))] := hl
  have hS : va_S (zA ad 14 s.heap.size) s.heap s.heap [] := va_S.rf
  have hinX7 : ∀ w ∈ u_ws RX7 TX7 19, w ∈ wsX7_valueOf := by decide +kernel
  obtain ⟨Q, hQ⟩ : ∃ Q, Q = MQ below (zQi (dC, dI) (mw cyI cyZ ad) (fun v T => v = f_X7_valueOf S ni ∧ T = S) (zA ad 14 s.heap.size)) args s 0 0 (zA ad 14 s.heap.size) := ⟨_, rfl⟩
  rw [← hQ]
  refine lv_bipush (v := 10) cx.1 cx.2.1 dX7_valueOf_0 (by decide) ?_
  refine lv_istore_n (lv' := [(2, .int 10), (0, .ref (ad 0)), (1, .int (nI ni))]) cx.1 cx.2.1 dX7_valueOf_2 rfl hl (by decide) rfl (fun ls hl => ?_)
  refine lv_iconst (v := 0) cx.1 cx.2.1 dX7_valueOf_3 (by decide) ?_
  refine lv_istore_n (lv' := [(3, .int 0), (2, .int 10), (0, .ref (ad 0)), (1, .int (nI ni))]) cx.1 cx.2.1 dX7_valueOf_4 rfl hl (by decide) rfl (fun ls hl => ?_)
  have lp5 : ∀ (fu i : Nat) (sm : Int32) (hi5 : i ≤ 64) (hacc5 : lp_X7_valueOf_5 S ni 10 i = sm)  (_ : 64 - i < fu) (H : Heap) (locs : List Loc) (ls : Array Slot), va_P (dC, dI) vwCl (mw cyI cyZ ad S) H → va_S (zA ad 14 s.heap.size) s.heap H locs → lv_has ls 5 [(3, .int (nI i)), (2, .int sm), (0, .ref (ad 0)), (1, .int (nI ni))] → W p l e (headSpec wsX7_valueOf ({ frames := 1, cells := 0, slots := 0, locals := 23 } : Room)).room s m args below meth c H locs 0 0 Q (F0 m 5 ls []) := by
    intro fu
    induction fu with
    | zero => intro i sm hi5 hacc5  hm; exact absurd hm (Nat.not_lt_zero _)
    | succ fu ih5 =>
      intro i sm hi5 hacc5  hm H locs ls hP hS hl
      refine lv_iload_n cx.1 cx.2.1 dX7_valueOf_5 rfl (lv_at hl 0 rfl) ?_
      refine lv_bipush (v := 64) cx.1 cx.2.1 dX7_valueOf_6 (by decide) ?_
      refine lv_icmp_ge (tgt := 80) cx.1 cx.2.1 dX7_valueOf_8 (by decide) (fun c1 => ?_) (fun c1 => ?_)
      · have nc1 : 64 ≤ i := (nI_leI (a := 64) (b := i) (by first | decide | omega) (by first | decide | omega)).mp c1
        obtain rfl : i = 64 := by omega
        have hz0 : (lp_X7_valueOf_5 S ni 10 64) = sm := hacc5
        obtain ⟨N11, hN11⟩ : ∃ Z : Int32, (lp_X7_valueOf_5 S ni 10 64) = Z := ⟨_, rfl⟩
        rw [hN11] at hz0
        subst hz0
        refine lv_iload_n cx.1 cx.2.1 dX7_valueOf_80 rfl (lv_at hl 1 rfl) ?_
        refine lv_aload_n cx.1 cx.2.1 dX7_valueOf_81 rfl (lv_at hl 2 rfl) ?_
        refine zGet (v := .ref (ad 1)) (own := RX7) cx hinX7 hK hP 0 rfl rfl 5 (by decide) (by decide +kernel) rfl rfl dX7_valueOf_82 ?_
        refine lv_iload_n cx.1 cx.2.1 dX7_valueOf_85 rfl (lv_at hl 3 rfl) ?_
        refine zIldN cx hK hP 1 0 rfl rfl (ni) (by omega) (by decide) rfl dX7_valueOf_86 ?_
        refine lv_iconst (v := 1) cx.1 cx.2.1 dX7_valueOf_87 (by decide) ?_
        refine lv_icmp_eq (tgt := 115) cx.1 cx.2.1 dX7_valueOf_88 (by decide) (fun c12 => ?_) (fun c12 => ?_)
        · refine lv_iconst (v := 0) cx.1 cx.2.1 dX7_valueOf_115 (by decide) ?_
          refine lv_isub cx.1 cx.2.1 dX7_valueOf_116 ?_
          refine lv_istore_n (lv' := [(2, .int (N11 - 0)), (3, .int (nI 64)), (0, .ref (ad 0)), (1, .int (nI ni))]) cx.1 cx.2.1 dX7_valueOf_117 rfl hl (by decide) rfl (fun ls hl => ?_)
          refine lv_iload_n cx.1 cx.2.1 dX7_valueOf_118 rfl (lv_at hl 0 rfl) ?_
          refine lv_if_ge (tgt := 126) cx.1 cx.2.1 dX7_valueOf_119 (by decide) (fun c13 => ?_) (fun c13 => ?_)
          · refine lv_iload_n cx.1 cx.2.1 dX7_valueOf_126 rfl (lv_at hl 0 rfl) ?_
            subst hN11
            rw [hQ]
            exact zRetI cx hrt hlk rfl hS hP ⟨(by unfold f_X7_valueOf; rw [if_pos c12, if_pos c13]), rfl⟩ dX7_valueOf_127
          · refine lv_iconst (v := 0) cx.1 cx.2.1 dX7_valueOf_122 (by decide) ?_
            refine lv_goto (tgt := 127) cx.1 cx.2.1 dX7_valueOf_123 (by decide) ?_
            subst hN11
            rw [hQ]
            exact zRetI cx hrt hlk rfl hS hP ⟨(by unfold f_X7_valueOf; rw [if_pos c12, if_neg c13]), rfl⟩ dX7_valueOf_127
        · refine lv_aload_n cx.1 cx.2.1 dX7_valueOf_91 rfl (lv_at hl 2 rfl) ?_
          refine zGet (v := .ref (ad 3)) (own := RX7) cx hinX7 hK hP 0 rfl rfl 7 (by decide) (by decide +kernel) rfl rfl dX7_valueOf_92 ?_
          refine lv_iload_n cx.1 cx.2.1 dX7_valueOf_95 rfl (lv_at hl 3 rfl) ?_
          refine zIldN cx hK hP 3 0 rfl rfl (ni) (by omega) (by decide) rfl dX7_valueOf_96 ?_
          refine lv_iconst (v := (-1)) cx.1 cx.2.1 dX7_valueOf_97 (by decide) ?_
          refine lv_icmp_eq (tgt := 115) cx.1 cx.2.1 dX7_valueOf_98 (by decide) (fun c14 => ?_) (fun c14 => ?_)
          · refine lv_iconst (v := 0) cx.1 cx.2.1 dX7_valueOf_115 (by decide) ?_
            refine lv_isub cx.1 cx.2.1 dX7_valueOf_116 ?_
            refine lv_istore_n (lv' := [(2, .int (N11 - 0)), (3, .int (nI 64)), (0, .ref (ad 0)), (1, .int (nI ni))]) cx.1 cx.2.1 dX7_valueOf_117 rfl hl (by decide) rfl (fun ls hl => ?_)
            refine lv_iload_n cx.1 cx.2.1 dX7_valueOf_118 rfl (lv_at hl 0 rfl) ?_
            refine lv_if_ge (tgt := 126) cx.1 cx.2.1 dX7_valueOf_119 (by decide) (fun c15 => ?_) (fun c15 => ?_)
            · refine lv_iload_n cx.1 cx.2.1 dX7_valueOf_126 rfl (lv_at hl 0 rfl) ?_
              subst hN11
              rw [hQ]
              exact zRetI cx hrt hlk rfl hS hP ⟨(by unfold f_X7_valueOf; rw [if_neg c12, if_pos c14, if_pos c15]), rfl⟩ dX7_valueOf_127
            · refine lv_iconst (v := 0) cx.1 cx.2.1 dX7_valueOf_122 (by decide) ?_
              refine lv_goto (tgt := 127) cx.1 cx.2.1 dX7_valueOf_123 (by decide) ?_
              subst hN11
              rw [hQ]
              exact zRetI cx hrt hlk rfl hS hP ⟨(by unfold f_X7_valueOf; rw [if_neg c12, if_pos c14, if_neg c15]), rfl⟩ dX7_valueOf_127
          · refine lv_aload_n cx.1 cx.2.1 dX7_valueOf_101 rfl (lv_at hl 2 rfl) ?_
            refine zGet (v := .ref (ad 12)) (own := RX7) cx hinX7 hK hP 0 rfl rfl 16 (by decide) (by decide +kernel) rfl rfl dX7_valueOf_102 ?_
            refine lv_aload_n cx.1 cx.2.1 dX7_valueOf_105 rfl (lv_at hl 2 rfl) ?_
            refine zGet (v := .ref (ad 3)) (own := RX7) cx hinX7 hK hP 0 rfl rfl 7 (by decide) (by decide +kernel) rfl rfl dX7_valueOf_106 ?_
            refine lv_iload_n cx.1 cx.2.1 dX7_valueOf_109 rfl (lv_at hl 3 rfl) ?_
            refine zIldN cx hK hP 3 0 rfl rfl (ni) (by omega) (by decide) rfl dX7_valueOf_110 ?_
            refine zIld cx hK hP 12 0 rfl rfl ((hro ni hni).resolve_left (by assumption)) dX7_valueOf_111 ?_
            refine lv_goto (tgt := 116) cx.1 cx.2.1 dX7_valueOf_112 (by decide) ?_
            refine lv_isub cx.1 cx.2.1 dX7_valueOf_116 ?_
            refine lv_istore_n (lv' := [(2, .int (N11 - (S 11 (S 2 ni).toNatClampNeg))), (3, .int (nI 64)), (0, .ref (ad 0)), (1, .int (nI ni))]) cx.1 cx.2.1 dX7_valueOf_117 rfl hl (by decide) rfl (fun ls hl => ?_)
            refine lv_iload_n cx.1 cx.2.1 dX7_valueOf_118 rfl (lv_at hl 0 rfl) ?_
            refine lv_if_ge (tgt := 126) cx.1 cx.2.1 dX7_valueOf_119 (by decide) (fun c16 => ?_) (fun c16 => ?_)
            · refine lv_iload_n cx.1 cx.2.1 dX7_valueOf_126 rfl (lv_at hl 0 rfl) ?_
              subst hN11
              rw [hQ]
              exact zRetI cx hrt hlk rfl hS hP ⟨(by unfold f_X7_valueOf; rw [if_neg c12, if_neg c14, if_pos c16]), rfl⟩ dX7_valueOf_127
            · refine lv_iconst (v := 0) cx.1 cx.2.1 dX7_valueOf_122 (by decide) ?_
              refine lv_goto (tgt := 127) cx.1 cx.2.1 dX7_valueOf_123 (by decide) ?_
              subst hN11
              rw [hQ]
              exact zRetI cx hrt hlk rfl hS hP ⟨(by unfold f_X7_valueOf; rw [if_neg c12, if_neg c14, if_neg c16]), rfl⟩ dX7_valueOf_127
      · have nc1 : ¬ 64 ≤ i := fun z => c1 ((nI_leI (a := 64) (b := i) (by first | decide | omega) (by first | decide | omega)).mpr z)
        refine lv_iload_n cx.1 cx.2.1 dX7_valueOf_11 rfl (lv_at hl 3 rfl) ?_
        refine lv_iload_n cx.1 cx.2.1 dX7_valueOf_12 rfl (lv_at hl 0 rfl) ?_
        refine zThenIx (v := f_X7_apart (nI ni) (nI i)) (S' := S) hS (zRunS (As := [.int (nI ni), .int (nI i)]) (rest := []) _ 2 cx (c_X7_apart l dC dI cyI cyZ ad hI S (nI ni) (nI i)) gX7_valueOf_X7_apart rfl ⟨rfl, rfl⟩ (by decide +kernel) ⟨Nat.le_of_ble_eq_true rfl, Nat.le_of_ble_eq_true rfl⟩ (zX_true) trivial hK hP hS rfl hl.1 rfl (Nat.le_of_ble_eq_true rfl) dX7_valueOf_13 ⟨Nat.zero_le _, Nat.zero_le _⟩) (fun H locs hP hS => ?_)
        refine lv_iconst (v := 2) cx.1 cx.2.1 dX7_valueOf_16 (by decide) ?_
        refine lv_icmp_gt (tgt := 24) cx.1 cx.2.1 dX7_valueOf_17 (by decide) (fun c2 => ?_) (fun c2 => ?_)
        · refine lv_iconst (v := 0) cx.1 cx.2.1 dX7_valueOf_24 (by decide) ?_
          refine lv_istore (lv' := [(4, .int 0), (3, .int (nI i)), (2, .int sm), (0, .ref (ad 0)), (1, .int (nI ni))]) cx.1 cx.2.1 dX7_valueOf_25 hl (by decide) rfl (fun ls hl => ?_)
          refine lv_iload_n cx.1 cx.2.1 dX7_valueOf_27 rfl (lv_at hl 2 rfl) ?_
          refine lv_iload cx.1 cx.2.1 dX7_valueOf_28 (lv_at hl 0 rfl) ?_
          refine lv_if_eq (tgt := 47) cx.1 cx.2.1 dX7_valueOf_30 (by decide) (fun c3 => ?_) (fun c3 => ?_)
          rotate_left
          · exact absurd c3 (by decide)
          refine lv_iconst (v := 0) cx.1 cx.2.1 dX7_valueOf_47 (by decide) ?_
          refine lv_iadd cx.1 cx.2.1 dX7_valueOf_48 ?_
          refine lv_istore_n (lv' := [(2, .int (sm + 0)), (4, .int 0), (3, .int (nI i)), (0, .ref (ad 0)), (1, .int (nI ni))]) cx.1 cx.2.1 dX7_valueOf_49 rfl hl (by decide) rfl (fun ls hl => ?_)
          refine lv_iload_n cx.1 cx.2.1 dX7_valueOf_50 rfl (lv_at hl 0 rfl) ?_
          refine lv_iload cx.1 cx.2.1 dX7_valueOf_51 (lv_at hl 1 rfl) ?_
          refine lv_if_eq (tgt := 71) cx.1 cx.2.1 dX7_valueOf_53 (by decide) (fun c4 => ?_) (fun c4 => ?_)
          rotate_left
          · exact absurd c4 (by decide)
          refine lv_iconst (v := 0) cx.1 cx.2.1 dX7_valueOf_71 (by decide) ?_
          refine lv_isub cx.1 cx.2.1 dX7_valueOf_72 ?_
          refine lv_istore_n (lv' := [(2, .int ((sm + 0) - 0)), (4, .int 0), (3, .int (nI i)), (0, .ref (ad 0)), (1, .int (nI ni))]) cx.1 cx.2.1 dX7_valueOf_73 rfl hl (by decide) rfl (fun ls hl => ?_)
          refine lv_iinc (v := nI (i + 1)) (lv' := [(3, .int (nI (i + 1))), (2, .int ((sm + 0) - 0)), (4, .int 0), (0, .ref (ad 0)), (1, .int (nI ni))]) cx.1 cx.2.1 dX7_valueOf_74 hl (k := 2) rfl (nI_1 i) (by decide) rfl (fun ls hl => ?_)
          refine lv_goto (tgt := 5) cx.1 cx.2.1 dX7_valueOf_77 (by decide) ?_
          have ha5 : lp_X7_valueOf_5 S ni 10 (i + 1) = (sm + 0) - 0 := by
            show bd_X7_valueOf_5 S ni i (lp_X7_valueOf_5 S ni 10 i) = _
            rw [hacc5]
            unfold bd_X7_valueOf_5
            rw [if_pos c2]
          exact ih5 (i + 1) ((sm + 0) - 0) (by omega) ha5  (by omega) _ _ ls hP hS (lv_sub hl [0, 1, 3, 4] rfl)
        · refine lv_iconst (v := 1) cx.1 cx.2.1 dX7_valueOf_20 (by decide) ?_
          refine lv_goto (tgt := 25) cx.1 cx.2.1 dX7_valueOf_21 (by decide) ?_
          refine lv_istore (lv' := [(4, .int 1), (3, .int (nI i)), (2, .int sm), (0, .ref (ad 0)), (1, .int (nI ni))]) cx.1 cx.2.1 dX7_valueOf_25 hl (by decide) rfl (fun ls hl => ?_)
          refine lv_iload_n cx.1 cx.2.1 dX7_valueOf_27 rfl (lv_at hl 2 rfl) ?_
          refine lv_iload cx.1 cx.2.1 dX7_valueOf_28 (lv_at hl 0 rfl) ?_
          refine lv_if_eq (tgt := 47) cx.1 cx.2.1 dX7_valueOf_30 (by decide) (fun c5 => ?_) (fun c5 => ?_)
          · exact absurd c5 (by decide)
          refine lv_aload_n cx.1 cx.2.1 dX7_valueOf_33 rfl (lv_at hl 3 rfl) ?_
          refine zGet (v := .ref (ad 1)) (own := RX7) cx hinX7 hK hP 0 rfl rfl 5 (by decide) (by decide +kernel) rfl rfl dX7_valueOf_34 ?_
          refine lv_iload_n cx.1 cx.2.1 dX7_valueOf_37 rfl (lv_at hl 1 rfl) ?_
          refine zIldN cx hK hP 1 0 rfl rfl (i) (by omega) (by decide) rfl dX7_valueOf_38 ?_
          refine lv_iconst (v := 4) cx.1 cx.2.1 dX7_valueOf_39 (by decide) ?_
          refine lv_icmp_ne (tgt := 47) cx.1 cx.2.1 dX7_valueOf_40 (by decide) (fun c6 => ?_) (fun c6 => ?_)
          · refine lv_iconst (v := 0) cx.1 cx.2.1 dX7_valueOf_47 (by decide) ?_
            refine lv_iadd cx.1 cx.2.1 dX7_valueOf_48 ?_
            refine lv_istore_n (lv' := [(2, .int (sm + 0)), (4, .int 1), (3, .int (nI i)), (0, .ref (ad 0)), (1, .int (nI ni))]) cx.1 cx.2.1 dX7_valueOf_49 rfl hl (by decide) rfl (fun ls hl => ?_)
            refine lv_iload_n cx.1 cx.2.1 dX7_valueOf_50 rfl (lv_at hl 0 rfl) ?_
            refine lv_iload cx.1 cx.2.1 dX7_valueOf_51 (lv_at hl 1 rfl) ?_
            refine lv_if_eq (tgt := 71) cx.1 cx.2.1 dX7_valueOf_53 (by decide) (fun c7 => ?_) (fun c7 => ?_)
            · exact absurd c7 (by decide)
            refine lv_aload_n cx.1 cx.2.1 dX7_valueOf_56 rfl (lv_at hl 3 rfl) ?_
            refine zGet (v := .ref (ad 1)) (own := RX7) cx hinX7 hK hP 0 rfl rfl 5 (by decide) (by decide +kernel) rfl rfl dX7_valueOf_57 ?_
            refine lv_iload_n cx.1 cx.2.1 dX7_valueOf_60 rfl (lv_at hl 2 rfl) ?_
            refine zIldN cx hK hP 1 0 rfl rfl (i) (by omega) (by decide) rfl dX7_valueOf_61 ?_
            refine lv_iconst (v := 5) cx.1 cx.2.1 dX7_valueOf_62 (by decide) ?_
            refine lv_icmp_ne (tgt := 71) cx.1 cx.2.1 dX7_valueOf_63 (by decide) (fun c8 => ?_) (fun c8 => ?_)
            · refine lv_iconst (v := 0) cx.1 cx.2.1 dX7_valueOf_71 (by decide) ?_
              refine lv_isub cx.1 cx.2.1 dX7_valueOf_72 ?_
              refine lv_istore_n (lv' := [(2, .int ((sm + 0) - 0)), (4, .int 1), (3, .int (nI i)), (0, .ref (ad 0)), (1, .int (nI ni))]) cx.1 cx.2.1 dX7_valueOf_73 rfl hl (by decide) rfl (fun ls hl => ?_)
              refine lv_iinc (v := nI (i + 1)) (lv' := [(3, .int (nI (i + 1))), (2, .int ((sm + 0) - 0)), (4, .int 1), (0, .ref (ad 0)), (1, .int (nI ni))]) cx.1 cx.2.1 dX7_valueOf_74 hl (k := 2) rfl (nI_1 i) (by decide) rfl (fun ls hl => ?_)
              refine lv_goto (tgt := 5) cx.1 cx.2.1 dX7_valueOf_77 (by decide) ?_
              have ha5 : lp_X7_valueOf_5 S ni 10 (i + 1) = (sm + 0) - 0 := by
                show bd_X7_valueOf_5 S ni i (lp_X7_valueOf_5 S ni 10 i) = _
                rw [hacc5]
                unfold bd_X7_valueOf_5
                rw [if_neg c2, if_pos c6, if_pos c8]
              exact ih5 (i + 1) ((sm + 0) - 0) (by omega) ha5  (by omega) _ _ ls hP hS (lv_sub hl [0, 1, 3, 4] rfl)
            · refine lv_bipush (v := 10) cx.1 cx.2.1 dX7_valueOf_66 (by decide) ?_
              refine lv_goto (tgt := 72) cx.1 cx.2.1 dX7_valueOf_68 (by decide) ?_
              refine lv_isub cx.1 cx.2.1 dX7_valueOf_72 ?_
              refine lv_istore_n (lv' := [(2, .int ((sm + 0) - 10)), (4, .int 1), (3, .int (nI i)), (0, .ref (ad 0)), (1, .int (nI ni))]) cx.1 cx.2.1 dX7_valueOf_73 rfl hl (by decide) rfl (fun ls hl => ?_)
              refine lv_iinc (v := nI (i + 1)) (lv' := [(3, .int (nI (i + 1))), (2, .int ((sm + 0) - 10)), (4, .int 1), (0, .ref (ad 0)), (1, .int (nI ni))]) cx.1 cx.2.1 dX7_valueOf_74 hl (k := 2) rfl (nI_1 i) (by decide) rfl (fun ls hl => ?_)
              refine lv_goto (tgt := 5) cx.1 cx.2.1 dX7_valueOf_77 (by decide) ?_
              have ha5 : lp_X7_valueOf_5 S ni 10 (i + 1) = (sm + 0) - 10 := by
                show bd_X7_valueOf_5 S ni i (lp_X7_valueOf_5 S ni 10 i) = _
                rw [hacc5]
                unfold bd_X7_valueOf_5
                rw [if_neg c2, if_pos c6, if_neg (not_not_intro c8)]
              exact ih5 (i + 1) ((sm + 0) - 10) (by omega) ha5  (by omega) _ _ ls hP hS (lv_sub hl [0, 1, 3, 4] rfl)
          · refine lv_iconst (v := 5) cx.1 cx.2.1 dX7_valueOf_43 (by decide) ?_
            refine lv_goto (tgt := 48) cx.1 cx.2.1 dX7_valueOf_44 (by decide) ?_
            refine lv_iadd cx.1 cx.2.1 dX7_valueOf_48 ?_
            refine lv_istore_n (lv' := [(2, .int (sm + 5)), (4, .int 1), (3, .int (nI i)), (0, .ref (ad 0)), (1, .int (nI ni))]) cx.1 cx.2.1 dX7_valueOf_49 rfl hl (by decide) rfl (fun ls hl => ?_)
            refine lv_iload_n cx.1 cx.2.1 dX7_valueOf_50 rfl (lv_at hl 0 rfl) ?_
            refine lv_iload cx.1 cx.2.1 dX7_valueOf_51 (lv_at hl 1 rfl) ?_
            refine lv_if_eq (tgt := 71) cx.1 cx.2.1 dX7_valueOf_53 (by decide) (fun c9 => ?_) (fun c9 => ?_)
            · exact absurd c9 (by decide)
            refine lv_aload_n cx.1 cx.2.1 dX7_valueOf_56 rfl (lv_at hl 3 rfl) ?_
            refine zGet (v := .ref (ad 1)) (own := RX7) cx hinX7 hK hP 0 rfl rfl 5 (by decide) (by decide +kernel) rfl rfl dX7_valueOf_57 ?_
            refine lv_iload_n cx.1 cx.2.1 dX7_valueOf_60 rfl (lv_at hl 2 rfl) ?_
            refine zIldN cx hK hP 1 0 rfl rfl (i) (by omega) (by decide) rfl dX7_valueOf_61 ?_
            refine lv_iconst (v := 5) cx.1 cx.2.1 dX7_valueOf_62 (by decide) ?_
            refine lv_icmp_ne (tgt := 71) cx.1 cx.2.1 dX7_valueOf_63 (by decide) (fun c10 => ?_) (fun c10 => ?_)
            · refine lv_iconst (v := 0) cx.1 cx.2.1 dX7_valueOf_71 (by decide) ?_
              refine lv_isub cx.1 cx.2.1 dX7_valueOf_72 ?_
              refine lv_istore_n (lv' := [(2, .int ((sm + 5) - 0)), (4, .int 1), (3, .int (nI i)), (0, .ref (ad 0)), (1, .int (nI ni))]) cx.1 cx.2.1 dX7_valueOf_73 rfl hl (by decide) rfl (fun ls hl => ?_)
              refine lv_iinc (v := nI (i + 1)) (lv' := [(3, .int (nI (i + 1))), (2, .int ((sm + 5) - 0)), (4, .int 1), (0, .ref (ad 0)), (1, .int (nI ni))]) cx.1 cx.2.1 dX7_valueOf_74 hl (k := 2) rfl (nI_1 i) (by decide) rfl (fun ls hl => ?_)
              refine lv_goto (tgt := 5) cx.1 cx.2.1 dX7_valueOf_77 (by decide) ?_
              have ha5 : lp_X7_valueOf_5 S ni 10 (i + 1) = (sm + 5) - 0 := by
                show bd_X7_valueOf_5 S ni i (lp_X7_valueOf_5 S ni 10 i) = _
                rw [hacc5]
                unfold bd_X7_valueOf_5
                rw [if_neg c2, if_neg (not_not_intro c6), if_pos c10]
              exact ih5 (i + 1) ((sm + 5) - 0) (by omega) ha5  (by omega) _ _ ls hP hS (lv_sub hl [0, 1, 3, 4] rfl)
            · refine lv_bipush (v := 10) cx.1 cx.2.1 dX7_valueOf_66 (by decide) ?_
              refine lv_goto (tgt := 72) cx.1 cx.2.1 dX7_valueOf_68 (by decide) ?_
              refine lv_isub cx.1 cx.2.1 dX7_valueOf_72 ?_
              refine lv_istore_n (lv' := [(2, .int ((sm + 5) - 10)), (4, .int 1), (3, .int (nI i)), (0, .ref (ad 0)), (1, .int (nI ni))]) cx.1 cx.2.1 dX7_valueOf_73 rfl hl (by decide) rfl (fun ls hl => ?_)
              refine lv_iinc (v := nI (i + 1)) (lv' := [(3, .int (nI (i + 1))), (2, .int ((sm + 5) - 10)), (4, .int 1), (0, .ref (ad 0)), (1, .int (nI ni))]) cx.1 cx.2.1 dX7_valueOf_74 hl (k := 2) rfl (nI_1 i) (by decide) rfl (fun ls hl => ?_)
              refine lv_goto (tgt := 5) cx.1 cx.2.1 dX7_valueOf_77 (by decide) ?_
              have ha5 : lp_X7_valueOf_5 S ni 10 (i + 1) = (sm + 5) - 10 := by
                show bd_X7_valueOf_5 S ni i (lp_X7_valueOf_5 S ni 10 i) = _
                rw [hacc5]
                unfold bd_X7_valueOf_5
                rw [if_neg c2, if_neg (not_not_intro c6), if_neg (not_not_intro c10)]
              exact ih5 (i + 1) ((sm + 5) - 10) (by omega) ha5  (by omega) _ _ ls hP hS (lv_sub hl [0, 1, 3, 4] rfl)
  exact lp5 (64 - 0 + 1) 0 10 (by omega) rfl  (Nat.lt_succ_self _) _ _ ls hP hS (lv_sub hl [0, 1, 2, 3] rfl)

set_option maxHeartbeats 4000000 in
set_option maxRecDepth 100000 in
theorem c_X7_changeOf (l : Launch) (dC : Nat → ClassId) (dI : Nat → Nat → Nat) (cyI cyZ : ClassId) (ad : Nat → Nat) (hI : zI ad 14) (S : zS) (ni : Nat) (hni : ni < 64) (hro : ∀ k, k < 64 → rOK (S 2) k) : zMi l (dC, dI) [(cyI, .int), (cyZ, .boolean)] ad 14 (fun _ _ => True) (mw cyI cyZ ad) yX7_changeOf wsX7_changeOf ({ frames := 2, cells := 0, slots := 0, locals := 47 } : Room) [.ref (ad 0), .int (nI ni)] S (fun v T => v = f_X7_changeOf S ni ∧ T = S) := by
  refine zStartI (by decide) rfl (Nat.le_of_ble_eq_true rfl) ?_
  intro p e s m args below meth c ls cx hrt hlk hP hK hXs hl
  have hl : lv_has ls 4 [(0, .ref (ad 0)), (1, .int (nI ni))] := hl
  have hS : va_S (zA ad 14 s.heap.size) s.heap s.heap [] := va_S.rf
  have hinX7 : ∀ w ∈ u_ws RX7 TX7 19, w ∈ wsX7_changeOf := by decide +kernel
  refine lv_aload_n cx.1 cx.2.1 dX7_changeOf_0 rfl (lv_at hl 0 rfl) ?_
  refine zGet (v := .ref (ad 9)) (own := RX7) cx hinX7 hK hP 0 rfl rfl 13 (by decide) (by decide +kernel) rfl rfl dX7_changeOf_1 ?_
  refine lv_iload_n cx.1 cx.2.1 dX7_changeOf_4 rfl (lv_at hl 1 rfl) ?_
  refine zZldN cx hK hP 9 1 rfl rfl (ni) (by omega) (by decide) rfl dX7_changeOf_5 ?_
  refine lv_if_ne (tgt := 24) cx.1 cx.2.1 dX7_changeOf_6 (by decide) (fun c1 => ?_) (fun c1 => ?_)
  · refine lv_iconst (v := 2) cx.1 cx.2.1 dX7_changeOf_24 (by decide) ?_
    refine lv_aload_n cx.1 cx.2.1 dX7_changeOf_25 rfl (lv_at hl 0 rfl) ?_
    refine zGet (v := .ref (ad 2)) (own := RX7) cx hinX7 hK hP 0 rfl rfl 6 (by decide) (by decide +kernel) rfl rfl dX7_changeOf_26 ?_
    refine lv_iload_n cx.1 cx.2.1 dX7_changeOf_29 rfl (lv_at hl 1 rfl) ?_
    refine zIldN cx hK hP 2 0 rfl rfl (ni) (by omega) (by decide) rfl dX7_changeOf_30 ?_
    refine lv_imul cx.1 cx.2.1 dX7_changeOf_31 ?_
    refine lv_istore_n (lv' := [(2, .int (2 * (S 1 ni))), (0, .ref (ad 0)), (1, .int (nI ni))]) cx.1 cx.2.1 dX7_changeOf_32 rfl hl (by decide) rfl (fun ls hl => ?_)
    refine lv_aload_n cx.1 cx.2.1 dX7_changeOf_33 rfl (lv_at hl 1 rfl) ?_
    refine zGet (v := .ref (ad 1)) (own := RX7) cx hinX7 hK hP 0 rfl rfl 5 (by decide) (by decide +kernel) rfl rfl dX7_changeOf_34 ?_
    refine lv_iload_n cx.1 cx.2.1 dX7_changeOf_37 rfl (lv_at hl 2 rfl) ?_
    refine zIldN cx hK hP 1 0 rfl rfl (ni) (by omega) (by decide) rfl dX7_changeOf_38 ?_
    refine lv_iconst (v := 2) cx.1 cx.2.1 dX7_changeOf_39 (by decide) ?_
    refine lv_icmp_ne (tgt := 65) cx.1 cx.2.1 dX7_changeOf_40 (by decide) (fun c2 => ?_) (fun c2 => ?_)
    · refine lv_aload_n cx.1 cx.2.1 dX7_changeOf_65 rfl (lv_at hl 1 rfl) ?_
      refine zGet (v := .ref (ad 2)) (own := RX7) cx hinX7 hK hP 0 rfl rfl 6 (by decide) (by decide +kernel) rfl rfl dX7_changeOf_66 ?_
      refine lv_iload_n cx.1 cx.2.1 dX7_changeOf_69 rfl (lv_at hl 2 rfl) ?_
      refine zIldN cx hK hP 2 0 rfl rfl (ni) (by omega) (by decide) rfl dX7_changeOf_70 ?_
      refine lv_if_le (tgt := 87) cx.1 cx.2.1 dX7_changeOf_71 (by decide) (fun c3 => ?_) (fun c3 => ?_)
      · refine lv_iconst (v := 0) cx.1 cx.2.1 dX7_changeOf_87 (by decide) ?_
        refine lv_istore_n (lv' := [(3, .int 0), (2, .int (2 * (S 1 ni))), (0, .ref (ad 0)), (1, .int (nI ni))]) cx.1 cx.2.1 dX7_changeOf_88 rfl hl (by decide) rfl (fun ls hl => ?_)
        refine lv_iload_n cx.1 cx.2.1 dX7_changeOf_89 rfl (lv_at hl 0 rfl) ?_
        refine lv_if_eq (tgt := 95) cx.1 cx.2.1 dX7_changeOf_90 (by decide) (fun c4 => ?_) (fun c4 => ?_)
        rotate_left
        · exact absurd c4 (by decide)
        refine lv_aload_n cx.1 cx.2.1 dX7_changeOf_95 rfl (lv_at hl 2 rfl) ?_
        refine zGet (v := .int (S 13 0)) (own := RX7) cx hinX7 hK hP 0 rfl rfl 0 (by decide) (by decide +kernel) rfl rfl dX7_changeOf_96 ?_
        refine lv_if_lt (tgt := 144) cx.1 cx.2.1 dX7_changeOf_99 (by decide) (fun c5 => ?_) (fun c5 => ?_)
        · refine lv_iconst (v := 0) cx.1 cx.2.1 dX7_changeOf_144 (by decide) ?_
          exact zRetI cx hrt hlk rfl hS hP ⟨(by unfold f_X7_changeOf; rw [if_pos c1, if_pos c2, if_pos c3, if_pos c5]), rfl⟩ dX7_changeOf_145
        · refine lv_aload_n cx.1 cx.2.1 dX7_changeOf_102 rfl (lv_at hl 2 rfl) ?_
          refine zGet (v := .ref (ad 2)) (own := RX7) cx hinX7 hK hP 0 rfl rfl 6 (by decide) (by decide +kernel) rfl rfl dX7_changeOf_103 ?_
          refine lv_iload_n cx.1 cx.2.1 dX7_changeOf_106 rfl (lv_at hl 3 rfl) ?_
          refine zIldN cx hK hP 2 0 rfl rfl (ni) (by omega) (by decide) rfl dX7_changeOf_107 ?_
          refine lv_iconst (v := 3) cx.1 cx.2.1 dX7_changeOf_108 (by decide) ?_
          refine lv_icmp_ge (tgt := 144) cx.1 cx.2.1 dX7_changeOf_109 (by decide) (fun c6 => ?_) (fun c6 => ?_)
          · refine lv_iconst (v := 0) cx.1 cx.2.1 dX7_changeOf_144 (by decide) ?_
            exact zRetI cx hrt hlk rfl hS hP ⟨(by unfold f_X7_changeOf; rw [if_pos c1, if_pos c2, if_pos c3, if_neg c5, if_pos c6]), rfl⟩ dX7_changeOf_145
          · refine lv_aload_n cx.1 cx.2.1 dX7_changeOf_112 rfl (lv_at hl 2 rfl) ?_
            refine lv_iload_n cx.1 cx.2.1 dX7_changeOf_113 rfl (lv_at hl 3 rfl) ?_
            refine zThenIx (v := f_X7_valueOf S ni) (S' := S) hS (zRunV (As := [.int (nI ni)]) (rest := []) _ 1 cx (c_X7_valueOf l dC dI cyI cyZ ad hI S ni hni hro) gX7_changeOf_X7_valueOf rfl ⟨rfl, rfl⟩ (by decide +kernel) ⟨Nat.le_of_ble_eq_true rfl, Nat.le_of_ble_eq_true rfl⟩ (zX_true) trivial hK hP hS 0 rfl rfl rfl rfl hl.1 rfl (Nat.le_of_ble_eq_true rfl) dX7_changeOf_114 ⟨Nat.zero_le _, Nat.zero_le _⟩) (fun H locs hP hS => ?_)
            refine lv_iconst (v := 5) cx.1 cx.2.1 dX7_changeOf_117 (by decide) ?_
            refine lv_aload_n cx.1 cx.2.1 dX7_changeOf_118 rfl (lv_at hl 2 rfl) ?_
            refine zGet (v := .ref (ad 2)) (own := RX7) cx hinX7 hK hP 0 rfl rfl 6 (by decide) (by decide +kernel) rfl rfl dX7_changeOf_119 ?_
            refine lv_iload_n cx.1 cx.2.1 dX7_changeOf_122 rfl (lv_at hl 3 rfl) ?_
            refine zIldN cx hK hP 2 0 rfl rfl (ni) (by omega) (by decide) rfl dX7_changeOf_123 ?_
            refine lv_iconst (v := 1) cx.1 cx.2.1 dX7_changeOf_124 (by decide) ?_
            refine lv_iadd cx.1 cx.2.1 dX7_changeOf_125 ?_
            refine lv_imul cx.1 cx.2.1 dX7_changeOf_126 ?_
            refine lv_icmp_lt (tgt := 144) cx.1 cx.2.1 dX7_changeOf_127 (by decide) (fun c7 => ?_) (fun c7 => ?_)
            · refine lv_iconst (v := 0) cx.1 cx.2.1 dX7_changeOf_144 (by decide) ?_
              exact zRetI cx hrt hlk rfl hS hP ⟨(by unfold f_X7_changeOf; rw [if_pos c1, if_pos c2, if_pos c3, if_neg c5, if_neg c6, if_pos c7]), rfl⟩ dX7_changeOf_145
            · refine lv_aload_n cx.1 cx.2.1 dX7_changeOf_130 rfl (lv_at hl 2 rfl) ?_
              refine zGet (v := .ref (ad 10)) (own := RX7) cx hinX7 hK hP 0 rfl rfl 14 (by decide) (by decide +kernel) rfl rfl dX7_changeOf_131 ?_
              refine lv_iload_n cx.1 cx.2.1 dX7_changeOf_134 rfl (lv_at hl 3 rfl) ?_
              refine zIldN cx hK hP 10 0 rfl rfl (ni) (by omega) (by decide) rfl dX7_changeOf_135 ?_
              refine lv_iload_n cx.1 cx.2.1 dX7_changeOf_136 rfl (lv_at hl 1 rfl) ?_
              refine lv_icmp_ne (tgt := 144) cx.1 cx.2.1 dX7_changeOf_137 (by decide) (fun c8 => ?_) (fun c8 => ?_)
              · refine lv_iconst (v := 0) cx.1 cx.2.1 dX7_changeOf_144 (by decide) ?_
                exact zRetI cx hrt hlk rfl hS hP ⟨(by unfold f_X7_changeOf; rw [if_pos c1, if_pos c2, if_pos c3, if_neg c5, if_neg c6, if_neg c7, if_pos c8]), rfl⟩ dX7_changeOf_145
              · refine lv_iconst (v := 1) cx.1 cx.2.1 dX7_changeOf_140 (by decide) ?_
                refine lv_goto (tgt := 145) cx.1 cx.2.1 dX7_changeOf_141 (by decide) ?_
                exact zRetI cx hrt hlk rfl hS hP ⟨(by unfold f_X7_changeOf; rw [if_pos c1, if_pos c2, if_pos c3, if_neg c5, if_neg c6, if_neg c7, if_neg (not_not_intro c8)]), rfl⟩ dX7_changeOf_145
      · refine lv_aload_n cx.1 cx.2.1 dX7_changeOf_74 rfl (lv_at hl 1 rfl) ?_
        refine zGet (v := .ref (ad 10)) (own := RX7) cx hinX7 hK hP 0 rfl rfl 14 (by decide) (by decide +kernel) rfl rfl dX7_changeOf_75 ?_
        refine lv_iload_n cx.1 cx.2.1 dX7_changeOf_78 rfl (lv_at hl 2 rfl) ?_
        refine zIldN cx hK hP 10 0 rfl rfl (ni) (by omega) (by decide) rfl dX7_changeOf_79 ?_
        refine lv_if_ne (tgt := 87) cx.1 cx.2.1 dX7_changeOf_80 (by decide) (fun c9 => ?_) (fun c9 => ?_)
        · refine lv_iconst (v := 0) cx.1 cx.2.1 dX7_changeOf_87 (by decide) ?_
          refine lv_istore_n (lv' := [(3, .int 0), (2, .int (2 * (S 1 ni))), (0, .ref (ad 0)), (1, .int (nI ni))]) cx.1 cx.2.1 dX7_changeOf_88 rfl hl (by decide) rfl (fun ls hl => ?_)
          refine lv_iload_n cx.1 cx.2.1 dX7_changeOf_89 rfl (lv_at hl 0 rfl) ?_
          refine lv_if_eq (tgt := 95) cx.1 cx.2.1 dX7_changeOf_90 (by decide) (fun c10 => ?_) (fun c10 => ?_)
          rotate_left
          · exact absurd c10 (by decide)
          refine lv_aload_n cx.1 cx.2.1 dX7_changeOf_95 rfl (lv_at hl 2 rfl) ?_
          refine zGet (v := .int (S 13 0)) (own := RX7) cx hinX7 hK hP 0 rfl rfl 0 (by decide) (by decide +kernel) rfl rfl dX7_changeOf_96 ?_
          refine lv_if_lt (tgt := 144) cx.1 cx.2.1 dX7_changeOf_99 (by decide) (fun c11 => ?_) (fun c11 => ?_)
          · refine lv_iconst (v := 0) cx.1 cx.2.1 dX7_changeOf_144 (by decide) ?_
            exact zRetI cx hrt hlk rfl hS hP ⟨(by unfold f_X7_changeOf; rw [if_pos c1, if_pos c2, if_neg c3, if_pos c9, if_pos c11]), rfl⟩ dX7_changeOf_145
          · refine lv_aload_n cx.1 cx.2.1 dX7_changeOf_102 rfl (lv_at hl 2 rfl) ?_
            refine zGet (v := .ref (ad 2)) (own := RX7) cx hinX7 hK hP 0 rfl rfl 6 (by decide) (by decide +kernel) rfl rfl dX7_changeOf_103 ?_
            refine lv_iload_n cx.1 cx.2.1 dX7_changeOf_106 rfl (lv_at hl 3 rfl) ?_
            refine zIldN cx hK hP 2 0 rfl rfl (ni) (by omega) (by decide) rfl dX7_changeOf_107 ?_
            refine lv_iconst (v := 3) cx.1 cx.2.1 dX7_changeOf_108 (by decide) ?_
            refine lv_icmp_ge (tgt := 144) cx.1 cx.2.1 dX7_changeOf_109 (by decide) (fun c12 => ?_) (fun c12 => ?_)
            · refine lv_iconst (v := 0) cx.1 cx.2.1 dX7_changeOf_144 (by decide) ?_
              exact zRetI cx hrt hlk rfl hS hP ⟨(by unfold f_X7_changeOf; rw [if_pos c1, if_pos c2, if_neg c3, if_pos c9, if_neg c11, if_pos c12]), rfl⟩ dX7_changeOf_145
            · refine lv_aload_n cx.1 cx.2.1 dX7_changeOf_112 rfl (lv_at hl 2 rfl) ?_
              refine lv_iload_n cx.1 cx.2.1 dX7_changeOf_113 rfl (lv_at hl 3 rfl) ?_
              refine zThenIx (v := f_X7_valueOf S ni) (S' := S) hS (zRunV (As := [.int (nI ni)]) (rest := []) _ 1 cx (c_X7_valueOf l dC dI cyI cyZ ad hI S ni hni hro) gX7_changeOf_X7_valueOf rfl ⟨rfl, rfl⟩ (by decide +kernel) ⟨Nat.le_of_ble_eq_true rfl, Nat.le_of_ble_eq_true rfl⟩ (zX_true) trivial hK hP hS 0 rfl rfl rfl rfl hl.1 rfl (Nat.le_of_ble_eq_true rfl) dX7_changeOf_114 ⟨Nat.zero_le _, Nat.zero_le _⟩) (fun H locs hP hS => ?_)
              refine lv_iconst (v := 5) cx.1 cx.2.1 dX7_changeOf_117 (by decide) ?_
              refine lv_aload_n cx.1 cx.2.1 dX7_changeOf_118 rfl (lv_at hl 2 rfl) ?_
              refine zGet (v := .ref (ad 2)) (own := RX7) cx hinX7 hK hP 0 rfl rfl 6 (by decide) (by decide +kernel) rfl rfl dX7_changeOf_119 ?_
              refine lv_iload_n cx.1 cx.2.1 dX7_changeOf_122 rfl (lv_at hl 3 rfl) ?_
              refine zIldN cx hK hP 2 0 rfl rfl (ni) (by omega) (by decide) rfl dX7_changeOf_123 ?_
              refine lv_iconst (v := 1) cx.1 cx.2.1 dX7_changeOf_124 (by decide) ?_
              refine lv_iadd cx.1 cx.2.1 dX7_changeOf_125 ?_
              refine lv_imul cx.1 cx.2.1 dX7_changeOf_126 ?_
              refine lv_icmp_lt (tgt := 144) cx.1 cx.2.1 dX7_changeOf_127 (by decide) (fun c13 => ?_) (fun c13 => ?_)
              · refine lv_iconst (v := 0) cx.1 cx.2.1 dX7_changeOf_144 (by decide) ?_
                exact zRetI cx hrt hlk rfl hS hP ⟨(by unfold f_X7_changeOf; rw [if_pos c1, if_pos c2, if_neg c3, if_pos c9, if_neg c11, if_neg c12, if_pos c13]), rfl⟩ dX7_changeOf_145
              · refine lv_aload_n cx.1 cx.2.1 dX7_changeOf_130 rfl (lv_at hl 2 rfl) ?_
                refine zGet (v := .ref (ad 10)) (own := RX7) cx hinX7 hK hP 0 rfl rfl 14 (by decide) (by decide +kernel) rfl rfl dX7_changeOf_131 ?_
                refine lv_iload_n cx.1 cx.2.1 dX7_changeOf_134 rfl (lv_at hl 3 rfl) ?_
                refine zIldN cx hK hP 10 0 rfl rfl (ni) (by omega) (by decide) rfl dX7_changeOf_135 ?_
                refine lv_iload_n cx.1 cx.2.1 dX7_changeOf_136 rfl (lv_at hl 1 rfl) ?_
                refine lv_icmp_ne (tgt := 144) cx.1 cx.2.1 dX7_changeOf_137 (by decide) (fun c14 => ?_) (fun c14 => ?_)
                · refine lv_iconst (v := 0) cx.1 cx.2.1 dX7_changeOf_144 (by decide) ?_
                  exact zRetI cx hrt hlk rfl hS hP ⟨(by unfold f_X7_changeOf; rw [if_pos c1, if_pos c2, if_neg c3, if_pos c9, if_neg c11, if_neg c12, if_neg c13, if_pos c14]), rfl⟩ dX7_changeOf_145
                · refine lv_iconst (v := 1) cx.1 cx.2.1 dX7_changeOf_140 (by decide) ?_
                  refine lv_goto (tgt := 145) cx.1 cx.2.1 dX7_changeOf_141 (by decide) ?_
                  exact zRetI cx hrt hlk rfl hS hP ⟨(by unfold f_X7_changeOf; rw [if_pos c1, if_pos c2, if_neg c3, if_pos c9, if_neg c11, if_neg c12, if_neg c13, if_neg (not_not_intro c14)]), rfl⟩ dX7_changeOf_145
        · refine lv_iconst (v := 1) cx.1 cx.2.1 dX7_changeOf_83 (by decide) ?_
          refine lv_goto (tgt := 88) cx.1 cx.2.1 dX7_changeOf_84 (by decide) ?_
          refine lv_istore_n (lv' := [(3, .int 1), (2, .int (2 * (S 1 ni))), (0, .ref (ad 0)), (1, .int (nI ni))]) cx.1 cx.2.1 dX7_changeOf_88 rfl hl (by decide) rfl (fun ls hl => ?_)
          refine lv_iload_n cx.1 cx.2.1 dX7_changeOf_89 rfl (lv_at hl 0 rfl) ?_
          refine lv_if_eq (tgt := 95) cx.1 cx.2.1 dX7_changeOf_90 (by decide) (fun c15 => ?_) (fun c15 => ?_)
          · exact absurd c15 (by decide)
          refine lv_iconst (v := (-1)) cx.1 cx.2.1 dX7_changeOf_93 (by decide) ?_
          exact zRetI cx hrt hlk rfl hS hP ⟨(by unfold f_X7_changeOf; rw [if_pos c1, if_pos c2, if_neg c3, if_neg (not_not_intro c9)]), rfl⟩ dX7_changeOf_94
    · refine lv_iconst (v := 2) cx.1 cx.2.1 dX7_changeOf_43 (by decide) ?_
      refine lv_iload_n cx.1 cx.2.1 dX7_changeOf_44 rfl (lv_at hl 0 rfl) ?_
      refine lv_aload_n cx.1 cx.2.1 dX7_changeOf_45 rfl (lv_at hl 1 rfl) ?_
      refine zGet (v := .ref (ad 10)) (own := RX7) cx hinX7 hK hP 0 rfl rfl 14 (by decide) (by decide +kernel) rfl rfl dX7_changeOf_46 ?_
      refine lv_iload_n cx.1 cx.2.1 dX7_changeOf_49 rfl (lv_at hl 2 rfl) ?_
      refine zIldN cx hK hP 10 0 rfl rfl (ni) (by omega) (by decide) rfl dX7_changeOf_50 ?_
      refine lv_isub cx.1 cx.2.1 dX7_changeOf_51 ?_
      refine lv_imul cx.1 cx.2.1 dX7_changeOf_52 ?_
      refine lv_iload_n cx.1 cx.2.1 dX7_changeOf_53 rfl (lv_at hl 0 rfl) ?_
      refine lv_icmp_le (tgt := 61) cx.1 cx.2.1 dX7_changeOf_54 (by decide) (fun c16 => ?_) (fun c16 => ?_)
      · refine lv_iconst (v := 0) cx.1 cx.2.1 dX7_changeOf_61 (by decide) ?_
        refine lv_goto (tgt := 88) cx.1 cx.2.1 dX7_changeOf_62 (by decide) ?_
        refine lv_istore_n (lv' := [(3, .int 0), (2, .int (2 * (S 1 ni))), (0, .ref (ad 0)), (1, .int (nI ni))]) cx.1 cx.2.1 dX7_changeOf_88 rfl hl (by decide) rfl (fun ls hl => ?_)
        refine lv_iload_n cx.1 cx.2.1 dX7_changeOf_89 rfl (lv_at hl 0 rfl) ?_
        refine lv_if_eq (tgt := 95) cx.1 cx.2.1 dX7_changeOf_90 (by decide) (fun c17 => ?_) (fun c17 => ?_)
        rotate_left
        · exact absurd c17 (by decide)
        refine lv_aload_n cx.1 cx.2.1 dX7_changeOf_95 rfl (lv_at hl 2 rfl) ?_
        refine zGet (v := .int (S 13 0)) (own := RX7) cx hinX7 hK hP 0 rfl rfl 0 (by decide) (by decide +kernel) rfl rfl dX7_changeOf_96 ?_
        refine lv_if_lt (tgt := 144) cx.1 cx.2.1 dX7_changeOf_99 (by decide) (fun c18 => ?_) (fun c18 => ?_)
        · refine lv_iconst (v := 0) cx.1 cx.2.1 dX7_changeOf_144 (by decide) ?_
          exact zRetI cx hrt hlk rfl hS hP ⟨(by unfold f_X7_changeOf; rw [if_pos c1, if_neg (not_not_intro c2), if_pos c16, if_pos c18]), rfl⟩ dX7_changeOf_145
        · refine lv_aload_n cx.1 cx.2.1 dX7_changeOf_102 rfl (lv_at hl 2 rfl) ?_
          refine zGet (v := .ref (ad 2)) (own := RX7) cx hinX7 hK hP 0 rfl rfl 6 (by decide) (by decide +kernel) rfl rfl dX7_changeOf_103 ?_
          refine lv_iload_n cx.1 cx.2.1 dX7_changeOf_106 rfl (lv_at hl 3 rfl) ?_
          refine zIldN cx hK hP 2 0 rfl rfl (ni) (by omega) (by decide) rfl dX7_changeOf_107 ?_
          refine lv_iconst (v := 3) cx.1 cx.2.1 dX7_changeOf_108 (by decide) ?_
          refine lv_icmp_ge (tgt := 144) cx.1 cx.2.1 dX7_changeOf_109 (by decide) (fun c19 => ?_) (fun c19 => ?_)
          · refine lv_iconst (v := 0) cx.1 cx.2.1 dX7_changeOf_144 (by decide) ?_
            exact zRetI cx hrt hlk rfl hS hP ⟨(by unfold f_X7_changeOf; rw [if_pos c1, if_neg (not_not_intro c2), if_pos c16, if_neg c18, if_pos c19]), rfl⟩ dX7_changeOf_145
          · refine lv_aload_n cx.1 cx.2.1 dX7_changeOf_112 rfl (lv_at hl 2 rfl) ?_
            refine lv_iload_n cx.1 cx.2.1 dX7_changeOf_113 rfl (lv_at hl 3 rfl) ?_
            refine zThenIx (v := f_X7_valueOf S ni) (S' := S) hS (zRunV (As := [.int (nI ni)]) (rest := []) _ 1 cx (c_X7_valueOf l dC dI cyI cyZ ad hI S ni hni hro) gX7_changeOf_X7_valueOf rfl ⟨rfl, rfl⟩ (by decide +kernel) ⟨Nat.le_of_ble_eq_true rfl, Nat.le_of_ble_eq_true rfl⟩ (zX_true) trivial hK hP hS 0 rfl rfl rfl rfl hl.1 rfl (Nat.le_of_ble_eq_true rfl) dX7_changeOf_114 ⟨Nat.zero_le _, Nat.zero_le _⟩) (fun H locs hP hS => ?_)
            refine lv_iconst (v := 5) cx.1 cx.2.1 dX7_changeOf_117 (by decide) ?_
            refine lv_aload_n cx.1 cx.2.1 dX7_changeOf_118 rfl (lv_at hl 2 rfl) ?_
            refine zGet (v := .ref (ad 2)) (own := RX7) cx hinX7 hK hP 0 rfl rfl 6 (by decide) (by decide +kernel) rfl rfl dX7_changeOf_119 ?_
            refine lv_iload_n cx.1 cx.2.1 dX7_changeOf_122 rfl (lv_at hl 3 rfl) ?_
            refine zIldN cx hK hP 2 0 rfl rfl (ni) (by omega) (by decide) rfl dX7_changeOf_123 ?_
            refine lv_iconst (v := 1) cx.1 cx.2.1 dX7_changeOf_124 (by decide) ?_
            refine lv_iadd cx.1 cx.2.1 dX7_changeOf_125 ?_
            refine lv_imul cx.1 cx.2.1 dX7_changeOf_126 ?_
            refine lv_icmp_lt (tgt := 144) cx.1 cx.2.1 dX7_changeOf_127 (by decide) (fun c20 => ?_) (fun c20 => ?_)
            · refine lv_iconst (v := 0) cx.1 cx.2.1 dX7_changeOf_144 (by decide) ?_
              exact zRetI cx hrt hlk rfl hS hP ⟨(by unfold f_X7_changeOf; rw [if_pos c1, if_neg (not_not_intro c2), if_pos c16, if_neg c18, if_neg c19, if_pos c20]), rfl⟩ dX7_changeOf_145
            · refine lv_aload_n cx.1 cx.2.1 dX7_changeOf_130 rfl (lv_at hl 2 rfl) ?_
              refine zGet (v := .ref (ad 10)) (own := RX7) cx hinX7 hK hP 0 rfl rfl 14 (by decide) (by decide +kernel) rfl rfl dX7_changeOf_131 ?_
              refine lv_iload_n cx.1 cx.2.1 dX7_changeOf_134 rfl (lv_at hl 3 rfl) ?_
              refine zIldN cx hK hP 10 0 rfl rfl (ni) (by omega) (by decide) rfl dX7_changeOf_135 ?_
              refine lv_iload_n cx.1 cx.2.1 dX7_changeOf_136 rfl (lv_at hl 1 rfl) ?_
              refine lv_icmp_ne (tgt := 144) cx.1 cx.2.1 dX7_changeOf_137 (by decide) (fun c21 => ?_) (fun c21 => ?_)
              · refine lv_iconst (v := 0) cx.1 cx.2.1 dX7_changeOf_144 (by decide) ?_
                exact zRetI cx hrt hlk rfl hS hP ⟨(by unfold f_X7_changeOf; rw [if_pos c1, if_neg (not_not_intro c2), if_pos c16, if_neg c18, if_neg c19, if_neg c20, if_pos c21]), rfl⟩ dX7_changeOf_145
              · refine lv_iconst (v := 1) cx.1 cx.2.1 dX7_changeOf_140 (by decide) ?_
                refine lv_goto (tgt := 145) cx.1 cx.2.1 dX7_changeOf_141 (by decide) ?_
                exact zRetI cx hrt hlk rfl hS hP ⟨(by unfold f_X7_changeOf; rw [if_pos c1, if_neg (not_not_intro c2), if_pos c16, if_neg c18, if_neg c19, if_neg c20, if_neg (not_not_intro c21)]), rfl⟩ dX7_changeOf_145
      · refine lv_iconst (v := 1) cx.1 cx.2.1 dX7_changeOf_57 (by decide) ?_
        refine lv_goto (tgt := 88) cx.1 cx.2.1 dX7_changeOf_58 (by decide) ?_
        refine lv_istore_n (lv' := [(3, .int 1), (2, .int (2 * (S 1 ni))), (0, .ref (ad 0)), (1, .int (nI ni))]) cx.1 cx.2.1 dX7_changeOf_88 rfl hl (by decide) rfl (fun ls hl => ?_)
        refine lv_iload_n cx.1 cx.2.1 dX7_changeOf_89 rfl (lv_at hl 0 rfl) ?_
        refine lv_if_eq (tgt := 95) cx.1 cx.2.1 dX7_changeOf_90 (by decide) (fun c22 => ?_) (fun c22 => ?_)
        · exact absurd c22 (by decide)
        refine lv_iconst (v := (-1)) cx.1 cx.2.1 dX7_changeOf_93 (by decide) ?_
        exact zRetI cx hrt hlk rfl hS hP ⟨(by unfold f_X7_changeOf; rw [if_pos c1, if_neg (not_not_intro c2), if_neg c16]), rfl⟩ dX7_changeOf_94
  · refine lv_aload_n cx.1 cx.2.1 dX7_changeOf_9 rfl (lv_at hl 0 rfl) ?_
    refine zGet (v := .ref (ad 2)) (own := RX7) cx hinX7 hK hP 0 rfl rfl 6 (by decide) (by decide +kernel) rfl rfl dX7_changeOf_10 ?_
    refine lv_iload_n cx.1 cx.2.1 dX7_changeOf_13 rfl (lv_at hl 1 rfl) ?_
    refine zIldN cx hK hP 2 0 rfl rfl (ni) (by omega) (by decide) rfl dX7_changeOf_14 ?_
    refine lv_if_le (tgt := 22) cx.1 cx.2.1 dX7_changeOf_15 (by decide) (fun c23 => ?_) (fun c23 => ?_)
    · refine lv_iconst (v := 0) cx.1 cx.2.1 dX7_changeOf_22 (by decide) ?_
      exact zRetI cx hrt hlk rfl hS hP ⟨(by unfold f_X7_changeOf; rw [if_neg (not_not_intro c1), if_pos c23]), rfl⟩ dX7_changeOf_23
    · refine lv_iconst (v := (-1)) cx.1 cx.2.1 dX7_changeOf_18 (by decide) ?_
      refine lv_goto (tgt := 23) cx.1 cx.2.1 dX7_changeOf_19 (by decide) ?_
      exact zRetI cx hrt hlk rfl hS hP ⟨(by unfold f_X7_changeOf; rw [if_neg (not_not_intro c1), if_neg c23]), rfl⟩ dX7_changeOf_23
