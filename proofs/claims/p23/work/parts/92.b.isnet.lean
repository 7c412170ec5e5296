set_option maxHeartbeats 4000000 in
set_option maxRecDepth 100000 in
theorem c_L_isNet0 (l : Launch) (dC : Nat → ClassId) (dI : Nat → Nat → Nat) (cyI cyB : ClassId) (ad : Nat → Nat) (hI : zI ad 39) (S : zS) (F : zS) (hF : LF S F) (nc : Nat) (no : Nat) (hnc : nc < 64) (hno : no < 64) (hr : F 2 nc = -1) : zMi l (dC, dI) (lTys cyI cyB) ad 39 xL (qw cyI ad) yL_isNet wsL_isNet ({ frames := 8, cells := 0, slots := 0, locals := 132 } : Room) [.ref (ad 0), .ref (ad 36), .int (nI nc), .int (nI no)] S (fun v T => v = 1 ∧ T = S) := by
  refine zStartI (by decide) rfl (Nat.le_of_ble_eq_true rfl) ?_
  intro p e s m args below meth c ls cx hrt hlk hP hK hXs hl
  have hl : lv_has ls 11 [(0, .ref (ad 0)), (1, .ref (ad 36)), (2, .int (nI nc)), (3, .int (nI no))] := hl
  have hS : va_S (zA ad 39 s.heap.size) s.heap s.heap [] := va_S.rf
  refine lv_aload_n cx.1 cx.2.1 dL_isNet_0 rfl (lv_at hl 1 rfl) ?_
  refine lv_iload_n cx.1 cx.2.1 dL_isNet_1 rfl (lv_at hl 2 rfl) ?_
  refine zThenIx (v := F 2 nc) (S' := S) hS (zRunS (As := [.ref (ad 36), .int (nI nc)]) (rest := []) _ 2 cx (c_L_road l dC dI cyI cyB ad hI S F hF nc (by omega)) gL_isNet_L_road rfl ⟨rfl, rfl⟩ (by decide +kernel) ⟨Nat.le_of_ble_eq_true rfl, Nat.le_of_ble_eq_true rfl⟩ (xL_X ad 39) hXs hK hP hS rfl hl.1 rfl (Nat.le_of_ble_eq_true rfl) dL_isNet_2 ⟨Nat.zero_le _, Nat.zero_le _⟩) (fun H locs hP hS => ?_)
  rw [hr]
  refine lv_istore (lv' := [(4, .int (-1)), (0, .ref (ad 0)), (1, .ref (ad 36)), (2, .int (nI nc)), (3, .int (nI no))]) cx.1 cx.2.1 dL_isNet_5 hl (by decide) rfl (fun ls hl => ?_)
  refine lv_aload_n cx.1 cx.2.1 dL_isNet_7 rfl (lv_at hl 1 rfl) ?_
  refine lv_iload_n cx.1 cx.2.1 dL_isNet_8 rfl (lv_at hl 3 rfl) ?_
  refine zThenIx (v := F 3 nc) (S' := S) hS (zRunV (As := [.int (nI nc)]) (rest := []) _ 1 cx (bq_X6_net l dC dI cyI cyB ad hI S F hF nc (by omega)) gL_isNet_X6_net rfl ⟨rfl, rfl⟩ (by decide +kernel) ⟨Nat.le_of_ble_eq_true rfl, Nat.le_of_ble_eq_true rfl⟩ (xL_X ad 39) hXs hK hP hS 0 rfl rfl rfl rfl hl.1 rfl (Nat.le_of_ble_eq_true rfl) dL_isNet_9 ⟨Nat.zero_le _, Nat.zero_le _⟩) (fun H locs hP hS => ?_)
  rw [hF.n0 hnc hr]
  refine lv_istore (lv' := [(5, .int (-1)), (4, .int (-1)), (0, .ref (ad 0)), (1, .ref (ad 36)), (2, .int (nI nc)), (3, .int (nI no))]) cx.1 cx.2.1 dL_isNet_12 hl (by decide) rfl (fun ls hl => ?_)
  refine lv_aload_n cx.1 cx.2.1 dL_isNet_14 rfl (lv_at hl 2 rfl) ?_
  refine lv_iload_n cx.1 cx.2.1 dL_isNet_15 rfl (lv_at hl 4 rfl) ?_
  refine lv_iload_n cx.1 cx.2.1 dL_isNet_16 rfl (lv_at hl 5 rfl) ?_
  refine zThenIx (v := mBet F nc no) (S' := S) hS (zRunV (As := [.int (nI nc), .int (nI no)]) (rest := []) _ 2 cx (bq_X6_steps l dC dI cyI cyB ad hI S F hF nc (by omega) no (by omega)) gL_isNet_X6_steps rfl ⟨rfl, rfl⟩ (by decide +kernel) ⟨Nat.le_of_ble_eq_true rfl, Nat.le_of_ble_eq_true rfl⟩ (xL_X ad 39) hXs hK hP hS 0 rfl rfl rfl rfl hl.1 rfl (Nat.le_of_ble_eq_true rfl) dL_isNet_17 ⟨Nat.zero_le _, Nat.zero_le _⟩) (fun H locs hP hS => ?_)
  rw [mBet_0 hr]
  refine lv_istore (lv' := [(6, .int (-1)), (5, .int (-1)), (4, .int (-1)), (0, .ref (ad 0)), (1, .ref (ad 36)), (2, .int (nI nc)), (3, .int (nI no))]) cx.1 cx.2.1 dL_isNet_20 hl (by decide) rfl (fun ls hl => ?_)
  refine lv_iload cx.1 cx.2.1 dL_isNet_22 (lv_at hl 2 rfl) ?_
  refine lv_if_ge (tgt := 61) cx.1 cx.2.1 dL_isNet_24 (by decide) (fun c1 => ?_) (fun c1 => ?_)
  · exact absurd c1 (by decide)
  refine lv_iload cx.1 cx.2.1 dL_isNet_27 (lv_at hl 1 rfl) ?_
  refine lv_iconst (v := (-1)) cx.1 cx.2.1 dL_isNet_29 (by decide) ?_
  refine lv_icmp_ne (tgt := 59) cx.1 cx.2.1 dL_isNet_30 (by decide) (fun c2 => ?_) (fun c2 => ?_)
  · exact absurd c2 (by decide)
  refine lv_iload cx.1 cx.2.1 dL_isNet_33 (lv_at hl 0 rfl) ?_
  refine lv_iconst (v := (-1)) cx.1 cx.2.1 dL_isNet_35 (by decide) ?_
  refine lv_icmp_ne (tgt := 59) cx.1 cx.2.1 dL_isNet_36 (by decide) (fun c3 => ?_) (fun c3 => ?_)
  · exact absurd c3 (by decide)
  refine lv_aload_n cx.1 cx.2.1 dL_isNet_39 rfl (lv_at hl 3 rfl) ?_
  refine lv_iload_n cx.1 cx.2.1 dL_isNet_40 rfl (lv_at hl 5 rfl) ?_
  refine zThenIx (v := pwl F nc) (S' := S) hS (zRunV (As := [.int (nI nc)]) (rest := []) _ 1 cx (bq_X6_powerLeft l dC dI cyI cyB ad hI S F hF nc (by omega)) gL_isNet_X6_powerLeft rfl ⟨rfl, rfl⟩ (by decide +kernel) ⟨Nat.le_of_ble_eq_true rfl, Nat.le_of_ble_eq_true rfl⟩ (xL_X ad 39) hXs hK hP hS 0 rfl rfl rfl rfl hl.1 rfl (Nat.le_of_ble_eq_true rfl) dL_isNet_41 ⟨Nat.zero_le _, Nat.zero_le _⟩) (fun H locs hP hS => ?_)
  rw [pwl_0 (hF.n0 hnc hr)]
  refine lv_if_ne (tgt := 59) cx.1 cx.2.1 dL_isNet_44 (by decide) (fun c4 => ?_) (fun c4 => ?_)
  · exact absurd c4 (by decide)
  refine lv_aload_n cx.1 cx.2.1 dL_isNet_47 rfl (lv_at hl 3 rfl) ?_
  refine lv_iload_n cx.1 cx.2.1 dL_isNet_48 rfl (lv_at hl 5 rfl) ?_
  refine zThenIx (v := F 8 nc) (S' := S) hS (zRunV (As := [.int (nI nc)]) (rest := []) _ 1 cx (bq_X6_isServed l dC dI cyI cyB ad hI S F hF nc (by omega)) gL_isNet_X6_isServed rfl ⟨rfl, rfl⟩ (by decide +kernel) ⟨Nat.le_of_ble_eq_true rfl, Nat.le_of_ble_eq_true rfl⟩ (xL_X ad 39) hXs hK hP hS 0 rfl rfl rfl rfl hl.1 rfl (Nat.le_of_ble_eq_true rfl) dL_isNet_49 ⟨Nat.zero_le _, Nat.zero_le _⟩) (fun H locs hP hS => ?_)
  rw [hF.u0 hnc (hF.n0 hnc hr)]
  refine lv_if_ne (tgt := 59) cx.1 cx.2.1 dL_isNet_52 (by decide) (fun c5 => ?_) (fun c5 => ?_)
  · exact absurd c5 (by decide)
  refine lv_iconst (v := 1) cx.1 cx.2.1 dL_isNet_55 (by decide) ?_
  refine lv_goto (tgt := 60) cx.1 cx.2.1 dL_isNet_56 (by decide) ?_
  exact zRetI cx hrt hlk (by first | rfl | decide) hS hP ⟨rfl, rfl⟩ dL_isNet_60
set_option maxHeartbeats 4000000 in
set_option maxRecDepth 100000 in
theorem c_L_isNet1 (l : Launch) (dC : Nat → ClassId) (dI : Nat → Nat → Nat) (cyI cyB : ClassId) (ad : Nat → Nat) (hI : zI ad 39) (S : zS) (F : zS) (hF : LF S F) (w : Nat) (u : Nat) (nc : Nat) (no : Nat) (hnc : nc < 64) (hno : no < 64) (hw : w < 64) (hu : u < 64) (hr : F 2 nc = nI w) (kw : S 20 w = 1) (hn : F 3 nc = nI u) : zMi l (dC, dI) (lTys cyI cyB) ad 39 xL (qw cyI ad) yL_isNet wsL_isNet ({ frames := 8, cells := 0, slots := 0, locals := 132 } : Room) [.ref (ad 0), .ref (ad 36), .int (nI nc), .int (nI no)] S (fun v T => v = 1 ∧ T = S) := by
  refine zStartI (by decide) rfl (Nat.le_of_ble_eq_true rfl) ?_
  intro p e s m args below meth c ls cx hrt hlk hP hK hXs hl
  have hl : lv_has ls 11 [(0, .ref (ad 0)), (1, .ref (ad 36)), (2, .int (nI nc)), (3, .int (nI no))] := hl
  have hS : va_S (zA ad 39 s.heap.size) s.heap s.heap [] := va_S.rf
  obtain ⟨Q, hQ⟩ : ∃ Q, Q = MQ below (zQi (dC, dI) (qw cyI ad) (fun v T => v = 1 ∧ T = S) (zA ad 39 s.heap.size)) args s 0 0 (zA ad 39 s.heap.size) := ⟨_, rfl⟩
  rw [← hQ]
  obtain ⟨huw, ku, hnw, hnu, hsw, hsu⟩ := net_own hF hnc hw hr kw hu hn
  refine lv_aload_n cx.1 cx.2.1 dL_isNet_0 rfl (lv_at hl 1 rfl) ?_
  refine lv_iload_n cx.1 cx.2.1 dL_isNet_1 rfl (lv_at hl 2 rfl) ?_
  refine zThenIx (v := F 2 nc) (S' := S) hS (zRunS (As := [.ref (ad 36), .int (nI nc)]) (rest := []) _ 2 cx (c_L_road l dC dI cyI cyB ad hI S F hF nc (by omega)) gL_isNet_L_road rfl ⟨rfl, rfl⟩ (by decide +kernel) ⟨Nat.le_of_ble_eq_true rfl, Nat.le_of_ble_eq_true rfl⟩ (xL_X ad 39) hXs hK hP hS rfl hl.1 rfl (Nat.le_of_ble_eq_true rfl) dL_isNet_2 ⟨Nat.zero_le _, Nat.zero_le _⟩) (fun H locs hP hS => ?_)
  rw [hr]
  refine lv_istore (lv' := [(4, .int (nI w)), (0, .ref (ad 0)), (1, .ref (ad 36)), (2, .int (nI nc)), (3, .int (nI no))]) cx.1 cx.2.1 dL_isNet_5 hl (by decide) rfl (fun ls hl => ?_)
  refine lv_aload_n cx.1 cx.2.1 dL_isNet_7 rfl (lv_at hl 1 rfl) ?_
  refine lv_iload_n cx.1 cx.2.1 dL_isNet_8 rfl (lv_at hl 3 rfl) ?_
  refine zThenIx (v := F 3 nc) (S' := S) hS (zRunV (As := [.int (nI nc)]) (rest := []) _ 1 cx (bq_X6_net l dC dI cyI cyB ad hI S F hF nc (by omega)) gL_isNet_X6_net rfl ⟨rfl, rfl⟩ (by decide +kernel) ⟨Nat.le_of_ble_eq_true rfl, Nat.le_of_ble_eq_true rfl⟩ (xL_X ad 39) hXs hK hP hS 0 rfl rfl rfl rfl hl.1 rfl (Nat.le_of_ble_eq_true rfl) dL_isNet_9 ⟨Nat.zero_le _, Nat.zero_le _⟩) (fun H locs hP hS => ?_)
  rw [hn]
  refine lv_istore (lv' := [(5, .int (nI u)), (4, .int (nI w)), (0, .ref (ad 0)), (1, .ref (ad 36)), (2, .int (nI nc)), (3, .int (nI no))]) cx.1 cx.2.1 dL_isNet_12 hl (by decide) rfl (fun ls hl => ?_)
  refine lv_aload_n cx.1 cx.2.1 dL_isNet_14 rfl (lv_at hl 2 rfl) ?_
  refine lv_iload_n cx.1 cx.2.1 dL_isNet_15 rfl (lv_at hl 4 rfl) ?_
  refine lv_iload_n cx.1 cx.2.1 dL_isNet_16 rfl (lv_at hl 5 rfl) ?_
  refine zThenIx (v := mBet F nc no) (S' := S) hS (zRunV (As := [.int (nI nc), .int (nI no)]) (rest := []) _ 2 cx (bq_X6_steps l dC dI cyI cyB ad hI S F hF nc (by omega) no (by omega)) gL_isNet_X6_steps rfl ⟨rfl, rfl⟩ (by decide +kernel) ⟨Nat.le_of_ble_eq_true rfl, Nat.le_of_ble_eq_true rfl⟩ (xL_X ad 39) hXs hK hP hS 0 rfl rfl rfl rfl hl.1 rfl (Nat.le_of_ble_eq_true rfl) dL_isNet_17 ⟨Nat.zero_le _, Nat.zero_le _⟩) (fun H locs hP hS => ?_)
  refine lv_istore (lv' := [(6, .int (mBet F nc no)), (5, .int (nI u)), (4, .int (nI w)), (0, .ref (ad 0)), (1, .ref (ad 36)), (2, .int (nI nc)), (3, .int (nI no))]) cx.1 cx.2.1 dL_isNet_20 hl (by decide) rfl (fun ls hl => ?_)
  refine lv_iload cx.1 cx.2.1 dL_isNet_22 (lv_at hl 2 rfl) ?_
  refine lv_if_ge (tgt := 61) cx.1 cx.2.1 dL_isNet_24 (by decide) (fun c1 => ?_) (fun c1 => ?_)
  · have nc1 : 0 ≤ w := (nI_leI (a := 0) (b := w) (by first | decide | omega) (by first | decide | omega)).mp c1
    refine lv_iload cx.1 cx.2.1 dL_isNet_61 (lv_at hl 1 rfl) ?_
    refine lv_if_lt (tgt := 167) cx.1 cx.2.1 dL_isNet_63 (by decide) (fun c2 => ?_) (fun c2 => ?_)
    · have nc2 : u < 0 := (nI_ltI (a := u) (b := 0) (by first | decide | omega) (by first | decide | omega)).mp c2
      exact absurd nc2 (Nat.not_lt_zero _)
    · have nc2 : ¬ u < 0 := fun z => c2 ((nI_ltI (a := u) (b := 0) (by first | decide | omega) (by first | decide | omega)).mpr z)
      refine lv_iload cx.1 cx.2.1 dL_isNet_66 (lv_at hl 1 rfl) ?_
      refine lv_iload cx.1 cx.2.1 dL_isNet_68 (lv_at hl 2 rfl) ?_
      refine lv_icmp_gt (tgt := 167) cx.1 cx.2.1 dL_isNet_70 (by decide) (fun c3 => ?_) (fun c3 => ?_)
      · have nc3 : w < u := (nI_ltI (a := w) (b := u) (by first | decide | omega) (by first | decide | omega)).mp c3
        exact absurd nc3 (by omega)
      · have nc3 : ¬ w < u := fun z => c3 ((nI_ltI (a := w) (b := u) (by first | decide | omega) (by first | decide | omega)).mpr z)
        refine lv_aload_n cx.1 cx.2.1 dL_isNet_73 rfl (lv_at hl 4 rfl) ?_
        refine lv_iload cx.1 cx.2.1 dL_isNet_74 (lv_at hl 1 rfl) ?_
        refine zIldN cx hK hP 36 0 rfl rfl (u) (by omega) (by decide) rfl dL_isNet_76 ?_
        refine lv_iconst (v := 1) cx.1 cx.2.1 dL_isNet_77 (by decide) ?_
        refine lv_icmp_ne (tgt := 167) cx.1 cx.2.1 dL_isNet_78 (by decide) (fun c4 => ?_) (fun c4 => ?_)
        · exact absurd ku c4
        · refine lv_aload_n cx.1 cx.2.1 dL_isNet_81 rfl (lv_at hl 3 rfl) ?_
          refine lv_iload cx.1 cx.2.1 dL_isNet_82 (lv_at hl 2 rfl) ?_
          refine zThenIx (v := F 3 w) (S' := S) hS (zRunV (As := [.int (nI w)]) (rest := []) _ 1 cx (bq_X6_net l dC dI cyI cyB ad hI S F hF w (by omega)) gL_isNet_X6_net rfl ⟨rfl, rfl⟩ (by decide +kernel) ⟨Nat.le_of_ble_eq_true rfl, Nat.le_of_ble_eq_true rfl⟩ (xL_X ad 39) hXs hK hP hS 0 rfl rfl rfl rfl hl.1 rfl (Nat.le_of_ble_eq_true rfl) dL_isNet_84 ⟨Nat.zero_le _, Nat.zero_le _⟩) (fun H locs hP hS => ?_)
          refine lv_iload cx.1 cx.2.1 dL_isNet_87 (lv_at hl 1 rfl) ?_
          refine lv_icmp_ne (tgt := 167) cx.1 cx.2.1 dL_isNet_89 (by decide) (fun c5 => ?_) (fun c5 => ?_)
          · exact absurd hnw c5
          · refine lv_aload_n cx.1 cx.2.1 dL_isNet_92 rfl (lv_at hl 3 rfl) ?_
            refine lv_iload cx.1 cx.2.1 dL_isNet_93 (lv_at hl 1 rfl) ?_
            refine zThenIx (v := F 3 u) (S' := S) hS (zRunV (As := [.int (nI u)]) (rest := []) _ 1 cx (bq_X6_net l dC dI cyI cyB ad hI S F hF u (by omega)) gL_isNet_X6_net rfl ⟨rfl, rfl⟩ (by decide +kernel) ⟨Nat.le_of_ble_eq_true rfl, Nat.le_of_ble_eq_true rfl⟩ (xL_X ad 39) hXs hK hP hS 0 rfl rfl rfl rfl hl.1 rfl (Nat.le_of_ble_eq_true rfl) dL_isNet_95 ⟨Nat.zero_le _, Nat.zero_le _⟩) (fun H locs hP hS => ?_)
            refine lv_iload cx.1 cx.2.1 dL_isNet_98 (lv_at hl 1 rfl) ?_
            refine lv_icmp_ne (tgt := 167) cx.1 cx.2.1 dL_isNet_100 (by decide) (fun c6 => ?_) (fun c6 => ?_)
            · exact absurd hnu c6
            · refine lv_aload_n cx.1 cx.2.1 dL_isNet_103 rfl (lv_at hl 3 rfl) ?_
              refine lv_iload_n cx.1 cx.2.1 dL_isNet_104 rfl (lv_at hl 5 rfl) ?_
              refine lv_iload cx.1 cx.2.1 dL_isNet_105 (lv_at hl 2 rfl) ?_
              refine zThenIx (v := mBet F nc w) (S' := S) hS (zRunV (As := [.int (nI nc), .int (nI w)]) (rest := []) _ 2 cx (bq_X6_steps l dC dI cyI cyB ad hI S F hF nc (by omega) w (by omega)) gL_isNet_X6_steps rfl ⟨rfl, rfl⟩ (by decide +kernel) ⟨Nat.le_of_ble_eq_true rfl, Nat.le_of_ble_eq_true rfl⟩ (xL_X ad 39) hXs hK hP hS 0 rfl rfl rfl rfl hl.1 rfl (Nat.le_of_ble_eq_true rfl) dL_isNet_107 ⟨Nat.zero_le _, Nat.zero_le _⟩) (fun H locs hP hS => ?_)
              refine lv_if_ne (tgt := 167) cx.1 cx.2.1 dL_isNet_110 (by decide) (fun c7 => ?_) (fun c7 => ?_)
              · exact absurd hsw c7
              · refine lv_aload_n cx.1 cx.2.1 dL_isNet_113 rfl (lv_at hl 3 rfl) ?_
                refine lv_iload cx.1 cx.2.1 dL_isNet_114 (lv_at hl 2 rfl) ?_
                refine lv_iload cx.1 cx.2.1 dL_isNet_116 (lv_at hl 1 rfl) ?_
                refine zThenIx (v := mBet F w u) (S' := S) hS (zRunV (As := [.int (nI w), .int (nI u)]) (rest := []) _ 2 cx (bq_X6_steps l dC dI cyI cyB ad hI S F hF w (by omega) u (by omega)) gL_isNet_X6_steps rfl ⟨rfl, rfl⟩ (by decide +kernel) ⟨Nat.le_of_ble_eq_true rfl, Nat.le_of_ble_eq_true rfl⟩ (xL_X ad 39) hXs hK hP hS 0 rfl rfl rfl rfl hl.1 rfl (Nat.le_of_ble_eq_true rfl) dL_isNet_118 ⟨Nat.zero_le _, Nat.zero_le _⟩) (fun H locs hP hS => ?_)
                refine lv_if_lt (tgt := 167) cx.1 cx.2.1 dL_isNet_121 (by decide) (fun c8 => ?_) (fun c8 => ?_)
                · exact absurd c8 hsu
                · have j134 : ∀ (v : Int32) (H : Heap) (locs : List Loc), v = (if (mBet F nc no) < 0 then 0 else 1 : Int32) → va_P (dC, dI) vwCl (qw cyI ad S) H → va_S (zA ad 39 s.heap.size) s.heap H locs → W p l e (headSpec wsL_isNet ({ frames := 8, cells := 0, slots := 0, locals := 132 } : Room)).room s m args below meth c H locs 0 0 Q (F0 m 134 ls (.int v :: [])) := by
                    intro v H locs hv hP hS
                    subst hv
                    have j149 : ∀ (v : Int32) (H : Heap) (locs : List Loc), v = (if ¬ (F 3 no) = (nI u) then 0 else 1 : Int32) → va_P (dC, dI) vwCl (qw cyI ad S) H → va_S (zA ad 39 s.heap.size) s.heap H locs → W p l e (headSpec wsL_isNet ({ frames := 8, cells := 0, slots := 0, locals := 132 } : Room)).room s m args below meth c H locs 0 0 Q (F0 m 149 ls (.int v :: [.int (if (mBet F nc no) < 0 then 0 else 1 : Int32)])) := by
                      intro v H locs hv hP hS
                      subst hv
                      refine lv_icmp_ne (tgt := 167) cx.1 cx.2.1 dL_isNet_149 (by decide) (fun c11 => ?_) (fun c11 => ?_)
                      · exact absurd (net_same hF hnc hno hw hr kw hu hn) c11
                      · refine lv_iload cx.1 cx.2.1 dL_isNet_152 (lv_at hl 0 rfl) ?_
                        refine lv_aload_n cx.1 cx.2.1 dL_isNet_154 rfl (lv_at hl 3 rfl) ?_
                        refine lv_iload_n cx.1 cx.2.1 dL_isNet_155 rfl (lv_at hl 6 rfl) ?_
                        refine lv_iload_n cx.1 cx.2.1 dL_isNet_156 rfl (lv_at hl 5 rfl) ?_
                        refine zThenIx (v := mBet F no nc) (S' := S) hS (zRunV (As := [.int (nI no), .int (nI nc)]) (rest := [.int (mBet F nc no)]) _ 2 cx (bq_X6_steps l dC dI cyI cyB ad hI S F hF no (by omega) nc (by omega)) gL_isNet_X6_steps rfl ⟨rfl, rfl⟩ (by decide +kernel) ⟨Nat.le_of_ble_eq_true rfl, Nat.le_of_ble_eq_true rfl⟩ (xL_X ad 39) hXs hK hP hS 0 rfl rfl rfl rfl hl.1 rfl (Nat.le_of_ble_eq_true rfl) dL_isNet_157 ⟨Nat.zero_le _, Nat.zero_le _⟩) (fun H locs hP hS => ?_)
                        refine lv_icmp_ne (tgt := 167) cx.1 cx.2.1 dL_isNet_160 (by decide) (fun c12 => ?_) (fun c12 => ?_)
                        · exact absurd (mBet_symm hF hnc hno) c12
                        · refine lv_iconst (v := 1) cx.1 cx.2.1 dL_isNet_163 (by decide) ?_
                          refine lv_goto (tgt := 168) cx.1 cx.2.1 dL_isNet_164 (by decide) ?_
                          refine lv_istore (lv' := [(7, .int 1), (6, .int (mBet F nc no)), (5, .int (nI u)), (4, .int (nI w)), (0, .ref (ad 0)), (1, .ref (ad 36)), (2, .int (nI nc)), (3, .int (nI no))]) cx.1 cx.2.1 dL_isNet_168 hl (by decide) rfl (fun ls hl => ?_)
                          refine lv_iconst (v := 0) cx.1 cx.2.1 dL_isNet_170 (by decide) ?_
                          refine lv_istore (lv' := [(8, .int 0), (7, .int 1), (6, .int (mBet F nc no)), (5, .int (nI u)), (4, .int (nI w)), (0, .ref (ad 0)), (1, .ref (ad 36)), (2, .int (nI nc)), (3, .int (nI no))]) cx.1 cx.2.1 dL_isNet_171 hl (by decide) rfl (fun ls hl => ?_)
                          refine lv_iconst (v := 0) cx.1 cx.2.1 dL_isNet_173 (by decide) ?_
                          refine lv_istore (lv' := [(9, .int 0), (8, .int 0), (7, .int 1), (6, .int (mBet F nc no)), (5, .int (nI u)), (4, .int (nI w)), (0, .ref (ad 0)), (1, .ref (ad 36)), (2, .int (nI nc)), (3, .int (nI no))]) cx.1 cx.2.1 dL_isNet_174 hl (by decide) rfl (fun ls hl => ?_)
                          have lp176 : ∀ (fu i : Nat) (near : Int32) (hi176 : i ≤ 64) (hacc176 : lp_L_isNet_176 S F nc no w u 0 i = near)  (_ : 64 - i < fu) (H : Heap) (locs : List Loc) (ls : Array Slot), va_P (dC, dI) vwCl (qw cyI ad S) H → va_S (zA ad 39 s.heap.size) s.heap H locs → lv_has ls 11 [(9, .int (nI i)), (8, .int near), (7, .int 1), (6, .int (mBet F nc no)), (5, .int (nI u)), (4, .int (nI w)), (0, .ref (ad 0)), (1, .ref (ad 36)), (2, .int (nI nc)), (3, .int (nI no))] → W p l e (headSpec wsL_isNet ({ frames := 8, cells := 0, slots := 0, locals := 132 } : Room)).room s m args below meth c H locs 0 0 Q (F0 m 176 ls []) := by
                            intro fu
                            induction fu with
                            | zero => intro i near hi176 hacc176  hm; exact absurd hm (Nat.not_lt_zero _)
                            | succ fu ih176 =>
                              intro i near hi176 hacc176  hm H locs ls hP hS hl
                              refine lv_iload cx.1 cx.2.1 dL_isNet_176 (lv_at hl 0 rfl) ?_
                              refine lv_bipush (v := 64) cx.1 cx.2.1 dL_isNet_178 (by decide) ?_
                              refine lv_icmp_ge (tgt := 290) cx.1 cx.2.1 dL_isNet_180 (by decide) (fun c13 => ?_) (fun c13 => ?_)
                              · have nc13 : 64 ≤ i := (nI_leI (a := 64) (b := i) (by first | decide | omega) (by first | decide | omega)).mp c13
                                obtain rfl : i = 64 := by omega
                                have hz0 : (lp_L_isNet_176 S F nc no w u 0 64) = near := hacc176
                                obtain ⟨N1, hN1⟩ : ∃ Z : Int32, (lp_L_isNet_176 S F nc no w u 0 64) = Z := ⟨_, rfl⟩
                                rw [hN1] at hz0
                                subst hz0
                                refine lv_iload cx.1 cx.2.1 dL_isNet_290 (lv_at hl 2 rfl) ?_
                                refine lv_if_eq (tgt := 310) cx.1 cx.2.1 dL_isNet_292 (by decide) (fun c24 => ?_) (fun c24 => ?_)
                                · exact absurd c24 (by decide)
                                refine lv_iload cx.1 cx.2.1 dL_isNet_295 (lv_at hl 3 rfl) ?_
                                refine lv_iconst (v := 1) cx.1 cx.2.1 dL_isNet_297 (by decide) ?_
                                refine lv_icmp_lt (tgt := 306) cx.1 cx.2.1 dL_isNet_298 (by decide) (fun c25 => ?_) (fun c25 => ?_)
                                · refine lv_iconst (v := 1) cx.1 cx.2.1 dL_isNet_306 (by decide) ?_
                                  refine lv_goto (tgt := 311) cx.1 cx.2.1 dL_isNet_307 (by decide) ?_
                                  rw [hQ]
                                  exact zRetI cx hrt hlk (by first | rfl | decide) hS hP ⟨rfl, rfl⟩ dL_isNet_311
                                · have hst := c25
                                  refine lv_iload cx.1 cx.2.1 dL_isNet_301 (lv_at hl 1 rfl) ?_
                                  refine lv_if_le (tgt := 310) cx.1 cx.2.1 dL_isNet_303 (by decide) (fun c26 => ?_) (fun c26 => ?_)
                                  · exact absurd c26 (near_pos hF hnc hno hw hr kw hst hN1)
                                  · refine lv_iconst (v := 1) cx.1 cx.2.1 dL_isNet_306 (by decide) ?_
                                    refine lv_goto (tgt := 311) cx.1 cx.2.1 dL_isNet_307 (by decide) ?_
                                    rw [hQ]
                                    exact zRetI cx hrt hlk (by first | rfl | decide) hS hP ⟨rfl, rfl⟩ dL_isNet_311
                              · have nc13 : ¬ 64 ≤ i := fun z => c13 ((nI_leI (a := 64) (b := i) (by first | decide | omega) (by first | decide | omega)).mpr z)
                                refine lv_iload cx.1 cx.2.1 dL_isNet_183 (lv_at hl 2 rfl) ?_
                                refine lv_if_eq (tgt := 290) cx.1 cx.2.1 dL_isNet_185 (by decide) (fun c14 => ?_) (fun c14 => ?_)
                                · exact absurd c14 (by decide)
                                refine lv_aload_n cx.1 cx.2.1 dL_isNet_188 rfl (lv_at hl 7 rfl) ?_
                                refine lv_iload cx.1 cx.2.1 dL_isNet_189 (lv_at hl 0 rfl) ?_
                                refine zIldN cx hK hP 36 0 rfl rfl (i) (by omega) (by decide) rfl dL_isNet_191 ?_
                                refine lv_iconst (v := 1) cx.1 cx.2.1 dL_isNet_192 (by decide) ?_
                                refine lv_icmp_ne (tgt := 284) cx.1 cx.2.1 dL_isNet_193 (by decide) (fun c15 => ?_) (fun c15 => ?_)
                                · refine lv_iinc (v := nI (i + 1)) (lv' := [(9, .int (nI (i + 1))), (8, .int near), (7, .int 1), (6, .int (mBet F nc no)), (5, .int (nI u)), (4, .int (nI w)), (0, .ref (ad 0)), (1, .ref (ad 36)), (2, .int (nI nc)), (3, .int (nI no))]) cx.1 cx.2.1 dL_isNet_284 hl (k := 0) rfl (nI_1 i) (by decide) rfl (fun ls hl => ?_)
                                  refine lv_goto (tgt := 176) cx.1 cx.2.1 dL_isNet_287 (by decide) ?_
                                  have ha176 : lp_L_isNet_176 S F nc no w u 0 (i + 1) = near := by
                                    show bd_L_isNet_176 S F nc no w u i (lp_L_isNet_176 S F nc no w u 0 i) = _
                                    rw [hacc176]
                                    unfold bd_L_isNet_176
                                    rw [if_pos c15]
                                  exact ih176 (i + 1) near (by omega) ha176  (by omega) _ _ ls hP hS (lv_sub hl [0, 1, 2, 3, 4, 5, 6, 7, 8, 9] rfl)
                                · have ki : S 20 i = 1 := c15
                                  refine lv_iload cx.1 cx.2.1 dL_isNet_196 (lv_at hl 0 rfl) ?_
                                  refine lv_iload cx.1 cx.2.1 dL_isNet_198 (lv_at hl 5 rfl) ?_
                                  refine zThenIx (v := f_L_areBeside (nI i) (nI w)) (S' := S) hS (zRunS (As := [.int (nI i), .int (nI w)]) (rest := []) _ 2 cx (c_L_areBeside l dC dI cyI cyB ad hI S (nI i) (nI w)) gL_isNet_L_areBeside rfl ⟨rfl, rfl⟩ (by decide +kernel) ⟨Nat.le_of_ble_eq_true rfl, Nat.le_of_ble_eq_true rfl⟩ (xL_X ad 39) hXs hK hP hS rfl hl.1 rfl (Nat.le_of_ble_eq_true rfl) dL_isNet_200 ⟨Nat.zero_le _, Nat.zero_le _⟩) (fun H locs hP hS => ?_)
                                  refine lv_if_eq (tgt := 284) cx.1 cx.2.1 dL_isNet_203 (by decide) (fun c16 => ?_) (fun c16 => ?_)
                                  · refine lv_iinc (v := nI (i + 1)) (lv' := [(9, .int (nI (i + 1))), (8, .int near), (7, .int 1), (6, .int (mBet F nc no)), (5, .int (nI u)), (4, .int (nI w)), (0, .ref (ad 0)), (1, .ref (ad 36)), (2, .int (nI nc)), (3, .int (nI no))]) cx.1 cx.2.1 dL_isNet_284 hl (k := 0) rfl (nI_1 i) (by decide) rfl (fun ls hl => ?_)
                                    refine lv_goto (tgt := 176) cx.1 cx.2.1 dL_isNet_287 (by decide) ?_
                                    have ha176 : lp_L_isNet_176 S F nc no w u 0 (i + 1) = near := by
                                      show bd_L_isNet_176 S F nc no w u i (lp_L_isNet_176 S F nc no w u 0 i) = _
                                      rw [hacc176]
                                      unfold bd_L_isNet_176
                                      rw [if_neg (not_not_intro c15), if_pos c16]
                                    exact ih176 (i + 1) near (by omega) ha176  (by omega) _ _ ls hP hS (lv_sub hl [0, 1, 2, 3, 4, 5, 6, 7, 8, 9] rfl)
                                  · have hbs := c16
                                    refine lv_aload_n cx.1 cx.2.1 dL_isNet_206 rfl (lv_at hl 6 rfl) ?_
                                    refine lv_iload cx.1 cx.2.1 dL_isNet_207 (lv_at hl 0 rfl) ?_
                                    refine lv_iload_n cx.1 cx.2.1 dL_isNet_209 rfl (lv_at hl 9 rfl) ?_
                                    refine zThenIx (v := mBet F i no) (S' := S) hS (zRunV (As := [.int (nI i), .int (nI no)]) (rest := []) _ 2 cx (bq_X6_steps l dC dI cyI cyB ad hI S F hF i (by omega) no (by omega)) gL_isNet_X6_steps rfl ⟨rfl, rfl⟩ (by decide +kernel) ⟨Nat.le_of_ble_eq_true rfl, Nat.le_of_ble_eq_true rfl⟩ (xL_X ad 39) hXs hK hP hS 0 rfl rfl rfl rfl hl.1 rfl (Nat.le_of_ble_eq_true rfl) dL_isNet_210 ⟨Nat.zero_le _, Nat.zero_le _⟩) (fun H locs hP hS => ?_)
                                    refine lv_istore (lv' := [(10, .int (mBet F i no)), (9, .int (nI i)), (8, .int near), (7, .int 1), (6, .int (mBet F nc no)), (5, .int (nI u)), (4, .int (nI w)), (0, .ref (ad 0)), (1, .ref (ad 36)), (2, .int (nI nc)), (3, .int (nI no))]) cx.1 cx.2.1 dL_isNet_213 hl (by decide) rfl (fun ls hl => ?_)
                                    refine lv_aload_n cx.1 cx.2.1 dL_isNet_215 rfl (lv_at hl 7 rfl) ?_
                                    refine lv_iload cx.1 cx.2.1 dL_isNet_216 (lv_at hl 1 rfl) ?_
                                    refine zThenIx (v := F 3 i) (S' := S) hS (zRunV (As := [.int (nI i)]) (rest := []) _ 1 cx (bq_X6_net l dC dI cyI cyB ad hI S F hF i (by omega)) gL_isNet_X6_net rfl ⟨rfl, rfl⟩ (by decide +kernel) ⟨Nat.le_of_ble_eq_true rfl, Nat.le_of_ble_eq_true rfl⟩ (xL_X ad 39) hXs hK hP hS 0 rfl rfl rfl rfl hl.1 rfl (Nat.le_of_ble_eq_true rfl) dL_isNet_218 ⟨Nat.zero_le _, Nat.zero_le _⟩) (fun H locs hP hS => ?_)
                                    refine lv_iload cx.1 cx.2.1 dL_isNet_221 (lv_at hl 5 rfl) ?_
                                    refine lv_icmp_ne (tgt := 262) cx.1 cx.2.1 dL_isNet_223 (by decide) (fun c17 => ?_) (fun c17 => ?_)
                                    · exact absurd (net_near hF hnc hw hr kw hn (show i < 64 by omega) ki hbs) c17
                                    · refine lv_iload cx.1 cx.2.1 dL_isNet_226 (lv_at hl 4 rfl) ?_
                                      refine lv_if_ge (tgt := 240) cx.1 cx.2.1 dL_isNet_228 (by decide) (fun c18 => ?_) (fun c18 => ?_)
                                      · have hge := c18
                                        refine lv_iload cx.1 cx.2.1 dL_isNet_240 (lv_at hl 0 rfl) ?_
                                        refine lv_iload cx.1 cx.2.1 dL_isNet_242 (lv_at hl 4 rfl) ?_
                                        refine lv_isub cx.1 cx.2.1 dL_isNet_244 ?_
                                        refine lv_iconst (v := 1) cx.1 cx.2.1 dL_isNet_245 (by decide) ?_
                                        refine lv_icmp_gt (tgt := 262) cx.1 cx.2.1 dL_isNet_246 (by decide) (fun c19 => ?_) (fun c19 => ?_)
                                        · exact absurd c19 (far_1 hF hno hnc hw hr kw (show i < 64 by omega) ki hbs hge).1
                                        · refine lv_iload cx.1 cx.2.1 dL_isNet_249 (lv_at hl 4 rfl) ?_
                                          refine lv_iload cx.1 cx.2.1 dL_isNet_251 (lv_at hl 0 rfl) ?_
                                          refine lv_isub cx.1 cx.2.1 dL_isNet_253 ?_
                                          refine lv_iconst (v := 1) cx.1 cx.2.1 dL_isNet_254 (by decide) ?_
                                          refine lv_icmp_gt (tgt := 262) cx.1 cx.2.1 dL_isNet_255 (by decide) (fun c20 => ?_) (fun c20 => ?_)
                                          · exact absurd c20 (far_1 hF hno hnc hw hr kw (show i < 64 by omega) ki hbs hge).2
                                          · refine lv_iconst (v := 1) cx.1 cx.2.1 dL_isNet_258 (by decide) ?_
                                            refine lv_goto (tgt := 263) cx.1 cx.2.1 dL_isNet_259 (by decide) ?_
                                            refine lv_istore (lv' := [(7, .int 1), (10, .int (mBet F i no)), (9, .int (nI i)), (8, .int near), (6, .int (mBet F nc no)), (5, .int (nI u)), (4, .int (nI w)), (0, .ref (ad 0)), (1, .ref (ad 36)), (2, .int (nI nc)), (3, .int (nI no))]) cx.1 cx.2.1 dL_isNet_263 hl (by decide) rfl (fun ls hl => ?_)
                                            refine lv_iload cx.1 cx.2.1 dL_isNet_265 (lv_at hl 3 rfl) ?_
                                            have j281 : ∀ (v : Int32) (H : Heap) (locs : List Loc), v = (if ¬ (mBet F i no) = ((mBet F nc no) - 1) then 0 else 1 : Int32) → va_P (dC, dI) vwCl (qw cyI ad S) H → va_S (zA ad 39 s.heap.size) s.heap H locs → W p l e (headSpec wsL_isNet ({ frames := 8, cells := 0, slots := 0, locals := 132 } : Room)).room s m args below meth c H locs 0 0 Q (F0 m 281 ls (.int v :: [.int near])) := by
                                              intro v H locs hv hP hS
                                              subst hv
                                              refine lv_iadd cx.1 cx.2.1 dL_isNet_281 ?_
                                              refine lv_istore (lv' := [(8, .int (near + (if ¬ (mBet F i no) = ((mBet F nc no) - 1) then 0 else 1 : Int32))), (7, .int 1), (10, .int (mBet F i no)), (9, .int (nI i)), (6, .int (mBet F nc no)), (5, .int (nI u)), (4, .int (nI w)), (0, .ref (ad 0)), (1, .ref (ad 36)), (2, .int (nI nc)), (3, .int (nI no))]) cx.1 cx.2.1 dL_isNet_282 hl (by decide) rfl (fun ls hl => ?_)
                                              refine lv_iinc (v := nI (i + 1)) (lv' := [(9, .int (nI (i + 1))), (8, .int (near + (if ¬ (mBet F i no) = ((mBet F nc no) - 1) then 0 else 1 : Int32))), (7, .int 1), (10, .int (mBet F i no)), (6, .int (mBet F nc no)), (5, .int (nI u)), (4, .int (nI w)), (0, .ref (ad 0)), (1, .ref (ad 36)), (2, .int (nI nc)), (3, .int (nI no))]) cx.1 cx.2.1 dL_isNet_284 hl (k := 3) rfl (nI_1 i) (by decide) rfl (fun ls hl => ?_)
                                              refine lv_goto (tgt := 176) cx.1 cx.2.1 dL_isNet_287 (by decide) ?_
                                              have ha176 : lp_L_isNet_176 S F nc no w u 0 (i + 1) = near + (if ¬ (mBet F i no) = ((mBet F nc no) - 1) then 0 else 1 : Int32) := by
                                                show bd_L_isNet_176 S F nc no w u i (lp_L_isNet_176 S F nc no w u 0 i) = _
                                                rw [hacc176]
                                                unfold bd_L_isNet_176
                                                rw [if_neg (not_not_intro c15), if_neg c16, if_pos c18]
                                              exact ih176 (i + 1) (near + (if ¬ (mBet F i no) = ((mBet F nc no) - 1) then 0 else 1 : Int32)) (by omega) ha176  (by omega) _ _ ls hP hS (lv_sub hl [0, 1, 2, 4, 5, 6, 7, 8, 9, 10] rfl)
                                            refine lv_iload cx.1 cx.2.1 dL_isNet_267 (lv_at hl 1 rfl) ?_
                                            refine lv_iload cx.1 cx.2.1 dL_isNet_269 (lv_at hl 4 rfl) ?_
                                            refine lv_iconst (v := 1) cx.1 cx.2.1 dL_isNet_271 (by decide) ?_
                                            refine lv_isub cx.1 cx.2.1 dL_isNet_272 ?_
                                            refine lv_icmp_ne (tgt := 280) cx.1 cx.2.1 dL_isNet_273 (by decide) (fun c21 => ?_) (fun c21 => ?_)
                                            · refine lv_iconst (v := 0) cx.1 cx.2.1 dL_isNet_280 (by decide) ?_
                                              exact j281 _ _ _ (by first | (rw [if_pos c21]; done) | exact Eq.symm ((if_pos c21).trans (rfl))) hP hS
                                            · refine lv_iconst (v := 1) cx.1 cx.2.1 dL_isNet_276 (by decide) ?_
                                              refine lv_goto (tgt := 281) cx.1 cx.2.1 dL_isNet_277 (by decide) ?_
                                              exact j281 _ _ _ (by first | (rw [if_neg (not_not_intro c21)]; done) | exact Eq.symm ((if_neg (not_not_intro c21)).trans (rfl))) hP hS
                                      · have hlt := c18
                                        refine lv_iload cx.1 cx.2.1 dL_isNet_231 (lv_at hl 0 rfl) ?_
                                        refine lv_iconst (v := (-1)) cx.1 cx.2.1 dL_isNet_233 (by decide) ?_
                                        refine lv_icmp_ne (tgt := 262) cx.1 cx.2.1 dL_isNet_234 (by decide) (fun c22 => ?_) (fun c22 => ?_)
                                        · exact absurd (far_none hF hno hnc hw hr kw (show i < 64 by omega) ki hbs hlt) c22
                                        · refine lv_goto (tgt := 258) cx.1 cx.2.1 dL_isNet_237 (by decide) ?_
                                          refine lv_iconst (v := 1) cx.1 cx.2.1 dL_isNet_258 (by decide) ?_
                                          refine lv_goto (tgt := 263) cx.1 cx.2.1 dL_isNet_259 (by decide) ?_
                                          refine lv_istore (lv' := [(7, .int 1), (10, .int (mBet F i no)), (9, .int (nI i)), (8, .int near), (6, .int (mBet F nc no)), (5, .int (nI u)), (4, .int (nI w)), (0, .ref (ad 0)), (1, .ref (ad 36)), (2, .int (nI nc)), (3, .int (nI no))]) cx.1 cx.2.1 dL_isNet_263 hl (by decide) rfl (fun ls hl => ?_)
                                          refine lv_iload cx.1 cx.2.1 dL_isNet_265 (lv_at hl 3 rfl) ?_
                                          have j281 : ∀ (v : Int32) (H : Heap) (locs : List Loc), v = (if ¬ (mBet F i no) = ((mBet F nc no) - 1) then 0 else 1 : Int32) → va_P (dC, dI) vwCl (qw cyI ad S) H → va_S (zA ad 39 s.heap.size) s.heap H locs → W p l e (headSpec wsL_isNet ({ frames := 8, cells := 0, slots := 0, locals := 132 } : Room)).room s m args below meth c H locs 0 0 Q (F0 m 281 ls (.int v :: [.int near])) := by
                                            intro v H locs hv hP hS
                                            subst hv
                                            refine lv_iadd cx.1 cx.2.1 dL_isNet_281 ?_
                                            refine lv_istore (lv' := [(8, .int (near + (if ¬ (mBet F i no) = ((mBet F nc no) - 1) then 0 else 1 : Int32))), (7, .int 1), (10, .int (mBet F i no)), (9, .int (nI i)), (6, .int (mBet F nc no)), (5, .int (nI u)), (4, .int (nI w)), (0, .ref (ad 0)), (1, .ref (ad 36)), (2, .int (nI nc)), (3, .int (nI no))]) cx.1 cx.2.1 dL_isNet_282 hl (by decide) rfl (fun ls hl => ?_)
                                            refine lv_iinc (v := nI (i + 1)) (lv' := [(9, .int (nI (i + 1))), (8, .int (near + (if ¬ (mBet F i no) = ((mBet F nc no) - 1) then 0 else 1 : Int32))), (7, .int 1), (10, .int (mBet F i no)), (6, .int (mBet F nc no)), (5, .int (nI u)), (4, .int (nI w)), (0, .ref (ad 0)), (1, .ref (ad 36)), (2, .int (nI nc)), (3, .int (nI no))]) cx.1 cx.2.1 dL_isNet_284 hl (k := 3) rfl (nI_1 i) (by decide) rfl (fun ls hl => ?_)
                                            refine lv_goto (tgt := 176) cx.1 cx.2.1 dL_isNet_287 (by decide) ?_
                                            have ha176 : lp_L_isNet_176 S F nc no w u 0 (i + 1) = near + (if ¬ (mBet F i no) = ((mBet F nc no) - 1) then 0 else 1 : Int32) := by
                                              show bd_L_isNet_176 S F nc no w u i (lp_L_isNet_176 S F nc no w u 0 i) = _
                                              rw [hacc176]
                                              unfold bd_L_isNet_176
                                              rw [if_neg (not_not_intro c15), if_neg c16, if_neg c18]
                                            exact ih176 (i + 1) (near + (if ¬ (mBet F i no) = ((mBet F nc no) - 1) then 0 else 1 : Int32)) (by omega) ha176  (by omega) _ _ ls hP hS (lv_sub hl [0, 1, 2, 4, 5, 6, 7, 8, 9, 10] rfl)
                                          refine lv_iload cx.1 cx.2.1 dL_isNet_267 (lv_at hl 1 rfl) ?_
                                          refine lv_iload cx.1 cx.2.1 dL_isNet_269 (lv_at hl 4 rfl) ?_
                                          refine lv_iconst (v := 1) cx.1 cx.2.1 dL_isNet_271 (by decide) ?_
                                          refine lv_isub cx.1 cx.2.1 dL_isNet_272 ?_
                                          refine lv_icmp_ne (tgt := 280) cx.1 cx.2.1 dL_isNet_273 (by decide) (fun c23 => ?_) (fun c23 => ?_)
                                          · refine lv_iconst (v := 0) cx.1 cx.2.1 dL_isNet_280 (by decide) ?_
                                            exact j281 _ _ _ (by first | (rw [if_pos c23]; done) | exact Eq.symm ((if_pos c23).trans (rfl))) hP hS
                                          · refine lv_iconst (v := 1) cx.1 cx.2.1 dL_isNet_276 (by decide) ?_
                                            refine lv_goto (tgt := 281) cx.1 cx.2.1 dL_isNet_277 (by decide) ?_
                                            exact j281 _ _ _ (by first | (rw [if_neg (not_not_intro c23)]; done) | exact Eq.symm ((if_neg (not_not_intro c23)).trans (rfl))) hP hS
                          exact lp176 (64 - 0 + 1) 0 0 (by omega) rfl  (Nat.lt_succ_self _) _ _ ls hP hS (lv_sub hl [0, 1, 2, 3, 4, 5, 6, 7, 8, 9] rfl)
                    refine lv_aload_n cx.1 cx.2.1 dL_isNet_134 rfl (lv_at hl 3 rfl) ?_
                    refine lv_iload_n cx.1 cx.2.1 dL_isNet_135 rfl (lv_at hl 6 rfl) ?_
                    refine zThenIx (v := F 3 no) (S' := S) hS (zRunV (As := [.int (nI no)]) (rest := [.int (if (mBet F nc no) < 0 then 0 else 1 : Int32)]) _ 1 cx (bq_X6_net l dC dI cyI cyB ad hI S F hF no (by omega)) gL_isNet_X6_net rfl ⟨rfl, rfl⟩ (by decide +kernel) ⟨Nat.le_of_ble_eq_true rfl, Nat.le_of_ble_eq_true rfl⟩ (xL_X ad 39) hXs hK hP hS 0 rfl rfl rfl rfl hl.1 rfl (Nat.le_of_ble_eq_true rfl) dL_isNet_136 ⟨Nat.zero_le _, Nat.zero_le _⟩) (fun H locs hP hS => ?_)
                    refine lv_iload cx.1 cx.2.1 dL_isNet_139 (lv_at hl 1 rfl) ?_
                    refine lv_icmp_ne (tgt := 148) cx.1 cx.2.1 dL_isNet_141 (by decide) (fun c10 => ?_) (fun c10 => ?_)
                    · refine lv_iconst (v := 0) cx.1 cx.2.1 dL_isNet_148 (by decide) ?_
                      exact j149 _ _ _ (by first | (rw [if_pos c10]; done) | exact Eq.symm ((if_pos c10).trans (rfl))) hP hS
                    · refine lv_iconst (v := 1) cx.1 cx.2.1 dL_isNet_144 (by decide) ?_
                      refine lv_goto (tgt := 149) cx.1 cx.2.1 dL_isNet_145 (by decide) ?_
                      exact j149 _ _ _ (by first | (rw [if_neg (not_not_intro c10)]; done) | exact Eq.symm ((if_neg (not_not_intro c10)).trans (rfl))) hP hS
                  refine lv_iload cx.1 cx.2.1 dL_isNet_124 (lv_at hl 0 rfl) ?_
                  refine lv_if_lt (tgt := 133) cx.1 cx.2.1 dL_isNet_126 (by decide) (fun c9 => ?_) (fun c9 => ?_)
                  · refine lv_iconst (v := 0) cx.1 cx.2.1 dL_isNet_133 (by decide) ?_
                    exact j134 _ _ _ (by first | (rw [if_pos c9]; done) | exact Eq.symm ((if_pos c9).trans (rfl))) hP hS
                  · refine lv_iconst (v := 1) cx.1 cx.2.1 dL_isNet_129 (by decide) ?_
                    refine lv_goto (tgt := 134) cx.1 cx.2.1 dL_isNet_130 (by decide) ?_
                    exact j134 _ _ _ (by first | (rw [if_neg c9]; done) | exact Eq.symm ((if_neg c9).trans (rfl))) hP hS
  · have nc1 : ¬ 0 ≤ w := fun z => c1 ((nI_leI (a := 0) (b := w) (by first | decide | omega) (by first | decide | omega)).mpr z)
    exact absurd (Nat.zero_le _) nc1
theorem c_L_isNet (l : Launch) (dC : Nat → ClassId) (dI : Nat → Nat → Nat) (cyI cyB : ClassId) (ad : Nat → Nat) (hI : zI ad 39) (S F : zS) (hF : LF S F) (nc : Nat) (no : Nat) (hnc : nc < 64) (hno : no < 64) : zMi l (dC, dI) (lTys cyI cyB) ad 39 xL (qw cyI ad) yL_isNet wsL_isNet ({ frames := 8, cells := 0, slots := 0, locals := 132 } : Room) [.ref (ad 0), .ref (ad 36), .int (nI nc), .int (nI no)] S (fun v T => v = 1 ∧ T = S) := by
  rcases hF.rd hnc with hr | ⟨w, hw, hr, kw⟩
  · exact c_L_isNet0 l dC dI cyI cyB ad hI S F hF nc no hnc hno hr
  · obtain ⟨u, hu, _, e, _⟩ := low_f hF.dd hw kw
    exact c_L_isNet1 l dC dI cyI cyB ad hI S F hF w u nc no hnc hno hw hu hr kw ((hF.n1 hnc hw hr).trans e)
