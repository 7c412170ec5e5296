set_option maxHeartbeats 4000000 in
set_option maxRecDepth 100000 in
theorem c_X7_findsNets (l : Launch) (dC : Nat → ClassId) (dI : Nat → Nat → Nat) (cyI cyZ : ClassId) (ad : Nat → Nat) (hI : zI ad 14) (S : zS)  : zMv l (dC, dI) [(cyI, .int), (cyZ, .boolean)] ad 14 (fun _ _ => True) (mw cyI cyZ ad) yX7_findsNets wsX7_findsNets ({ frames := 2, cells := 0, slots := 0, locals := 50 } : Room) [.ref (ad 0)] S (fun T => T = g_X7_findsNets S) := by
  refine zStartV (by decide) rfl (Nat.le_of_ble_eq_true rfl) ?_
  intro p e s m args below meth c ls cx hrt hlk hP hK hXs hl
  have hl : lv_has ls 3 [(0, .ref (ad 0))] := hl
  have hS : va_S (zA ad 14 s.heap.size) s.heap s.heap [] := va_S.rf
  have hinX7 : ∀ w ∈ u_ws RX7 TX7 19, w ∈ wsX7_findsNets := by decide +kernel
  obtain ⟨Q, hQ⟩ : ∃ Q, Q = MQ below (zQv (dC, dI) (mw cyI cyZ ad) (fun T => T = g_X7_findsNets S) (zA ad 14 s.heap.size)) args s 0 0 (zA ad 14 s.heap.size) := ⟨_, rfl⟩
  rw [← hQ]
  refine lv_iconst (v := 0) cx.1 cx.2.1 dX7_findsNets_0 (by decide) ?_
  refine lv_istore_n (lv' := [(1, .int 0), (0, .ref (ad 0))]) cx.1 cx.2.1 dX7_findsNets_1 rfl hl (by decide) rfl (fun ls hl => ?_)
  have lp2 : ∀ (fu i : Nat) (T2 : zS) (hi2 : i ≤ 64) (hacc2 : lp_X7_findsNets_2 S S i = T2) (hr2 : ∀ k, k < i → rOK (T2 2) k) (_ : 64 - i < fu) (H : Heap) (locs : List Loc) (ls : Array Slot), va_P (dC, dI) vwCl (mw cyI cyZ ad T2) H → va_S (zA ad 14 s.heap.size) s.heap H locs → lv_has ls 3 [(1, .int (nI i)), (0, .ref (ad 0))] → W p l e (headSpec wsX7_findsNets ({ frames := 2, cells := 0, slots := 0, locals := 50 } : Room)).room s m args below meth c H locs 0 0 Q (F0 m 2 ls []) := by
    intro fu
    induction fu with
    | zero => intro i T2 hi2 hacc2 hr2 hm; exact absurd hm (Nat.not_lt_zero _)
    | succ fu ih2 =>
      intro i T2 hi2 hacc2 hr2 hm H locs ls hP hS hl
      refine lv_iload_n cx.1 cx.2.1 dX7_findsNets_2 rfl (lv_at hl 0 rfl) ?_
      refine lv_bipush (v := 64) cx.1 cx.2.1 dX7_findsNets_3 (by decide) ?_
      refine lv_icmp_ge (tgt := 94) cx.1 cx.2.1 dX7_findsNets_5 (by decide) (fun c1 => ?_) (fun c1 => ?_)
      · have nc1 : 64 ≤ i := (nI_leI (a := 64) (b := i) (by first | decide | omega) (by first | decide | omega)).mp c1
        obtain rfl : i = 64 := by omega
        have hz0 : (lp_X7_findsNets_2 S S 64) = T2 := hacc2
        obtain ⟨N13, hN13⟩ : ∃ Z : zS, (lp_X7_findsNets_2 S S 64) = Z := ⟨_, rfl⟩
        rw [hN13] at hz0
        subst hz0
        refine lv_iconst (v := 0) cx.1 cx.2.1 dX7_findsNets_94 (by decide) ?_
        refine lv_istore_n (lv' := [(1, .int 0), (0, .ref (ad 0))]) cx.1 cx.2.1 dX7_findsNets_95 rfl hl (by decide) rfl (fun ls hl => ?_)
        subst hN13
        have lp96 : ∀ (fu i : Nat) (T96 : zS) (hi96 : i ≤ 64) (hacc96 : lp_X7_findsNets_96 S (lp_X7_findsNets_2 S S 64) i = T96) (hr96 : ∀ k, k < 64 → rOK (T96 2) k) (_ : 64 - i < fu) (H : Heap) (locs : List Loc) (ls : Array Slot), va_P (dC, dI) vwCl (mw cyI cyZ ad T96) H → va_S (zA ad 14 s.heap.size) s.heap H locs → lv_has ls 3 [(1, .int (nI i)), (0, .ref (ad 0))] → W p l e (headSpec wsX7_findsNets ({ frames := 2, cells := 0, slots := 0, locals := 50 } : Room)).room s m args below meth c H locs 0 0 Q (F0 m 96 ls []) := by
          intro fu
          induction fu with
          | zero => intro i T96 hi96 hacc96 hr96 hm; exact absurd hm (Nat.not_lt_zero _)
          | succ fu ih96 =>
            intro i T96 hi96 hacc96 hr96 hm H locs ls hP hS hl
            refine lv_iload_n cx.1 cx.2.1 dX7_findsNets_96 rfl (lv_at hl 0 rfl) ?_
            refine lv_bipush (v := 64) cx.1 cx.2.1 dX7_findsNets_97 (by decide) ?_
            refine lv_icmp_ge (tgt := 174) cx.1 cx.2.1 dX7_findsNets_99 (by decide) (fun c14 => ?_) (fun c14 => ?_)
            · have nc14 : 64 ≤ i := (nI_leI (a := 64) (b := i) (by first | decide | omega) (by first | decide | omega)).mp c14
              obtain rfl : i = 64 := by omega
              have hz0 : (lp_X7_findsNets_96 S (lp_X7_findsNets_2 S S 64) 64) = T96 := hacc96
              obtain ⟨N20, hN20⟩ : ∃ Z : zS, (lp_X7_findsNets_96 S (lp_X7_findsNets_2 S S 64) 64) = Z := ⟨_, rfl⟩
              rw [hN20] at hz0
              subst hz0
              subst hN20
              rw [hQ]
              exact zRetV cx hrt hlk hS hP (by unfold g_X7_findsNets; rfl) dX7_findsNets_174
            · have nc14 : ¬ 64 ≤ i := fun z => c14 ((nI_leI (a := 64) (b := i) (by first | decide | omega) (by first | decide | omega)).mpr z)
              refine lv_aload_n cx.1 cx.2.1 dX7_findsNets_102 rfl (lv_at hl 1 rfl) ?_
              refine zGet (v := .ref (ad 4)) (own := RX7) cx hinX7 hK hP 0 rfl rfl 8 (by decide) (by decide +kernel) rfl rfl dX7_findsNets_103 ?_
              refine lv_iload_n cx.1 cx.2.1 dX7_findsNets_106 rfl (lv_at hl 0 rfl) ?_
              refine lv_iconst (v := (-1)) cx.1 cx.2.1 dX7_findsNets_107 (by decide) ?_
              refine zIstN cx (mw_W cyI cyZ ad) hI hK hP hS 4 0 rfl rfl (i) (by omega) (by decide) rfl (zUp T96 3 (upd (T96 3) i (-1))) rfl dX7_findsNets_108 (fun H locs hP hS => ?_)
              refine lv_bipush (v := 63) cx.1 cx.2.1 dX7_findsNets_109 (by decide) ?_
              refine lv_istore_n (lv' := [(2, .int 63), (1, .int (nI i)), (0, .ref (ad 0))]) cx.1 cx.2.1 dX7_findsNets_111 rfl hl (by decide) rfl (fun ls hl => ?_)
              have lp112 : ∀ (fu j : Nat) (T112 : zS) (hi112 : j ≤ 64) (hacc112 : lp_X7_findsNets_112 S i T96 (64 - j) j T112 = lp_X7_findsNets_112 S i T96 64 0 (zUp T96 3 (upd (T96 3) i (-1)))) (hr112 : ∀ k, k < 64 → rOK (T112 2) k) (_ : 64 - j < fu) (H : Heap) (locs : List Loc) (ls : Array Slot), va_P (dC, dI) vwCl (mw cyI cyZ ad T112) H → va_S (zA ad 14 s.heap.size) s.heap H locs → lv_has ls 3 [(2, .int (nI 63 - nI j)), (1, .int (nI i)), (0, .ref (ad 0))] → W p l e (headSpec wsX7_findsNets ({ frames := 2, cells := 0, slots := 0, locals := 50 } : Room)).room s m args below meth c H locs 0 0 Q (F0 m 112 ls []) := by
                intro fu
                induction fu with
                | zero => intro j T112 hi112 hacc112 hr112 hm; exact absurd hm (Nat.not_lt_zero _)
                | succ fu ih112 =>
                  intro j T112 hi112 hacc112 hr112 hm H locs ls hP hS hl
                  refine lv_iload_n cx.1 cx.2.1 dX7_findsNets_112 rfl (lv_at hl 0 rfl) ?_
                  refine lv_if_lt (tgt := 168) cx.1 cx.2.1 dX7_findsNets_113 (by decide) (fun c15 => ?_) (fun c15 => ?_)
                  · have nc15 : 63 + 1 ≤ j := (zdn_lt (by decide) (by omega)).mp c15
                    have hx112 : lp_X7_findsNets_112 S i T96 64 0 (zUp T96 3 (upd (T96 3) i (-1))) = T112 := by
                      rw [← hacc112]
                      rw [show 64 - j = 0 by omega]; rfl
                    have hz0 : (lp_X7_findsNets_112 S i T96 64 0 (zUp T96 3 (upd (T96 3) i (-1)))) = T112 := hx112
                    obtain ⟨N19, hN19⟩ : ∃ Z : zS, (lp_X7_findsNets_112 S i T96 64 0 (zUp T96 3 (upd (T96 3) i (-1)))) = Z := ⟨_, rfl⟩
                    rw [hN19] at hz0
                    subst hz0
                    refine lv_iinc (v := nI (i + 1)) (lv' := [(1, .int (nI (i + 1))), (2, .int (nI 63 - nI j)), (0, .ref (ad 0))]) cx.1 cx.2.1 dX7_findsNets_168 hl (k := 1) rfl (nI_1 i) (by decide) rfl (fun ls hl => ?_)
                    refine lv_goto (tgt := 96) cx.1 cx.2.1 dX7_findsNets_171 (by decide) ?_
                    subst hN19
                    have ha96 : lp_X7_findsNets_96 S (lp_X7_findsNets_2 S S 64) (i + 1) = (lp_X7_findsNets_112 S i T96 64 0 (zUp T96 3 (upd (T96 3) i (-1)))) := by
                      show bd_X7_findsNets_96 S i (lp_X7_findsNets_96 S (lp_X7_findsNets_2 S S 64) i) = _
                      rw [hacc96]
                      unfold bd_X7_findsNets_96
                      rfl
                    exact ih96 (i + 1) (lp_X7_findsNets_112 S i T96 64 0 (zUp T96 3 (upd (T96 3) i (-1)))) (by omega) ha96 hr112 (by omega) _ _ ls hP hS (lv_sub hl [0, 2] rfl)
                  · have nc15 : ¬ 63 + 1 ≤ j := fun z => c15 ((zdn_lt (by decide) (by omega)).mpr z)
                    rw [show nI 63 - nI j = nI (63 - j) from pk_sub (by omega)] at hl
                    refine lv_aload_n cx.1 cx.2.1 dX7_findsNets_116 rfl (lv_at hl 2 rfl) ?_
                    refine zGet (v := .ref (ad 3)) (own := RX7) cx hinX7 hK hP 0 rfl rfl 7 (by decide) (by decide +kernel) rfl rfl dX7_findsNets_117 ?_
                    refine lv_iload_n cx.1 cx.2.1 dX7_findsNets_120 rfl (lv_at hl 1 rfl) ?_
                    refine zIldN cx hK hP 3 0 rfl rfl (i) (by omega) (by decide) rfl dX7_findsNets_121 ?_
                    refine lv_iconst (v := (-1)) cx.1 cx.2.1 dX7_findsNets_122 (by decide) ?_
                    refine lv_icmp_eq (tgt := 168) cx.1 cx.2.1 dX7_findsNets_123 (by decide) (fun c16 => ?_) (fun c16 => ?_)
                    · have hx112 : lp_X7_findsNets_112 S i T96 64 0 (zUp T96 3 (upd (T96 3) i (-1))) = T112 := by
                        rw [← hacc112]
                        cases hn : 64 - j with
                        | zero => rfl
                        | succ q => rw [lp_X7_findsNets_112]; rw [if_pos c16]
                      have hz0 : (lp_X7_findsNets_112 S i T96 64 0 (zUp T96 3 (upd (T96 3) i (-1)))) = T112 := hx112
                      obtain ⟨N18, hN18⟩ : ∃ Z : zS, (lp_X7_findsNets_112 S i T96 64 0 (zUp T96 3 (upd (T96 3) i (-1)))) = Z := ⟨_, rfl⟩
                      rw [hN18] at hz0
                      subst hz0
                      refine lv_iinc (v := nI (i + 1)) (lv' := [(1, .int (nI (i + 1))), (2, .int (nI (63 - j))), (0, .ref (ad 0))]) cx.1 cx.2.1 dX7_findsNets_168 hl (k := 1) rfl (nI_1 i) (by decide) rfl (fun ls hl => ?_)
                      refine lv_goto (tgt := 96) cx.1 cx.2.1 dX7_findsNets_171 (by decide) ?_
                      subst hN18
                      have ha96 : lp_X7_findsNets_96 S (lp_X7_findsNets_2 S S 64) (i + 1) = (lp_X7_findsNets_112 S i T96 64 0 (zUp T96 3 (upd (T96 3) i (-1)))) := by
                        show bd_X7_findsNets_96 S i (lp_X7_findsNets_96 S (lp_X7_findsNets_2 S S 64) i) = _
                        rw [hacc96]
                        unfold bd_X7_findsNets_96
                        rfl
                      exact ih96 (i + 1) (lp_X7_findsNets_112 S i T96 64 0 (zUp T96 3 (upd (T96 3) i (-1)))) (by omega) ha96 hr112 (by omega) _ _ ls hP hS (lv_sub hl [0, 2] rfl)
                    · have hv2 := (hr112 i (by omega)).resolve_left c16
                      refine lv_aload_n cx.1 cx.2.1 dX7_findsNets_126 rfl (lv_at hl 2 rfl) ?_
                      refine zGet (v := .ref (ad 4)) (own := RX7) cx hinX7 hK hP 0 rfl rfl 8 (by decide) (by decide +kernel) rfl rfl dX7_findsNets_127 ?_
                      refine lv_iload_n cx.1 cx.2.1 dX7_findsNets_130 rfl (lv_at hl 1 rfl) ?_
                      refine lv_aload_n cx.1 cx.2.1 dX7_findsNets_131 rfl (lv_at hl 2 rfl) ?_
                      refine zGet (v := .ref (ad 5)) (own := RX7) cx hinX7 hK hP 0 rfl rfl 9 (by decide) (by decide +kernel) rfl rfl dX7_findsNets_132 ?_
                      refine lv_bipush (v := 64) cx.1 cx.2.1 dX7_findsNets_135 (by decide) ?_
                      refine lv_aload_n cx.1 cx.2.1 dX7_findsNets_137 rfl (lv_at hl 2 rfl) ?_
                      refine zGet (v := .ref (ad 3)) (own := RX7) cx hinX7 hK hP 0 rfl rfl 7 (by decide) (by decide +kernel) rfl rfl dX7_findsNets_138 ?_
                      refine lv_iload_n cx.1 cx.2.1 dX7_findsNets_141 rfl (lv_at hl 1 rfl) ?_
                      refine zIldN cx hK hP 3 0 rfl rfl (i) (by omega) (by decide) rfl dX7_findsNets_142 ?_
                      refine lv_imul cx.1 cx.2.1 dX7_findsNets_143 ?_
                      refine lv_iload_n cx.1 cx.2.1 dX7_findsNets_144 rfl (lv_at hl 0 rfl) ?_
                      refine lv_iadd cx.1 cx.2.1 dX7_findsNets_145 ?_
                      refine zIldN cx hK hP 5 0 rfl rfl (64 * (T112 2 i).toNatClampNeg + (63 - j)) (at_b2 hv2 (by omega)) (by decide) (at_ix2 hv2) dX7_findsNets_146 ?_
                      refine lv_iconst (v := (-1)) cx.1 cx.2.1 dX7_findsNets_147 (by decide) ?_
                      refine lv_icmp_ne (tgt := 160) cx.1 cx.2.1 dX7_findsNets_148 (by decide) (fun c17 => ?_) (fun c17 => ?_)
                      · refine lv_iload_n cx.1 cx.2.1 dX7_findsNets_160 rfl (lv_at hl 0 rfl) ?_
                        refine zIstN cx (mw_W cyI cyZ ad) hI hK hP hS 4 0 rfl rfl (i) (by omega) (by decide) rfl (zUp T112 3 (upd (T112 3) i (nI (63 - j)))) rfl dX7_findsNets_161 (fun H locs hP hS => ?_)
                        refine lv_iinc (v := nI 63 - nI (j + 1)) (lv' := [(2, .int (nI 63 - nI (j + 1))), (1, .int (nI i)), (0, .ref (ad 0))]) cx.1 cx.2.1 dX7_findsNets_162 hl (k := 0) rfl (zdn_s (by omega)) (by decide) rfl (fun ls hl => ?_)
                        refine lv_goto (tgt := 112) cx.1 cx.2.1 dX7_findsNets_165 (by decide) ?_
                        have ha112 : lp_X7_findsNets_112 S i T96 (64 - (j + 1)) (j + 1) (zUp T112 3 (upd (T112 3) i (nI (63 - j)))) = lp_X7_findsNets_112 S i T96 64 0 (zUp T96 3 (upd (T96 3) i (-1))) := by
                          rw [← hacc112, show 64 - j = (64 - (j + 1)) + 1 by omega]
                          conv => rhs; rw [lp_X7_findsNets_112]
                          rw [if_neg c16, if_pos c17]
                        exact ih112 (j + 1) (zUp T112 3 (upd (T112 3) i (nI (63 - j)))) (by omega) ha112 hr112 (by omega) _ _ ls hP hS (lv_sub hl [0, 1, 2] rfl)
                      · refine lv_aload_n cx.1 cx.2.1 dX7_findsNets_151 rfl (lv_at hl 2 rfl) ?_
                        refine zGet (v := .ref (ad 4)) (own := RX7) cx hinX7 hK hP 0 rfl rfl 8 (by decide) (by decide +kernel) rfl rfl dX7_findsNets_152 ?_
                        refine lv_iload_n cx.1 cx.2.1 dX7_findsNets_155 rfl (lv_at hl 1 rfl) ?_
                        refine zIldN cx hK hP 4 0 rfl rfl (i) (by omega) (by decide) rfl dX7_findsNets_156 ?_
                        refine lv_goto (tgt := 161) cx.1 cx.2.1 dX7_findsNets_157 (by decide) ?_
                        refine zIstN cx (mw_W cyI cyZ ad) hI hK hP hS 4 0 rfl rfl (i) (by omega) (by decide) rfl (zUp T112 3 (upd (T112 3) i (T112 3 i))) rfl dX7_findsNets_161 (fun H locs hP hS => ?_)
                        refine lv_iinc (v := nI 63 - nI (j + 1)) (lv' := [(2, .int (nI 63 - nI (j + 1))), (1, .int (nI i)), (0, .ref (ad 0))]) cx.1 cx.2.1 dX7_findsNets_162 hl (k := 0) rfl (zdn_s (by omega)) (by decide) rfl (fun ls hl => ?_)
                        refine lv_goto (tgt := 112) cx.1 cx.2.1 dX7_findsNets_165 (by decide) ?_
                        have ha112 : lp_X7_findsNets_112 S i T96 (64 - (j + 1)) (j + 1) (zUp T112 3 (upd (T112 3) i (T112 3 i))) = lp_X7_findsNets_112 S i T96 64 0 (zUp T96 3 (upd (T96 3) i (-1))) := by
                          rw [← hacc112, show 64 - j = (64 - (j + 1)) + 1 by omega]
                          conv => rhs; rw [lp_X7_findsNets_112]
                          rw [if_neg c16, if_neg (not_not_intro c17)]
                        exact ih112 (j + 1) (zUp T112 3 (upd (T112 3) i (T112 3 i))) (by omega) ha112 hr112 (by omega) _ _ ls hP hS (lv_sub hl [0, 1, 2] rfl)
              exact lp112 (64 - 0 + 1) 0 (zUp T96 3 (upd (T96 3) i (-1))) (by omega) (by rw [Nat.sub_zero]) hr96 (Nat.lt_succ_self _) _ _ ls hP hS (lv_sub hl [0, 1, 2] rfl)
        exact lp96 (64 - 0 + 1) 0 (lp_X7_findsNets_2 S S 64) (by omega) rfl hr2 (Nat.lt_succ_self _) _ _ ls hP hS (lv_sub hl [0, 1] rfl)
      · have nc1 : ¬ 64 ≤ i := fun z => c1 ((nI_leI (a := 64) (b := i) (by first | decide | omega) (by first | decide | omega)).mpr z)
        refine lv_aload_n cx.1 cx.2.1 dX7_findsNets_8 rfl (lv_at hl 1 rfl) ?_
        refine lv_iload_n cx.1 cx.2.1 dX7_findsNets_9 rfl (lv_at hl 0 rfl) ?_
        refine zThenVx (S' := g_X7_walks T2 i) hS (zRunV (As := [.int (nI i)]) (rest := []) _ 1 cx (c_X7_walks l dC dI cyI cyZ ad hI T2 i (by omega)) gX7_findsNets_X7_walks rfl ⟨rfl, rfl⟩ (by decide +kernel) ⟨Nat.le_of_ble_eq_true rfl, Nat.le_of_ble_eq_true rfl⟩ (zX_true) trivial hK hP hS 0 rfl rfl rfl rfl hl.1 rfl (Nat.le_of_ble_eq_true rfl) dX7_findsNets_10 ⟨Nat.zero_le _, Nat.zero_le _⟩) (fun H locs hP hS => ?_)
        refine lv_aload_n cx.1 cx.2.1 dX7_findsNets_13 rfl (lv_at hl 1 rfl) ?_
        refine zGet (v := .ref (ad 3)) (own := RX7) cx hinX7 hK hP 0 rfl rfl 7 (by decide) (by decide +kernel) rfl rfl dX7_findsNets_14 ?_
        refine lv_iload_n cx.1 cx.2.1 dX7_findsNets_17 rfl (lv_at hl 0 rfl) ?_
        refine lv_aload_n cx.1 cx.2.1 dX7_findsNets_18 rfl (lv_at hl 1 rfl) ?_
        refine zGet (v := .ref (ad 1)) (own := RX7) cx hinX7 hK hP 0 rfl rfl 5 (by decide) (by decide +kernel) rfl rfl dX7_findsNets_19 ?_
        refine lv_iload_n cx.1 cx.2.1 dX7_findsNets_22 rfl (lv_at hl 0 rfl) ?_
        refine zIldN cx hK hP 1 0 rfl rfl (i) (by omega) (by decide) rfl dX7_findsNets_23 ?_
        refine lv_iconst (v := 1) cx.1 cx.2.1 dX7_findsNets_24 (by decide) ?_
        refine lv_icmp_ne (tgt := 32) cx.1 cx.2.1 dX7_findsNets_25 (by decide) (fun c2 => ?_) (fun c2 => ?_)
        · refine lv_iconst (v := (-1)) cx.1 cx.2.1 dX7_findsNets_32 (by decide) ?_
          refine zIstN cx (mw_W cyI cyZ ad) hI hK hP hS 3 0 rfl rfl (i) (by omega) (by decide) rfl (zUp (g_X7_walks T2 i) 2 (upd ((g_X7_walks T2 i) 2) i (-1))) rfl dX7_findsNets_33 (fun H locs hP hS => ?_)
          refine lv_iconst (v := 3) cx.1 cx.2.1 dX7_findsNets_34 (by decide) ?_
          refine lv_istore_n (lv' := [(2, .int 3), (1, .int (nI i)), (0, .ref (ad 0))]) cx.1 cx.2.1 dX7_findsNets_35 rfl hl (by decide) rfl (fun ls hl => ?_)
          have lp36 : ∀ (fu j : Nat) (T36 : zS) (hi36 : j ≤ 4) (hacc36 : lp_X7_findsNets_36 S i T2 (4 - j) j T36 = lp_X7_findsNets_36 S i T2 4 0 (zUp (g_X7_walks T2 i) 2 (upd ((g_X7_walks T2 i) 2) i (-1)))) (hr36 : ∀ k, k < i + 1 → rOK (T36 2) k) (_ : 4 - j < fu) (H : Heap) (locs : List Loc) (ls : Array Slot), va_P (dC, dI) vwCl (mw cyI cyZ ad T36) H → va_S (zA ad 14 s.heap.size) s.heap H locs → lv_has ls 3 [(2, .int (nI 3 - nI j)), (1, .int (nI i)), (0, .ref (ad 0))] → W p l e (headSpec wsX7_findsNets ({ frames := 2, cells := 0, slots := 0, locals := 50 } : Room)).room s m args below meth c H locs 0 0 Q (F0 m 36 ls []) := by
            intro fu
            induction fu with
            | zero => intro j T36 hi36 hacc36 hr36 hm; exact absurd hm (Nat.not_lt_zero _)
            | succ fu ih36 =>
              intro j T36 hi36 hacc36 hr36 hm H locs ls hP hS hl
              refine lv_iload_n cx.1 cx.2.1 dX7_findsNets_36 rfl (lv_at hl 0 rfl) ?_
              refine lv_if_lt (tgt := 88) cx.1 cx.2.1 dX7_findsNets_37 (by decide) (fun c3 => ?_) (fun c3 => ?_)
              · have nc3 : 3 + 1 ≤ j := (zdn_lt (by decide) (by omega)).mp c3
                have hx36 : lp_X7_findsNets_36 S i T2 4 0 (zUp (g_X7_walks T2 i) 2 (upd ((g_X7_walks T2 i) 2) i (-1))) = T36 := by
                  rw [← hacc36]
                  rw [show 4 - j = 0 by omega]; rfl
                have hz0 : (lp_X7_findsNets_36 S i T2 4 0 (zUp (g_X7_walks T2 i) 2 (upd ((g_X7_walks T2 i) 2) i (-1)))) = T36 := hx36
                obtain ⟨N7, hN7⟩ : ∃ Z : zS, (lp_X7_findsNets_36 S i T2 4 0 (zUp (g_X7_walks T2 i) 2 (upd ((g_X7_walks T2 i) 2) i (-1)))) = Z := ⟨_, rfl⟩
                rw [hN7] at hz0
                subst hz0
                refine lv_iinc (v := nI (i + 1)) (lv' := [(1, .int (nI (i + 1))), (2, .int (nI 3 - nI j)), (0, .ref (ad 0))]) cx.1 cx.2.1 dX7_findsNets_88 hl (k := 1) rfl (nI_1 i) (by decide) rfl (fun ls hl => ?_)
                refine lv_goto (tgt := 2) cx.1 cx.2.1 dX7_findsNets_91 (by decide) ?_
                subst hN7
                have ha2 : lp_X7_findsNets_2 S S (i + 1) = (lp_X7_findsNets_36 S i T2 4 0 (zUp (g_X7_walks T2 i) 2 (upd ((g_X7_walks T2 i) 2) i (-1)))) := by
                  show bd_X7_findsNets_2 S i (lp_X7_findsNets_2 S S i) = _
                  rw [hacc2]
                  unfold bd_X7_findsNets_2
                  rw [if_pos c2]
                exact ih2 (i + 1) (lp_X7_findsNets_36 S i T2 4 0 (zUp (g_X7_walks T2 i) 2 (upd ((g_X7_walks T2 i) 2) i (-1)))) (by omega) ha2 hr36 (by omega) _ _ ls hP hS (lv_sub hl [0, 2] rfl)
              · have nc3 : ¬ 3 + 1 ≤ j := fun z => c3 ((zdn_lt (by decide) (by omega)).mpr z)
                rw [show nI 3 - nI j = nI (3 - j) from pk_sub (by omega)] at hl
                refine lv_aload_n cx.1 cx.2.1 dX7_findsNets_40 rfl (lv_at hl 2 rfl) ?_
                refine zGet (v := .ref (ad 1)) (own := RX7) cx hinX7 hK hP 0 rfl rfl 5 (by decide) (by decide +kernel) rfl rfl dX7_findsNets_41 ?_
                refine lv_iload_n cx.1 cx.2.1 dX7_findsNets_44 rfl (lv_at hl 1 rfl) ?_
                refine zIldN cx hK hP 1 0 rfl rfl (i) (by omega) (by decide) rfl dX7_findsNets_45 ?_
                refine lv_iconst (v := 1) cx.1 cx.2.1 dX7_findsNets_46 (by decide) ?_
                refine lv_icmp_eq (tgt := 88) cx.1 cx.2.1 dX7_findsNets_47 (by decide) (fun c4 => ?_) (fun c4 => ?_)
                · have hx36 : lp_X7_findsNets_36 S i T2 4 0 (zUp (g_X7_walks T2 i) 2 (upd ((g_X7_walks T2 i) 2) i (-1))) = T36 := by
                    rw [← hacc36]
                    cases hn : 4 - j with
                    | zero => rfl
                    | succ q => rw [lp_X7_findsNets_36]; rw [if_pos c4]
                  have hz0 : (lp_X7_findsNets_36 S i T2 4 0 (zUp (g_X7_walks T2 i) 2 (upd ((g_X7_walks T2 i) 2) i (-1)))) = T36 := hx36
                  obtain ⟨N6, hN6⟩ : ∃ Z : zS, (lp_X7_findsNets_36 S i T2 4 0 (zUp (g_X7_walks T2 i) 2 (upd ((g_X7_walks T2 i) 2) i (-1)))) = Z := ⟨_, rfl⟩
                  rw [hN6] at hz0
                  subst hz0
                  refine lv_iinc (v := nI (i + 1)) (lv' := [(1, .int (nI (i + 1))), (2, .int (nI (3 - j))), (0, .ref (ad 0))]) cx.1 cx.2.1 dX7_findsNets_88 hl (k := 1) rfl (nI_1 i) (by decide) rfl (fun ls hl => ?_)
                  refine lv_goto (tgt := 2) cx.1 cx.2.1 dX7_findsNets_91 (by decide) ?_
                  subst hN6
                  have ha2 : lp_X7_findsNets_2 S S (i + 1) = (lp_X7_findsNets_36 S i T2 4 0 (zUp (g_X7_walks T2 i) 2 (upd ((g_X7_walks T2 i) 2) i (-1)))) := by
                    show bd_X7_findsNets_2 S i (lp_X7_findsNets_2 S S i) = _
                    rw [hacc2]
                    unfold bd_X7_findsNets_2
                    rw [if_pos c2]
                  exact ih2 (i + 1) (lp_X7_findsNets_36 S i T2 4 0 (zUp (g_X7_walks T2 i) 2 (upd ((g_X7_walks T2 i) 2) i (-1)))) (by omega) ha2 hr36 (by omega) _ _ ls hP hS (lv_sub hl [0, 2] rfl)
                · refine lv_aload_n cx.1 cx.2.1 dX7_findsNets_50 rfl (lv_at hl 2 rfl) ?_
                  refine zGet (v := .ref (ad 3)) (own := RX7) cx hinX7 hK hP 0 rfl rfl 7 (by decide) (by decide +kernel) rfl rfl dX7_findsNets_51 ?_
                  refine lv_iload_n cx.1 cx.2.1 dX7_findsNets_54 rfl (lv_at hl 1 rfl) ?_
                  refine lv_aload_n cx.1 cx.2.1 dX7_findsNets_55 rfl (lv_at hl 2 rfl) ?_
                  refine lv_iload_n cx.1 cx.2.1 dX7_findsNets_56 rfl (lv_at hl 1 rfl) ?_
                  refine lv_iload_n cx.1 cx.2.1 dX7_findsNets_57 rfl (lv_at hl 0 rfl) ?_
                  refine zThenIx (v := f_X7_neighbour (nI i) (nI (3 - j))) (S' := T36) hS (zRunS (As := [.int (nI i), .int (nI (3 - j))]) (rest := [.ref (ad 0), .int (nI i), .ref (ad 3)]) _ 2 cx (c_X7_neighbour l dC dI cyI cyZ ad hI T36 (nI i) (nI (3 - j))) gX7_findsNets_X7_neighbour rfl ⟨rfl, rfl⟩ (by decide +kernel) ⟨Nat.le_of_ble_eq_true rfl, Nat.le_of_ble_eq_true rfl⟩ (zX_true) trivial hK hP hS rfl hl.1 rfl (Nat.le_of_ble_eq_true rfl) dX7_findsNets_58 ⟨Nat.zero_le _, Nat.zero_le _⟩) (fun H locs hP hS => ?_)
                  refine zThenIx (v := f_X7_isRoad T36 (f_X7_neighbour (nI i) (nI (3 - j)))) (S' := T36) hS (zRunV (As := [.int (f_X7_neighbour (nI i) (nI (3 - j)))]) (rest := [.int (nI i), .ref (ad 3)]) _ 1 cx (c_X7_isRoad l dC dI cyI cyZ ad hI T36 (f_X7_neighbour (nI i) (nI (3 - j))) (nbX7_in (nbX7 _ (by omega) _ (by omega)) (nb_le _ (by omega) _ (by omega)))) gX7_findsNets_X7_isRoad rfl ⟨rfl, rfl⟩ (by decide +kernel) ⟨Nat.le_of_ble_eq_true rfl, Nat.le_of_ble_eq_true rfl⟩ (zX_true) trivial hK hP hS 0 rfl rfl rfl rfl hl.1 rfl (Nat.le_of_ble_eq_true rfl) dX7_findsNets_61 ⟨Nat.zero_le _, Nat.zero_le _⟩) (fun H locs hP hS => ?_)
                  refine lv_if_eq (tgt := 75) cx.1 cx.2.1 dX7_findsNets_64 (by decide) (fun c5 => ?_) (fun c5 => ?_)
                  · refine lv_aload_n cx.1 cx.2.1 dX7_findsNets_75 rfl (lv_at hl 2 rfl) ?_
                    refine zGet (v := .ref (ad 3)) (own := RX7) cx hinX7 hK hP 0 rfl rfl 7 (by decide) (by decide +kernel) rfl rfl dX7_findsNets_76 ?_
                    refine lv_iload_n cx.1 cx.2.1 dX7_findsNets_79 rfl (lv_at hl 1 rfl) ?_
                    refine zIldN cx hK hP 3 0 rfl rfl (i) (by omega) (by decide) rfl dX7_findsNets_80 ?_
                    refine zIstN cx (mw_W cyI cyZ ad) hI hK hP hS 3 0 rfl rfl (i) (by omega) (by decide) rfl (zUp T36 2 (upd (T36 2) i (T36 2 i))) rfl dX7_findsNets_81 (fun H locs hP hS => ?_)
                    refine lv_iinc (v := nI 3 - nI (j + 1)) (lv' := [(2, .int (nI 3 - nI (j + 1))), (1, .int (nI i)), (0, .ref (ad 0))]) cx.1 cx.2.1 dX7_findsNets_82 hl (k := 0) rfl (zdn_s (by omega)) (by decide) rfl (fun ls hl => ?_)
                    refine lv_goto (tgt := 36) cx.1 cx.2.1 dX7_findsNets_85 (by decide) ?_
                    have ha36 : lp_X7_findsNets_36 S i T2 (4 - (j + 1)) (j + 1) (zUp T36 2 (upd (T36 2) i (T36 2 i))) = lp_X7_findsNets_36 S i T2 4 0 (zUp (g_X7_walks T2 i) 2 (upd ((g_X7_walks T2 i) 2) i (-1))) := by
                      rw [← hacc36, show 4 - j = (4 - (j + 1)) + 1 by omega]
                      conv => rhs; rw [lp_X7_findsNets_36]
                      rw [if_neg c4, if_pos c5]
                    exact ih36 (j + 1) (zUp T36 2 (upd (T36 2) i (T36 2 i))) (by omega) ha36 (rOK_upd2 hr36 (by first | exact hr36 i (by omega) | exact (nbX7_in (nbX7 _ (by omega) _ (by omega)) (nb_le _ (by omega) _ (by omega))))) (by omega) _ _ ls hP hS (lv_sub hl [0, 1, 2] rfl)
                  · refine lv_iload_n cx.1 cx.2.1 dX7_findsNets_67 rfl (lv_at hl 1 rfl) ?_
                    refine lv_iload_n cx.1 cx.2.1 dX7_findsNets_68 rfl (lv_at hl 0 rfl) ?_
                    refine zThenIx (v := f_X7_neighbour (nI i) (nI (3 - j))) (S' := T36) hS (zRunS (As := [.int (nI i), .int (nI (3 - j))]) (rest := [.int (nI i), .ref (ad 3)]) _ 2 cx (c_X7_neighbour l dC dI cyI cyZ ad hI T36 (nI i) (nI (3 - j))) gX7_findsNets_X7_neighbour rfl ⟨rfl, rfl⟩ (by decide +kernel) ⟨Nat.le_of_ble_eq_true rfl, Nat.le_of_ble_eq_true rfl⟩ (zX_true) trivial hK hP hS rfl hl.1 rfl (Nat.le_of_ble_eq_true rfl) dX7_findsNets_69 ⟨Nat.zero_le _, Nat.zero_le _⟩) (fun H locs hP hS => ?_)
                    refine lv_goto (tgt := 81) cx.1 cx.2.1 dX7_findsNets_72 (by decide) ?_
                    refine zIstN cx (mw_W cyI cyZ ad) hI hK hP hS 3 0 rfl rfl (i) (by omega) (by decide) rfl (zUp T36 2 (upd (T36 2) i (f_X7_neighbour (nI i) (nI (3 - j))))) rfl dX7_findsNets_81 (fun H locs hP hS => ?_)
                    refine lv_iinc (v := nI 3 - nI (j + 1)) (lv' := [(2, .int (nI 3 - nI (j + 1))), (1, .int (nI i)), (0, .ref (ad 0))]) cx.1 cx.2.1 dX7_findsNets_82 hl (k := 0) rfl (zdn_s (by omega)) (by decide) rfl (fun ls hl => ?_)
                    refine lv_goto (tgt := 36) cx.1 cx.2.1 dX7_findsNets_85 (by decide) ?_
                    have ha36 : lp_X7_findsNets_36 S i T2 (4 - (j + 1)) (j + 1) (zUp T36 2 (upd (T36 2) i (f_X7_neighbour (nI i) (nI (3 - j))))) = lp_X7_findsNets_36 S i T2 4 0 (zUp (g_X7_walks T2 i) 2 (upd ((g_X7_walks T2 i) 2) i (-1))) := by
                      rw [← hacc36, show 4 - j = (4 - (j + 1)) + 1 by omega]
                      conv => rhs; rw [lp_X7_findsNets_36]
                      rw [if_neg c4, if_neg c5]
                    exact ih36 (j + 1) (zUp T36 2 (upd (T36 2) i (f_X7_neighbour (nI i) (nI (3 - j))))) (by omega) ha36 (rOK_upd2 hr36 (by first | exact hr36 i (by omega) | exact (nbX7_in (nbX7 _ (by omega) _ (by omega)) (nb_le _ (by omega) _ (by omega))))) (by omega) _ _ ls hP hS (lv_sub hl [0, 1, 2] rfl)
          exact lp36 (4 - 0 + 1) 0 (zUp (g_X7_walks T2 i) 2 (upd ((g_X7_walks T2 i) 2) i (-1))) (by omega) (by rw [Nat.sub_zero]) (rOK_upd (fun k hk => by rw [fr_X7_walks _ _ _ (by decide) (by decide)]; exact hr2 k hk) (by first | exact Or.inl rfl | exact Or.inr (vp_in_nI (by omega) (by decide)))) (Nat.lt_succ_self _) _ _ ls hP hS (lv_sub hl [0, 1, 2] rfl)
        · refine lv_iload_n cx.1 cx.2.1 dX7_findsNets_28 rfl (lv_at hl 0 rfl) ?_
          refine lv_goto (tgt := 33) cx.1 cx.2.1 dX7_findsNets_29 (by decide) ?_
          refine zIstN cx (mw_W cyI cyZ ad) hI hK hP hS 3 0 rfl rfl (i) (by omega) (by decide) rfl (zUp (g_X7_walks T2 i) 2 (upd ((g_X7_walks T2 i) 2) i (nI i))) rfl dX7_findsNets_33 (fun H locs hP hS => ?_)
          refine lv_iconst (v := 3) cx.1 cx.2.1 dX7_findsNets_34 (by decide) ?_
          refine lv_istore_n (lv' := [(2, .int 3), (1, .int (nI i)), (0, .ref (ad 0))]) cx.1 cx.2.1 dX7_findsNets_35 rfl hl (by decide) rfl (fun ls hl => ?_)
          have lp36 : ∀ (fu j : Nat) (T36 : zS) (hi36 : j ≤ 4) (hacc36 : lp_X7_findsNets_36 S i T2 (4 - j) j T36 = lp_X7_findsNets_36 S i T2 4 0 (zUp (g_X7_walks T2 i) 2 (upd ((g_X7_walks T2 i) 2) i (nI i)))) (hr36 : ∀ k, k < i + 1 → rOK (T36 2) k) (_ : 4 - j < fu) (H : Heap) (locs : List Loc) (ls : Array Slot), va_P (dC, dI) vwCl (mw cyI cyZ ad T36) H → va_S (zA ad 14 s.heap.size) s.heap H locs → lv_has ls 3 [(2, .int (nI 3 - nI j)), (1, .int (nI i)), (0, .ref (ad 0))] → W p l e (headSpec wsX7_findsNets ({ frames := 2, cells := 0, slots := 0, locals := 50 } : Room)).room s m args below meth c H locs 0 0 Q (F0 m 36 ls []) := by
            intro fu
            induction fu with
            | zero => intro j T36 hi36 hacc36 hr36 hm; exact absurd hm (Nat.not_lt_zero _)
            | succ fu ih36 =>
              intro j T36 hi36 hacc36 hr36 hm H locs ls hP hS hl
              refine lv_iload_n cx.1 cx.2.1 dX7_findsNets_36 rfl (lv_at hl 0 rfl) ?_
              refine lv_if_lt (tgt := 88) cx.1 cx.2.1 dX7_findsNets_37 (by decide) (fun c8 => ?_) (fun c8 => ?_)
              · have nc8 : 3 + 1 ≤ j := (zdn_lt (by decide) (by omega)).mp c8
                have hx36 : lp_X7_findsNets_36 S i T2 4 0 (zUp (g_X7_walks T2 i) 2 (upd ((g_X7_walks T2 i) 2) i (nI i))) = T36 := by
                  rw [← hacc36]
                  rw [show 4 - j = 0 by omega]; rfl
                have hz0 : (lp_X7_findsNets_36 S i T2 4 0 (zUp (g_X7_walks T2 i) 2 (upd ((g_X7_walks T2 i) 2) i (nI i)))) = T36 := hx36
                obtain ⟨N12, hN12⟩ : ∃ Z : zS, (lp_X7_findsNets_36 S i T2 4 0 (zUp (g_X7_walks T2 i) 2 (upd ((g_X7_walks T2 i) 2) i (nI i)))) = Z := ⟨_, rfl⟩
                rw [hN12] at hz0
                subst hz0
                refine lv_iinc (v := nI (i + 1)) (lv' := [(1, .int (nI (i + 1))), (2, .int (nI 3 - nI j)), (0, .ref (ad 0))]) cx.1 cx.2.1 dX7_findsNets_88 hl (k := 1) rfl (nI_1 i) (by decide) rfl (fun ls hl => ?_)
                refine lv_goto (tgt := 2) cx.1 cx.2.1 dX7_findsNets_91 (by decide) ?_
                subst hN12
                have ha2 : lp_X7_findsNets_2 S S (i + 1) = (lp_X7_findsNets_36 S i T2 4 0 (zUp (g_X7_walks T2 i) 2 (upd ((g_X7_walks T2 i) 2) i (nI i)))) := by
                  show bd_X7_findsNets_2 S i (lp_X7_findsNets_2 S S i) = _
                  rw [hacc2]
                  unfold bd_X7_findsNets_2
                  rw [if_neg (not_not_intro c2)]
                exact ih2 (i + 1) (lp_X7_findsNets_36 S i T2 4 0 (zUp (g_X7_walks T2 i) 2 (upd ((g_X7_walks T2 i) 2) i (nI i)))) (by omega) ha2 hr36 (by omega) _ _ ls hP hS (lv_sub hl [0, 2] rfl)
              · have nc8 : ¬ 3 + 1 ≤ j := fun z => c8 ((zdn_lt (by decide) (by omega)).mpr z)
                rw [show nI 3 - nI j = nI (3 - j) from pk_sub (by omega)] at hl
                refine lv_aload_n cx.1 cx.2.1 dX7_findsNets_40 rfl (lv_at hl 2 rfl) ?_
                refine zGet (v := .ref (ad 1)) (own := RX7) cx hinX7 hK hP 0 rfl rfl 5 (by decide) (by decide +kernel) rfl rfl dX7_findsNets_41 ?_
                refine lv_iload_n cx.1 cx.2.1 dX7_findsNets_44 rfl (lv_at hl 1 rfl) ?_
                refine zIldN cx hK hP 1 0 rfl rfl (i) (by omega) (by decide) rfl dX7_findsNets_45 ?_
                refine lv_iconst (v := 1) cx.1 cx.2.1 dX7_findsNets_46 (by decide) ?_
                refine lv_icmp_eq (tgt := 88) cx.1 cx.2.1 dX7_findsNets_47 (by decide) (fun c9 => ?_) (fun c9 => ?_)
                · have hx36 : lp_X7_findsNets_36 S i T2 4 0 (zUp (g_X7_walks T2 i) 2 (upd ((g_X7_walks T2 i) 2) i (nI i))) = T36 := by
                    rw [← hacc36]
                    cases hn : 4 - j with
                    | zero => rfl
                    | succ q => rw [lp_X7_findsNets_36]; rw [if_pos c9]
                  have hz0 : (lp_X7_findsNets_36 S i T2 4 0 (zUp (g_X7_walks T2 i) 2 (upd ((g_X7_walks T2 i) 2) i (nI i)))) = T36 := hx36
                  obtain ⟨N11, hN11⟩ : ∃ Z : zS, (lp_X7_findsNets_36 S i T2 4 0 (zUp (g_X7_walks T2 i) 2 (upd ((g_X7_walks T2 i) 2) i (nI i)))) = Z := ⟨_, rfl⟩
                  rw [hN11] at hz0
                  subst hz0
                  refine lv_iinc (v := nI (i + 1)) (lv' := [(1, .int (nI (i + 1))), (2, .int (nI (3 - j))), (0, .ref (ad 0))]) cx.1 cx.2.1 dX7_findsNets_88 hl (k := 1) rfl (nI_1 i) (by decide) rfl (fun ls hl => ?_)
                  refine lv_goto (tgt := 2) cx.1 cx.2.1 dX7_findsNets_91 (by decide) ?_
                  subst hN11
                  have ha2 : lp_X7_findsNets_2 S S (i + 1) = (lp_X7_findsNets_36 S i T2 4 0 (zUp (g_X7_walks T2 i) 2 (upd ((g_X7_walks T2 i) 2) i (nI i)))) := by
                    show bd_X7_findsNets_2 S i (lp_X7_findsNets_2 S S i) = _
                    rw [hacc2]
                    unfold bd_X7_findsNets_2
                    rw [if_neg (not_not_intro c2)]
                  exact ih2 (i + 1) (lp_X7_findsNets_36 S i T2 4 0 (zUp (g_X7_walks T2 i) 2 (upd ((g_X7_walks T2 i) 2) i (nI i)))) (by omega) ha2 hr36 (by omega) _ _ ls hP hS (lv_sub hl [0, 2] rfl)
                · refine lv_aload_n cx.1 cx.2.1 dX7_findsNets_50 rfl (lv_at hl 2 rfl) ?_
                  refine zGet (v := .ref (ad 3)) (own := RX7) cx hinX7 hK hP 0 rfl rfl 7 (by decide) (by decide +kernel) rfl rfl dX7_findsNets_51 ?_
                  refine lv_iload_n cx.1 cx.2.1 dX7_findsNets_54 rfl (lv_at hl 1 rfl) ?_
                  refine lv_aload_n cx.1 cx.2.1 dX7_findsNets_55 rfl (lv_at hl 2 rfl) ?_
                  refine lv_iload_n cx.1 cx.2.1 dX7_findsNets_56 rfl (lv_at hl 1 rfl) ?_
                  refine lv_iload_n cx.1 cx.2.1 dX7_findsNets_57 rfl (lv_at hl 0 rfl) ?_
                  refine zThenIx (v := f_X7_neighbour (nI i) (nI (3 - j))) (S' := T36) hS (zRunS (As := [.int (nI i), .int (nI (3 - j))]) (rest := [.ref (ad 0), .int (nI i), .ref (ad 3)]) _ 2 cx (c_X7_neighbour l dC dI cyI cyZ ad hI T36 (nI i) (nI (3 - j))) gX7_findsNets_X7_neighbour rfl ⟨rfl, rfl⟩ (by decide +kernel) ⟨Nat.le_of_ble_eq_true rfl, Nat.le_of_ble_eq_true rfl⟩ (zX_true) trivial hK hP hS rfl hl.1 rfl (Nat.le_of_ble_eq_true rfl) dX7_findsNets_58 ⟨Nat.zero_le _, Nat.zero_le _⟩) (fun H locs hP hS => ?_)
                  refine zThenIx (v := f_X7_isRoad T36 (f_X7_neighbour (nI i) (nI (3 - j)))) (S' := T36) hS (zRunV (As := [.int (f_X7_neighbour (nI i) (nI (3 - j)))]) (rest := [.int (nI i), .ref (ad 3)]) _ 1 cx (c_X7_isRoad l dC dI cyI cyZ ad hI T36 (f_X7_neighbour (nI i) (nI (3 - j))) (nbX7_in (nbX7 _ (by omega) _ (by omega)) (nb_le _ (by omega) _ (by omega)))) gX7_findsNets_X7_isRoad rfl ⟨rfl, rfl⟩ (by decide +kernel) ⟨Nat.le_of_ble_eq_true rfl, Nat.le_of_ble_eq_true rfl⟩ (zX_true) trivial hK hP hS 0 rfl rfl rfl rfl hl.1 rfl (Nat.le_of_ble_eq_true rfl) dX7_findsNets_61 ⟨Nat.zero_le _, Nat.zero_le _⟩) (fun H locs hP hS => ?_)
                  refine lv_if_eq (tgt := 75) cx.1 cx.2.1 dX7_findsNets_64 (by decide) (fun c10 => ?_) (fun c10 => ?_)
                  · refine lv_aload_n cx.1 cx.2.1 dX7_findsNets_75 rfl (lv_at hl 2 rfl) ?_
                    refine zGet (v := .ref (ad 3)) (own := RX7) cx hinX7 hK hP 0 rfl rfl 7 (by decide) (by decide +kernel) rfl rfl dX7_findsNets_76 ?_
                    refine lv_iload_n cx.1 cx.2.1 dX7_findsNets_79 rfl (lv_at hl 1 rfl) ?_
                    refine zIldN cx hK hP 3 0 rfl rfl (i) (by omega) (by decide) rfl dX7_findsNets_80 ?_
                    refine zIstN cx (mw_W cyI cyZ ad) hI hK hP hS 3 0 rfl rfl (i) (by omega) (by decide) rfl (zUp T36 2 (upd (T36 2) i (T36 2 i))) rfl dX7_findsNets_81 (fun H locs hP hS => ?_)
                    refine lv_iinc (v := nI 3 - nI (j + 1)) (lv' := [(2, .int (nI 3 - nI (j + 1))), (1, .int (nI i)), (0, .ref (ad 0))]) cx.1 cx.2.1 dX7_findsNets_82 hl (k := 0) rfl (zdn_s (by omega)) (by decide) rfl (fun ls hl => ?_)
                    refine lv_goto (tgt := 36) cx.1 cx.2.1 dX7_findsNets_85 (by decide) ?_
                    have ha36 : lp_X7_findsNets_36 S i T2 (4 - (j + 1)) (j + 1) (zUp T36 2 (upd (T36 2) i (T36 2 i))) = lp_X7_findsNets_36 S i T2 4 0 (zUp (g_X7_walks T2 i) 2 (upd ((g_X7_walks T2 i) 2) i (nI i))) := by
                      rw [← hacc36, show 4 - j = (4 - (j + 1)) + 1 by omega]
                      conv => rhs; rw [lp_X7_findsNets_36]
                      rw [if_neg c9, if_pos c10]
                    exact ih36 (j + 1) (zUp T36 2 (upd (T36 2) i (T36 2 i))) (by omega) ha36 (rOK_upd2 hr36 (by first | exact hr36 i (by omega) | exact (nbX7_in (nbX7 _ (by omega) _ (by omega)) (nb_le _ (by omega) _ (by omega))))) (by omega) _ _ ls hP hS (lv_sub hl [0, 1, 2] rfl)
                  · refine lv_iload_n cx.1 cx.2.1 dX7_findsNets_67 rfl (lv_at hl 1 rfl) ?_
                    refine lv_iload_n cx.1 cx.2.1 dX7_findsNets_68 rfl (lv_at hl 0 rfl) ?_
                    refine zThenIx (v := f_X7_neighbour (nI i) (nI (3 - j))) (S' := T36) hS (zRunS (As := [.int (nI i), .int (nI (3 - j))]) (rest := [.int (nI i), .ref (ad 3)]) _ 2 cx (c_X7_neighbour l dC dI cyI cyZ ad hI T36 (nI i) (nI (3 - j))) gX7_findsNets_X7_neighbour rfl ⟨rfl, rfl⟩ (by decide +kernel) ⟨Nat.le_of_ble_eq_true rfl, Nat.le_of_ble_eq_true rfl⟩ (zX_true) trivial hK hP hS rfl hl.1 rfl (Nat.le_of_ble_eq_true rfl) dX7_findsNets_69 ⟨Nat.zero_le _, Nat.zero_le _⟩) (fun H locs hP hS => ?_)
                    refine lv_goto (tgt := 81) cx.1 cx.2.1 dX7_findsNets_72 (by decide) ?_
                    refine zIstN cx (mw_W cyI cyZ ad) hI hK hP hS 3 0 rfl rfl (i) (by omega) (by decide) rfl (zUp T36 2 (upd (T36 2) i (f_X7_neighbour (nI i) (nI (3 - j))))) rfl dX7_findsNets_81 (fun H locs hP hS => ?_)
                    refine lv_iinc (v := nI 3 - nI (j + 1)) (lv' := [(2, .int (nI 3 - nI (j + 1))), (1, .int (nI i)), (0, .ref (ad 0))]) cx.1 cx.2.1 dX7_findsNets_82 hl (k := 0) rfl (zdn_s (by omega)) (by decide) rfl (fun ls hl => ?_)
                    refine lv_goto (tgt := 36) cx.1 cx.2.1 dX7_findsNets_85 (by decide) ?_
                    have ha36 : lp_X7_findsNets_36 S i T2 (4 - (j + 1)) (j + 1) (zUp T36 2 (upd (T36 2) i (f_X7_neighbour (nI i) (nI (3 - j))))) = lp_X7_findsNets_36 S i T2 4 0 (zUp (g_X7_walks T2 i) 2 (upd ((g_X7_walks T2 i) 2) i (nI i))) := by
                      rw [← hacc36, show 4 - j = (4 - (j + 1)) + 1 by omega]
                      conv => rhs; rw [lp_X7_findsNets_36]
                      rw [if_neg c9, if_neg c10]
                    exact ih36 (j + 1) (zUp T36 2 (upd (T36 2) i (f_X7_neighbour (nI i) (nI (3 - j))))) (by omega) ha36 (rOK_upd2 hr36 (by first | exact hr36 i (by omega) | exact (nbX7_in (nbX7 _ (by omega) _ (by omega)) (nb_le _ (by omega) _ (by omega))))) (by omega) _ _ ls hP hS (lv_sub hl [0, 1, 2] rfl)
          exact lp36 (4 - 0 + 1) 0 (zUp (g_X7_walks T2 i) 2 (upd ((g_X7_walks T2 i) 2) i (nI i))) (by omega) (by rw [Nat.sub_zero]) (rOK_upd (fun k hk => by rw [fr_X7_walks _ _ _ (by decide) (by decide)]; exact hr2 k hk) (by first | exact Or.inl rfl | exact Or.inr (vp_in_nI (by omega) (by decide)))) (Nat.lt_succ_self _) _ _ ls hP hS (lv_sub hl [0, 1, 2] rfl)
  exact lp2 (64 - 0 + 1) 0 S (by omega) rfl (fun k hk => absurd hk (Nat.not_lt_zero _)) (Nat.lt_succ_self _) _ _ ls hP hS (lv_sub hl [0, 1] rfl)
