set_option maxHeartbeats 4000000 in
set_option maxRecDepth 100000 in
theorem c_X7_supplies (l : Launch) (dC : Nat → ClassId) (dI : Nat → Nat → Nat) (cyI cyZ : ClassId) (ad : Nat → Nat) (hI : zI ad 14) (S : zS) (hn : ∀ k, k < 64 → rOK (S 3) k) : zMv l (dC, dI) [(cyI, .int), (cyZ, .boolean)] ad 14 (fun _ _ => True) (mw cyI cyZ ad) yX7_supplies wsX7_supplies ({ frames := 1, cells := 0, slots := 0, locals := 21 } : Room) [.ref (ad 0)] S (fun T => T = g_X7_supplies S) := by
  refine zStartV (by decide) rfl (Nat.le_of_ble_eq_true rfl) ?_
  intro p e s m args below meth c ls cx hrt hlk hP hK hXs hl
  have hl : lv_has ls 3 [(0, .ref (ad 0))] := hl
  have hS : va_S (zA ad 14 s.heap.size) s.heap s.heap [] := va_S.rf
  have hinX7 : ∀ w ∈ u_ws RX7 TX7 19, w ∈ wsX7_supplies := by decide +kernel
  obtain ⟨Q, hQ⟩ : ∃ Q, Q = MQ below (zQv (dC, dI) (mw cyI cyZ ad) (fun T => T = g_X7_supplies S) (zA ad 14 s.heap.size)) args s 0 0 (zA ad 14 s.heap.size) := ⟨_, rfl⟩
  rw [← hQ]
  refine lv_iconst (v := 0) cx.1 cx.2.1 dX7_supplies_0 (by decide) ?_
  refine lv_istore_n (lv' := [(1, .int 0), (0, .ref (ad 0))]) cx.1 cx.2.1 dX7_supplies_1 rfl hl (by decide) rfl (fun ls hl => ?_)
  have lp2 : ∀ (fu i : Nat) (T2 : zS) (hi2 : i ≤ 64) (hacc2 : lp_X7_supplies_2 S S i = T2) (hn2 : ∀ k, k < 64 → rOK (T2 3) k) (_ : 64 - i < fu) (H : Heap) (locs : List Loc) (ls : Array Slot), va_P (dC, dI) vwCl (mw cyI cyZ ad T2) H → va_S (zA ad 14 s.heap.size) s.heap H locs → lv_has ls 3 [(1, .int (nI i)), (0, .ref (ad 0))] → W p l e (headSpec wsX7_supplies ({ frames := 1, cells := 0, slots := 0, locals := 21 } : Room)).room s m args below meth c H locs 0 0 Q (F0 m 2 ls []) := by
    intro fu
    induction fu with
    | zero => intro i T2 hi2 hacc2 hn2 hm; exact absurd hm (Nat.not_lt_zero _)
    | succ fu ih2 =>
      intro i T2 hi2 hacc2 hn2 hm H locs ls hP hS hl
      refine lv_iload_n cx.1 cx.2.1 dX7_supplies_2 rfl (lv_at hl 0 rfl) ?_
      refine lv_bipush (v := 64) cx.1 cx.2.1 dX7_supplies_3 (by decide) ?_
      refine lv_icmp_ge (tgt := 28) cx.1 cx.2.1 dX7_supplies_5 (by decide) (fun c1 => ?_) (fun c1 => ?_)
      · have nc1 : 64 ≤ i := (nI_leI (a := 64) (b := i) (by first | decide | omega) (by first | decide | omega)).mp c1
        obtain rfl : i = 64 := by omega
        have hz0 : (lp_X7_supplies_2 S S 64) = T2 := hacc2
        obtain ⟨N2, hN2⟩ : ∃ Z : zS, (lp_X7_supplies_2 S S 64) = Z := ⟨_, rfl⟩
        rw [hN2] at hz0
        subst hz0
        refine lv_iconst (v := 0) cx.1 cx.2.1 dX7_supplies_28 (by decide) ?_
        refine lv_istore_n (lv' := [(1, .int 0), (0, .ref (ad 0))]) cx.1 cx.2.1 dX7_supplies_29 rfl hl (by decide) rfl (fun ls hl => ?_)
        subst hN2
        have lp30 : ∀ (fu i : Nat) (T30 : zS) (hi30 : i ≤ 64) (hacc30 : lp_X7_supplies_30 S (lp_X7_supplies_2 S S 64) i = T30) (hn30 : ∀ k, k < 64 → rOK (T30 3) k) (_ : 64 - i < fu) (H : Heap) (locs : List Loc) (ls : Array Slot), va_P (dC, dI) vwCl (mw cyI cyZ ad T30) H → va_S (zA ad 14 s.heap.size) s.heap H locs → lv_has ls 3 [(1, .int (nI i)), (0, .ref (ad 0))] → W p l e (headSpec wsX7_supplies ({ frames := 1, cells := 0, slots := 0, locals := 21 } : Room)).room s m args below meth c H locs 0 0 Q (F0 m 30 ls []) := by
          intro fu
          induction fu with
          | zero => intro i T30 hi30 hacc30 hn30 hm; exact absurd hm (Nat.not_lt_zero _)
          | succ fu ih30 =>
            intro i T30 hi30 hacc30 hn30 hm H locs ls hP hS hl
            refine lv_iload_n cx.1 cx.2.1 dX7_supplies_30 rfl (lv_at hl 0 rfl) ?_
            refine lv_bipush (v := 64) cx.1 cx.2.1 dX7_supplies_31 (by decide) ?_
            refine lv_icmp_ge (tgt := 113) cx.1 cx.2.1 dX7_supplies_33 (by decide) (fun c3 => ?_) (fun c3 => ?_)
            · have nc3 : 64 ≤ i := (nI_leI (a := 64) (b := i) (by first | decide | omega) (by first | decide | omega)).mp c3
              obtain rfl : i = 64 := by omega
              have hz0 : (lp_X7_supplies_30 S (lp_X7_supplies_2 S S 64) 64) = T30 := hacc30
              obtain ⟨N8, hN8⟩ : ∃ Z : zS, (lp_X7_supplies_30 S (lp_X7_supplies_2 S S 64) 64) = Z := ⟨_, rfl⟩
              rw [hN8] at hz0
              subst hz0
              refine lv_iconst (v := 0) cx.1 cx.2.1 dX7_supplies_113 (by decide) ?_
              refine lv_istore_n (lv' := [(1, .int 0), (0, .ref (ad 0))]) cx.1 cx.2.1 dX7_supplies_114 rfl hl (by decide) rfl (fun ls hl => ?_)
              subst hN8
              have lp115 : ∀ (fu i : Nat) (T115 : zS) (hi115 : i ≤ 64) (hacc115 : lp_X7_supplies_115 S (lp_X7_supplies_30 S (lp_X7_supplies_2 S S 64) 64) i = T115) (hn115 : ∀ k, k < 64 → rOK (T115 3) k) (_ : 64 - i < fu) (H : Heap) (locs : List Loc) (ls : Array Slot), va_P (dC, dI) vwCl (mw cyI cyZ ad T115) H → va_S (zA ad 14 s.heap.size) s.heap H locs → lv_has ls 3 [(1, .int (nI i)), (0, .ref (ad 0))] → W p l e (headSpec wsX7_supplies ({ frames := 1, cells := 0, slots := 0, locals := 21 } : Room)).room s m args below meth c H locs 0 0 Q (F0 m 115 ls []) := by
                intro fu
                induction fu with
                | zero => intro i T115 hi115 hacc115 hn115 hm; exact absurd hm (Nat.not_lt_zero _)
                | succ fu ih115 =>
                  intro i T115 hi115 hacc115 hn115 hm H locs ls hP hS hl
                  refine lv_iload_n cx.1 cx.2.1 dX7_supplies_115 rfl (lv_at hl 0 rfl) ?_
                  refine lv_bipush (v := 64) cx.1 cx.2.1 dX7_supplies_116 (by decide) ?_
                  refine lv_icmp_ge (tgt := 245) cx.1 cx.2.1 dX7_supplies_118 (by decide) (fun c9 => ?_) (fun c9 => ?_)
                  · have nc9 : 64 ≤ i := (nI_leI (a := 64) (b := i) (by first | decide | omega) (by first | decide | omega)).mp c9
                    obtain rfl : i = 64 := by omega
                    have hz0 : (lp_X7_supplies_115 S (lp_X7_supplies_30 S (lp_X7_supplies_2 S S 64) 64) 64) = T115 := hacc115
                    obtain ⟨N29, hN29⟩ : ∃ Z : zS, (lp_X7_supplies_115 S (lp_X7_supplies_30 S (lp_X7_supplies_2 S S 64) 64) 64) = Z := ⟨_, rfl⟩
                    rw [hN29] at hz0
                    subst hz0
                    subst hN29
                    rw [hQ]
                    exact zRetV cx hrt hlk hS hP (by unfold g_X7_supplies; rfl) dX7_supplies_245
                  · have nc9 : ¬ 64 ≤ i := fun z => c9 ((nI_leI (a := 64) (b := i) (by first | decide | omega) (by first | decide | omega)).mpr z)
                    refine lv_aload_n cx.1 cx.2.1 dX7_supplies_121 rfl (lv_at hl 1 rfl) ?_
                    refine zGet (v := .ref (ad 2)) (own := RX7) cx hinX7 hK hP 0 rfl rfl 6 (by decide) (by decide +kernel) rfl rfl dX7_supplies_122 ?_
                    refine lv_iload_n cx.1 cx.2.1 dX7_supplies_125 rfl (lv_at hl 0 rfl) ?_
                    refine zIldN cx hK hP 2 0 rfl rfl (i) (by omega) (by decide) rfl dX7_supplies_126 ?_
                    refine lv_if_ne (tgt := 134) cx.1 cx.2.1 dX7_supplies_127 (by decide) (fun c10 => ?_) (fun c10 => ?_)
                    · refine lv_aload_n cx.1 cx.2.1 dX7_supplies_134 rfl (lv_at hl 1 rfl) ?_
                      refine zGet (v := .ref (ad 2)) (own := RX7) cx hinX7 hK hP 0 rfl rfl 6 (by decide) (by decide +kernel) rfl rfl dX7_supplies_135 ?_
                      refine lv_iload_n cx.1 cx.2.1 dX7_supplies_138 rfl (lv_at hl 0 rfl) ?_
                      refine zIldN cx hK hP 2 0 rfl rfl (i) (by omega) (by decide) rfl dX7_supplies_139 ?_
                      refine lv_istore_n (lv' := [(2, .int (T115 1 i)), (1, .int (nI i)), (0, .ref (ad 0))]) cx.1 cx.2.1 dX7_supplies_140 rfl hl (by decide) rfl (fun ls hl => ?_)
                      refine lv_aload_n cx.1 cx.2.1 dX7_supplies_141 rfl (lv_at hl 2 rfl) ?_
                      refine zGet (v := .ref (ad 9)) (own := RX7) cx hinX7 hK hP 0 rfl rfl 13 (by decide) (by decide +kernel) rfl rfl dX7_supplies_142 ?_
                      refine lv_iload_n cx.1 cx.2.1 dX7_supplies_145 rfl (lv_at hl 1 rfl) ?_
                      refine lv_aload_n cx.1 cx.2.1 dX7_supplies_146 rfl (lv_at hl 2 rfl) ?_
                      refine lv_iload_n cx.1 cx.2.1 dX7_supplies_147 rfl (lv_at hl 1 rfl) ?_
                      refine zThenIx (v := f_X7_isZone T115 i) (S' := T115) hS (zRunV (As := [.int (nI i)]) (rest := [.int (nI i), .ref (ad 9)]) _ 1 cx (c_X7_isZone l dC dI cyI cyZ ad hI T115 i (by omega)) gX7_supplies_X7_isZone rfl ⟨rfl, rfl⟩ (by decide +kernel) ⟨Nat.le_of_ble_eq_true rfl, Nat.le_of_ble_eq_true rfl⟩ (zX_true) trivial hK hP hS 0 rfl rfl rfl rfl hl.1 rfl (Nat.le_of_ble_eq_true rfl) dX7_supplies_148 ⟨Nat.zero_le _, Nat.zero_le _⟩) (fun H locs hP hS => ?_)
                      refine lv_if_eq (tgt := 198) cx.1 cx.2.1 dX7_supplies_151 (by decide) (fun c11 => ?_) (fun c11 => ?_)
                      · refine lv_iconst (v := 0) cx.1 cx.2.1 dX7_supplies_198 (by decide) ?_
                        refine zZstN cx (mw_W cyI cyZ ad) hI hK hP hS 9 1 rfl rfl (i) (by omega) (by decide) rfl 0 (by first | rfl | assumption) (zUp T115 8 (upd (T115 8) i 0)) rfl dX7_supplies_199 (fun H locs hP hS => ?_)
                        refine lv_aload_n cx.1 cx.2.1 dX7_supplies_200 rfl (lv_at hl 2 rfl) ?_
                        refine zGet (v := .ref (ad 9)) (own := RX7) cx hinX7 hK hP 0 rfl rfl 13 (by decide) (by decide +kernel) rfl rfl dX7_supplies_201 ?_
                        refine lv_iload_n cx.1 cx.2.1 dX7_supplies_204 rfl (lv_at hl 1 rfl) ?_
                        refine zZldN cx hK hP 9 1 rfl rfl (i) (by omega) (by decide) rfl dX7_supplies_205 ?_
                        rw [show (zUp T115 8 (upd (T115 8) i 0)) 8 i = 0 from pk_us]
                        refine lv_if_eq (tgt := 239) cx.1 cx.2.1 dX7_supplies_206 (by decide) (fun c12 => ?_) (fun c12 => ?_)
                        rotate_left
                        · exact absurd c12 (by decide)
                        refine lv_iinc (v := nI (i + 1)) (lv' := [(1, .int (nI (i + 1))), (2, .int (T115 1 i)), (0, .ref (ad 0))]) cx.1 cx.2.1 dX7_supplies_239 hl (k := 1) rfl (nI_1 i) (by decide) rfl (fun ls hl => ?_)
                        refine lv_goto (tgt := 115) cx.1 cx.2.1 dX7_supplies_242 (by decide) ?_
                        have ha115 : lp_X7_supplies_115 S (lp_X7_supplies_30 S (lp_X7_supplies_2 S S 64) 64) (i + 1) = zUp T115 8 (upd (T115 8) i 0) := by
                          show bd_X7_supplies_115 S i (lp_X7_supplies_115 S (lp_X7_supplies_30 S (lp_X7_supplies_2 S S 64) 64) i) = _
                          rw [hacc115]
                          unfold bd_X7_supplies_115
                          rw [if_pos c10, if_pos c11]
                        exact ih115 (i + 1) (zUp T115 8 (upd (T115 8) i 0)) (by omega) ha115 hn115 (by omega) _ _ ls hP hS (lv_sub hl [0, 2] rfl)
                      · refine lv_aload_n cx.1 cx.2.1 dX7_supplies_154 rfl (lv_at hl 2 rfl) ?_
                        refine zGet (v := .ref (ad 4)) (own := RX7) cx hinX7 hK hP 0 rfl rfl 8 (by decide) (by decide +kernel) rfl rfl dX7_supplies_155 ?_
                        refine lv_iload_n cx.1 cx.2.1 dX7_supplies_158 rfl (lv_at hl 1 rfl) ?_
                        refine zIldN cx hK hP 4 0 rfl rfl (i) (by omega) (by decide) rfl dX7_supplies_159 ?_
                        refine lv_iconst (v := (-1)) cx.1 cx.2.1 dX7_supplies_160 (by decide) ?_
                        refine lv_icmp_eq (tgt := 198) cx.1 cx.2.1 dX7_supplies_161 (by decide) (fun c13 => ?_) (fun c13 => ?_)
                        · refine lv_iconst (v := 0) cx.1 cx.2.1 dX7_supplies_198 (by decide) ?_
                          refine zZstN cx (mw_W cyI cyZ ad) hI hK hP hS 9 1 rfl rfl (i) (by omega) (by decide) rfl 0 (by first | rfl | assumption) (zUp T115 8 (upd (T115 8) i 0)) rfl dX7_supplies_199 (fun H locs hP hS => ?_)
                          refine lv_aload_n cx.1 cx.2.1 dX7_supplies_200 rfl (lv_at hl 2 rfl) ?_
                          refine zGet (v := .ref (ad 9)) (own := RX7) cx hinX7 hK hP 0 rfl rfl 13 (by decide) (by decide +kernel) rfl rfl dX7_supplies_201 ?_
                          refine lv_iload_n cx.1 cx.2.1 dX7_supplies_204 rfl (lv_at hl 1 rfl) ?_
                          refine zZldN cx hK hP 9 1 rfl rfl (i) (by omega) (by decide) rfl dX7_supplies_205 ?_
                          rw [show (zUp T115 8 (upd (T115 8) i 0)) 8 i = 0 from pk_us]
                          refine lv_if_eq (tgt := 239) cx.1 cx.2.1 dX7_supplies_206 (by decide) (fun c14 => ?_) (fun c14 => ?_)
                          rotate_left
                          · exact absurd c14 (by decide)
                          refine lv_iinc (v := nI (i + 1)) (lv' := [(1, .int (nI (i + 1))), (2, .int (T115 1 i)), (0, .ref (ad 0))]) cx.1 cx.2.1 dX7_supplies_239 hl (k := 1) rfl (nI_1 i) (by decide) rfl (fun ls hl => ?_)
                          refine lv_goto (tgt := 115) cx.1 cx.2.1 dX7_supplies_242 (by decide) ?_
                          have ha115 : lp_X7_supplies_115 S (lp_X7_supplies_30 S (lp_X7_supplies_2 S S 64) 64) (i + 1) = zUp T115 8 (upd (T115 8) i 0) := by
                            show bd_X7_supplies_115 S i (lp_X7_supplies_115 S (lp_X7_supplies_30 S (lp_X7_supplies_2 S S 64) 64) i) = _
                            rw [hacc115]
                            unfold bd_X7_supplies_115
                            rw [if_pos c10, if_neg c11, if_pos c13]
                          exact ih115 (i + 1) (zUp T115 8 (upd (T115 8) i 0)) (by omega) ha115 hn115 (by omega) _ _ ls hP hS (lv_sub hl [0, 2] rfl)
                        · refine lv_aload_n cx.1 cx.2.1 dX7_supplies_164 rfl (lv_at hl 2 rfl) ?_
                          refine zGet (v := .ref (ad 7)) (own := RX7) cx hinX7 hK hP 0 rfl rfl 11 (by decide) (by decide +kernel) rfl rfl dX7_supplies_165 ?_
                          refine lv_aload_n cx.1 cx.2.1 dX7_supplies_168 rfl (lv_at hl 2 rfl) ?_
                          refine zGet (v := .ref (ad 4)) (own := RX7) cx hinX7 hK hP 0 rfl rfl 8 (by decide) (by decide +kernel) rfl rfl dX7_supplies_169 ?_
                          refine lv_iload_n cx.1 cx.2.1 dX7_supplies_172 rfl (lv_at hl 1 rfl) ?_
                          refine zIldN cx hK hP 4 0 rfl rfl (i) (by omega) (by decide) rfl dX7_supplies_173 ?_
                          refine zIld cx hK hP 7 0 rfl rfl ((hn115 i (by omega)).resolve_left (by assumption)) dX7_supplies_174 ?_
                          refine lv_iload_n cx.1 cx.2.1 dX7_supplies_175 rfl (lv_at hl 0 rfl) ?_
                          refine lv_icmp_lt (tgt := 198) cx.1 cx.2.1 dX7_supplies_176 (by decide) (fun c15 => ?_) (fun c15 => ?_)
                          · refine lv_iconst (v := 0) cx.1 cx.2.1 dX7_supplies_198 (by decide) ?_
                            refine zZstN cx (mw_W cyI cyZ ad) hI hK hP hS 9 1 rfl rfl (i) (by omega) (by decide) rfl 0 (by first | rfl | assumption) (zUp T115 8 (upd (T115 8) i 0)) rfl dX7_supplies_199 (fun H locs hP hS => ?_)
                            refine lv_aload_n cx.1 cx.2.1 dX7_supplies_200 rfl (lv_at hl 2 rfl) ?_
                            refine zGet (v := .ref (ad 9)) (own := RX7) cx hinX7 hK hP 0 rfl rfl 13 (by decide) (by decide +kernel) rfl rfl dX7_supplies_201 ?_
                            refine lv_iload_n cx.1 cx.2.1 dX7_supplies_204 rfl (lv_at hl 1 rfl) ?_
                            refine zZldN cx hK hP 9 1 rfl rfl (i) (by omega) (by decide) rfl dX7_supplies_205 ?_
                            rw [show (zUp T115 8 (upd (T115 8) i 0)) 8 i = 0 from pk_us]
                            refine lv_if_eq (tgt := 239) cx.1 cx.2.1 dX7_supplies_206 (by decide) (fun c16 => ?_) (fun c16 => ?_)
                            rotate_left
                            · exact absurd c16 (by decide)
                            refine lv_iinc (v := nI (i + 1)) (lv' := [(1, .int (nI (i + 1))), (2, .int (T115 1 i)), (0, .ref (ad 0))]) cx.1 cx.2.1 dX7_supplies_239 hl (k := 1) rfl (nI_1 i) (by decide) rfl (fun ls hl => ?_)
                            refine lv_goto (tgt := 115) cx.1 cx.2.1 dX7_supplies_242 (by decide) ?_
                            have ha115 : lp_X7_supplies_115 S (lp_X7_supplies_30 S (lp_X7_supplies_2 S S 64) 64) (i + 1) = zUp T115 8 (upd (T115 8) i 0) := by
                              show bd_X7_supplies_115 S i (lp_X7_supplies_115 S (lp_X7_supplies_30 S (lp_X7_supplies_2 S S 64) 64) i) = _
                              rw [hacc115]
                              unfold bd_X7_supplies_115
                              rw [if_pos c10, if_neg c11, if_neg c13, if_pos c15]
                            exact ih115 (i + 1) (zUp T115 8 (upd (T115 8) i 0)) (by omega) ha115 hn115 (by omega) _ _ ls hP hS (lv_sub hl [0, 2] rfl)
                          · refine lv_aload_n cx.1 cx.2.1 dX7_supplies_179 rfl (lv_at hl 2 rfl) ?_
                            refine zGet (v := .ref (ad 8)) (own := RX7) cx hinX7 hK hP 0 rfl rfl 12 (by decide) (by decide +kernel) rfl rfl dX7_supplies_180 ?_
                            refine lv_aload_n cx.1 cx.2.1 dX7_supplies_183 rfl (lv_at hl 2 rfl) ?_
                            refine zGet (v := .ref (ad 4)) (own := RX7) cx hinX7 hK hP 0 rfl rfl 8 (by decide) (by decide +kernel) rfl rfl dX7_supplies_184 ?_
                            refine lv_iload_n cx.1 cx.2.1 dX7_supplies_187 rfl (lv_at hl 1 rfl) ?_
                            refine zIldN cx hK hP 4 0 rfl rfl (i) (by omega) (by decide) rfl dX7_supplies_188 ?_
                            refine zIld cx hK hP 8 0 rfl rfl ((hn115 i (by omega)).resolve_left (by assumption)) dX7_supplies_189 ?_
                            refine lv_iload_n cx.1 cx.2.1 dX7_supplies_190 rfl (lv_at hl 0 rfl) ?_
                            refine lv_icmp_lt (tgt := 198) cx.1 cx.2.1 dX7_supplies_191 (by decide) (fun c17 => ?_) (fun c17 => ?_)
                            · refine lv_iconst (v := 0) cx.1 cx.2.1 dX7_supplies_198 (by decide) ?_
                              refine zZstN cx (mw_W cyI cyZ ad) hI hK hP hS 9 1 rfl rfl (i) (by omega) (by decide) rfl 0 (by first | rfl | assumption) (zUp T115 8 (upd (T115 8) i 0)) rfl dX7_supplies_199 (fun H locs hP hS => ?_)
                              refine lv_aload_n cx.1 cx.2.1 dX7_supplies_200 rfl (lv_at hl 2 rfl) ?_
                              refine zGet (v := .ref (ad 9)) (own := RX7) cx hinX7 hK hP 0 rfl rfl 13 (by decide) (by decide +kernel) rfl rfl dX7_supplies_201 ?_
                              refine lv_iload_n cx.1 cx.2.1 dX7_supplies_204 rfl (lv_at hl 1 rfl) ?_
                              refine zZldN cx hK hP 9 1 rfl rfl (i) (by omega) (by decide) rfl dX7_supplies_205 ?_
                              rw [show (zUp T115 8 (upd (T115 8) i 0)) 8 i = 0 from pk_us]
                              refine lv_if_eq (tgt := 239) cx.1 cx.2.1 dX7_supplies_206 (by decide) (fun c18 => ?_) (fun c18 => ?_)
                              rotate_left
                              · exact absurd c18 (by decide)
                              refine lv_iinc (v := nI (i + 1)) (lv' := [(1, .int (nI (i + 1))), (2, .int (T115 1 i)), (0, .ref (ad 0))]) cx.1 cx.2.1 dX7_supplies_239 hl (k := 1) rfl (nI_1 i) (by decide) rfl (fun ls hl => ?_)
                              refine lv_goto (tgt := 115) cx.1 cx.2.1 dX7_supplies_242 (by decide) ?_
                              have ha115 : lp_X7_supplies_115 S (lp_X7_supplies_30 S (lp_X7_supplies_2 S S 64) 64) (i + 1) = zUp T115 8 (upd (T115 8) i 0) := by
                                show bd_X7_supplies_115 S i (lp_X7_supplies_115 S (lp_X7_supplies_30 S (lp_X7_supplies_2 S S 64) 64) i) = _
                                rw [hacc115]
                                unfold bd_X7_supplies_115
                                rw [if_pos c10, if_neg c11, if_neg c13, if_neg c15, if_pos c17]
                              exact ih115 (i + 1) (zUp T115 8 (upd (T115 8) i 0)) (by omega) ha115 hn115 (by omega) _ _ ls hP hS (lv_sub hl [0, 2] rfl)
                            · refine lv_iconst (v := 1) cx.1 cx.2.1 dX7_supplies_194 (by decide) ?_
                              refine lv_goto (tgt := 199) cx.1 cx.2.1 dX7_supplies_195 (by decide) ?_
                              refine zZstN cx (mw_W cyI cyZ ad) hI hK hP hS 9 1 rfl rfl (i) (by omega) (by decide) rfl 1 (by first | rfl | assumption) (zUp T115 8 (upd (T115 8) i 1)) rfl dX7_supplies_199 (fun H locs hP hS => ?_)
                              refine lv_aload_n cx.1 cx.2.1 dX7_supplies_200 rfl (lv_at hl 2 rfl) ?_
                              refine zGet (v := .ref (ad 9)) (own := RX7) cx hinX7 hK hP 0 rfl rfl 13 (by decide) (by decide +kernel) rfl rfl dX7_supplies_201 ?_
                              refine lv_iload_n cx.1 cx.2.1 dX7_supplies_204 rfl (lv_at hl 1 rfl) ?_
                              refine zZldN cx hK hP 9 1 rfl rfl (i) (by omega) (by decide) rfl dX7_supplies_205 ?_
                              rw [show (zUp T115 8 (upd (T115 8) i 1)) 8 i = 1 from pk_us]
                              refine lv_if_eq (tgt := 239) cx.1 cx.2.1 dX7_supplies_206 (by decide) (fun c19 => ?_) (fun c19 => ?_)
                              · exact absurd c19 (by decide)
                              refine lv_aload_n cx.1 cx.2.1 dX7_supplies_209 rfl (lv_at hl 2 rfl) ?_
                              refine zGet (v := .ref (ad 7)) (own := RX7) cx hinX7 hK hP 0 rfl rfl 11 (by decide) (by decide +kernel) rfl rfl dX7_supplies_210 ?_
                              refine lv_aload_n cx.1 cx.2.1 dX7_supplies_213 rfl (lv_at hl 2 rfl) ?_
                              refine zGet (v := .ref (ad 4)) (own := RX7) cx hinX7 hK hP 0 rfl rfl 8 (by decide) (by decide +kernel) rfl rfl dX7_supplies_214 ?_
                              refine lv_iload_n cx.1 cx.2.1 dX7_supplies_217 rfl (lv_at hl 1 rfl) ?_
                              refine zIldN cx hK hP 4 0 rfl rfl (i) (by omega) (by decide) rfl dX7_supplies_218 ?_
                              refine lv_dup2_11 cx.1 cx.2.1 dX7_supplies_219 rfl rfl ?_
                              refine zIld cx hK hP 7 0 rfl rfl ((hn115 i (by omega)).resolve_left (by assumption)) dX7_supplies_220 ?_
                              refine lv_iload_n cx.1 cx.2.1 dX7_supplies_221 rfl (lv_at hl 0 rfl) ?_
                              refine lv_isub cx.1 cx.2.1 dX7_supplies_222 ?_
                              refine zIst cx (mw_W cyI cyZ ad) hI hK hP hS 7 0 rfl rfl ((hn115 i (by omega)).resolve_left (by assumption)) (zUp (zUp T115 8 (upd (T115 8) i 1)) 6 (upd (T115 6) (T115 3 i).toNatClampNeg ((T115 6 (T115 3 i).toNatClampNeg) - (T115 1 i)))) rfl dX7_supplies_223 (fun H locs hP hS => ?_)
                              refine lv_aload_n cx.1 cx.2.1 dX7_supplies_224 rfl (lv_at hl 2 rfl) ?_
                              refine zGet (v := .ref (ad 8)) (own := RX7) cx hinX7 hK hP 0 rfl rfl 12 (by decide) (by decide +kernel) rfl rfl dX7_supplies_225 ?_
                              refine lv_aload_n cx.1 cx.2.1 dX7_supplies_228 rfl (lv_at hl 2 rfl) ?_
                              refine zGet (v := .ref (ad 4)) (own := RX7) cx hinX7 hK hP 0 rfl rfl 8 (by decide) (by decide +kernel) rfl rfl dX7_supplies_229 ?_
                              refine lv_iload_n cx.1 cx.2.1 dX7_supplies_232 rfl (lv_at hl 1 rfl) ?_
                              refine zIldN cx hK hP 4 0 rfl rfl (i) (by omega) (by decide) rfl dX7_supplies_233 ?_
                              refine lv_dup2_11 cx.1 cx.2.1 dX7_supplies_234 rfl rfl ?_
                              refine zIld cx hK hP 8 0 rfl rfl ((hn115 i (by omega)).resolve_left (by assumption)) dX7_supplies_235 ?_
                              refine lv_iload_n cx.1 cx.2.1 dX7_supplies_236 rfl (lv_at hl 0 rfl) ?_
                              refine lv_isub cx.1 cx.2.1 dX7_supplies_237 ?_
                              refine zIst cx (mw_W cyI cyZ ad) hI hK hP hS 8 0 rfl rfl ((hn115 i (by omega)).resolve_left (by assumption)) (zUp (zUp (zUp T115 8 (upd (T115 8) i 1)) 6 (upd (T115 6) (T115 3 i).toNatClampNeg ((T115 6 (T115 3 i).toNatClampNeg) - (T115 1 i)))) 7 (upd (T115 7) (T115 3 i).toNatClampNeg ((T115 7 (T115 3 i).toNatClampNeg) - (T115 1 i)))) rfl dX7_supplies_238 (fun H locs hP hS => ?_)
                              refine lv_iinc (v := nI (i + 1)) (lv' := [(1, .int (nI (i + 1))), (2, .int (T115 1 i)), (0, .ref (ad 0))]) cx.1 cx.2.1 dX7_supplies_239 hl (k := 1) rfl (nI_1 i) (by decide) rfl (fun ls hl => ?_)
                              refine lv_goto (tgt := 115) cx.1 cx.2.1 dX7_supplies_242 (by decide) ?_
                              have ha115 : lp_X7_supplies_115 S (lp_X7_supplies_30 S (lp_X7_supplies_2 S S 64) 64) (i + 1) = zUp (zUp (zUp T115 8 (upd (T115 8) i 1)) 6 (upd (T115 6) (T115 3 i).toNatClampNeg ((T115 6 (T115 3 i).toNatClampNeg) - (T115 1 i)))) 7 (upd (T115 7) (T115 3 i).toNatClampNeg ((T115 7 (T115 3 i).toNatClampNeg) - (T115 1 i))) := by
                                show bd_X7_supplies_115 S i (lp_X7_supplies_115 S (lp_X7_supplies_30 S (lp_X7_supplies_2 S S 64) 64) i) = _
                                rw [hacc115]
                                unfold bd_X7_supplies_115
                                rw [if_pos c10, if_neg c11, if_neg c13, if_neg c15, if_neg c17]
                              exact ih115 (i + 1) (zUp (zUp (zUp T115 8 (upd (T115 8) i 1)) 6 (upd (T115 6) (T115 3 i).toNatClampNeg ((T115 6 (T115 3 i).toNatClampNeg) - (T115 1 i)))) 7 (upd (T115 7) (T115 3 i).toNatClampNeg ((T115 7 (T115 3 i).toNatClampNeg) - (T115 1 i)))) (by omega) ha115 hn115 (by omega) _ _ ls hP hS (lv_sub hl [0, 2] rfl)
                    · refine lv_iconst (v := 1) cx.1 cx.2.1 dX7_supplies_130 (by decide) ?_
                      refine lv_goto (tgt := 140) cx.1 cx.2.1 dX7_supplies_131 (by decide) ?_
                      refine lv_istore_n (lv' := [(2, .int 1), (1, .int (nI i)), (0, .ref (ad 0))]) cx.1 cx.2.1 dX7_supplies_140 rfl hl (by decide) rfl (fun ls hl => ?_)
                      refine lv_aload_n cx.1 cx.2.1 dX7_supplies_141 rfl (lv_at hl 2 rfl) ?_
                      refine zGet (v := .ref (ad 9)) (own := RX7) cx hinX7 hK hP 0 rfl rfl 13 (by decide) (by decide +kernel) rfl rfl dX7_supplies_142 ?_
                      refine lv_iload_n cx.1 cx.2.1 dX7_supplies_145 rfl (lv_at hl 1 rfl) ?_
                      refine lv_aload_n cx.1 cx.2.1 dX7_supplies_146 rfl (lv_at hl 2 rfl) ?_
                      refine lv_iload_n cx.1 cx.2.1 dX7_supplies_147 rfl (lv_at hl 1 rfl) ?_
                      refine zThenIx (v := f_X7_isZone T115 i) (S' := T115) hS (zRunV (As := [.int (nI i)]) (rest := [.int (nI i), .ref (ad 9)]) _ 1 cx (c_X7_isZone l dC dI cyI cyZ ad hI T115 i (by omega)) gX7_supplies_X7_isZone rfl ⟨rfl, rfl⟩ (by decide +kernel) ⟨Nat.le_of_ble_eq_true rfl, Nat.le_of_ble_eq_true rfl⟩ (zX_true) trivial hK hP hS 0 rfl rfl rfl rfl hl.1 rfl (Nat.le_of_ble_eq_true rfl) dX7_supplies_148 ⟨Nat.zero_le _, Nat.zero_le _⟩) (fun H locs hP hS => ?_)
                      refine lv_if_eq (tgt := 198) cx.1 cx.2.1 dX7_supplies_151 (by decide) (fun c20 => ?_) (fun c20 => ?_)
                      · refine lv_iconst (v := 0) cx.1 cx.2.1 dX7_supplies_198 (by decide) ?_
                        refine zZstN cx (mw_W cyI cyZ ad) hI hK hP hS 9 1 rfl rfl (i) (by omega) (by decide) rfl 0 (by first | rfl | assumption) (zUp T115 8 (upd (T115 8) i 0)) rfl dX7_supplies_199 (fun H locs hP hS => ?_)
                        refine lv_aload_n cx.1 cx.2.1 dX7_supplies_200 rfl (lv_at hl 2 rfl) ?_
                        refine zGet (v := .ref (ad 9)) (own := RX7) cx hinX7 hK hP 0 rfl rfl 13 (by decide) (by decide +kernel) rfl rfl dX7_supplies_201 ?_
                        refine lv_iload_n cx.1 cx.2.1 dX7_supplies_204 rfl (lv_at hl 1 rfl) ?_
                        refine zZldN cx hK hP 9 1 rfl rfl (i) (by omega) (by decide) rfl dX7_supplies_205 ?_
                        rw [show (zUp T115 8 (upd (T115 8) i 0)) 8 i = 0 from pk_us]
                        refine lv_if_eq (tgt := 239) cx.1 cx.2.1 dX7_supplies_206 (by decide) (fun c21 => ?_) (fun c21 => ?_)
                        rotate_left
                        · exact absurd c21 (by decide)
                        refine lv_iinc (v := nI (i + 1)) (lv' := [(1, .int (nI (i + 1))), (2, .int 1), (0, .ref (ad 0))]) cx.1 cx.2.1 dX7_supplies_239 hl (k := 1) rfl (nI_1 i) (by decide) rfl (fun ls hl => ?_)
                        refine lv_goto (tgt := 115) cx.1 cx.2.1 dX7_supplies_242 (by decide) ?_
                        have ha115 : lp_X7_supplies_115 S (lp_X7_supplies_30 S (lp_X7_supplies_2 S S 64) 64) (i + 1) = zUp T115 8 (upd (T115 8) i 0) := by
                          show bd_X7_supplies_115 S i (lp_X7_supplies_115 S (lp_X7_supplies_30 S (lp_X7_supplies_2 S S 64) 64) i) = _
                          rw [hacc115]
                          unfold bd_X7_supplies_115
                          rw [if_neg (not_not_intro c10), if_pos c20]
                        exact ih115 (i + 1) (zUp T115 8 (upd (T115 8) i 0)) (by omega) ha115 hn115 (by omega) _ _ ls hP hS (lv_sub hl [0, 2] rfl)
                      · refine lv_aload_n cx.1 cx.2.1 dX7_supplies_154 rfl (lv_at hl 2 rfl) ?_
                        refine zGet (v := .ref (ad 4)) (own := RX7) cx hinX7 hK hP 0 rfl rfl 8 (by decide) (by decide +kernel) rfl rfl dX7_supplies_155 ?_
                        refine lv_iload_n cx.1 cx.2.1 dX7_supplies_158 rfl (lv_at hl 1 rfl) ?_
                        refine zIldN cx hK hP 4 0 rfl rfl (i) (by omega) (by decide) rfl dX7_supplies_159 ?_
                        refine lv_iconst (v := (-1)) cx.1 cx.2.1 dX7_supplies_160 (by decide) ?_
                        refine lv_icmp_eq (tgt := 198) cx.1 cx.2.1 dX7_supplies_161 (by decide) (fun c22 => ?_) (fun c22 => ?_)
                        · refine lv_iconst (v := 0) cx.1 cx.2.1 dX7_supplies_198 (by decide) ?_
                          refine zZstN cx (mw_W cyI cyZ ad) hI hK hP hS 9 1 rfl rfl (i) (by omega) (by decide) rfl 0 (by first | rfl | assumption) (zUp T115 8 (upd (T115 8) i 0)) rfl dX7_supplies_199 (fun H locs hP hS => ?_)
                          refine lv_aload_n cx.1 cx.2.1 dX7_supplies_200 rfl (lv_at hl 2 rfl) ?_
                          refine zGet (v := .ref (ad 9)) (own := RX7) cx hinX7 hK hP 0 rfl rfl 13 (by decide) (by decide +kernel) rfl rfl dX7_supplies_201 ?_
                          refine lv_iload_n cx.1 cx.2.1 dX7_supplies_204 rfl (lv_at hl 1 rfl) ?_
                          refine zZldN cx hK hP 9 1 rfl rfl (i) (by omega) (by decide) rfl dX7_supplies_205 ?_
                          rw [show (zUp T115 8 (upd (T115 8) i 0)) 8 i = 0 from pk_us]
                          refine lv_if_eq (tgt := 239) cx.1 cx.2.1 dX7_supplies_206 (by decide) (fun c23 => ?_) (fun c23 => ?_)
                          rotate_left
                          · exact absurd c23 (by decide)
                          refine lv_iinc (v := nI (i + 1)) (lv' := [(1, .int (nI (i + 1))), (2, .int 1), (0, .ref (ad 0))]) cx.1 cx.2.1 dX7_supplies_239 hl (k := 1) rfl (nI_1 i) (by decide) rfl (fun ls hl => ?_)
                          refine lv_goto (tgt := 115) cx.1 cx.2.1 dX7_supplies_242 (by decide) ?_
                          have ha115 : lp_X7_supplies_115 S (lp_X7_supplies_30 S (lp_X7_supplies_2 S S 64) 64) (i + 1) = zUp T115 8 (upd (T115 8) i 0) := by
                            show bd_X7_supplies_115 S i (lp_X7_supplies_115 S (lp_X7_supplies_30 S (lp_X7_supplies_2 S S 64) 64) i) = _
                            rw [hacc115]
                            unfold bd_X7_supplies_115
                            rw [if_neg (not_not_intro c10), if_neg c20, if_pos c22]
                          exact ih115 (i + 1) (zUp T115 8 (upd (T115 8) i 0)) (by omega) ha115 hn115 (by omega) _ _ ls hP hS (lv_sub hl [0, 2] rfl)
                        · refine lv_aload_n cx.1 cx.2.1 dX7_supplies_164 rfl (lv_at hl 2 rfl) ?_
                          refine zGet (v := .ref (ad 7)) (own := RX7) cx hinX7 hK hP 0 rfl rfl 11 (by decide) (by decide +kernel) rfl rfl dX7_supplies_165 ?_
                          refine lv_aload_n cx.1 cx.2.1 dX7_supplies_168 rfl (lv_at hl 2 rfl) ?_
                          refine zGet (v := .ref (ad 4)) (own := RX7) cx hinX7 hK hP 0 rfl rfl 8 (by decide) (by decide +kernel) rfl rfl dX7_supplies_169 ?_
                          refine lv_iload_n cx.1 cx.2.1 dX7_supplies_172 rfl (lv_at hl 1 rfl) ?_
                          refine zIldN cx hK hP 4 0 rfl rfl (i) (by omega) (by decide) rfl dX7_supplies_173 ?_
                          refine zIld cx hK hP 7 0 rfl rfl ((hn115 i (by omega)).resolve_left (by assumption)) dX7_supplies_174 ?_
                          refine lv_iload_n cx.1 cx.2.1 dX7_supplies_175 rfl (lv_at hl 0 rfl) ?_
                          refine lv_icmp_lt (tgt := 198) cx.1 cx.2.1 dX7_supplies_176 (by decide) (fun c24 => ?_) (fun c24 => ?_)
                          · refine lv_iconst (v := 0) cx.1 cx.2.1 dX7_supplies_198 (by decide) ?_
                            refine zZstN cx (mw_W cyI cyZ ad) hI hK hP hS 9 1 rfl rfl (i) (by omega) (by decide) rfl 0 (by first | rfl | assumption) (zUp T115 8 (upd (T115 8) i 0)) rfl dX7_supplies_199 (fun H locs hP hS => ?_)
                            refine lv_aload_n cx.1 cx.2.1 dX7_supplies_200 rfl (lv_at hl 2 rfl) ?_
                            refine zGet (v := .ref (ad 9)) (own := RX7) cx hinX7 hK hP 0 rfl rfl 13 (by decide) (by decide +kernel) rfl rfl dX7_supplies_201 ?_
                            refine lv_iload_n cx.1 cx.2.1 dX7_supplies_204 rfl (lv_at hl 1 rfl) ?_
                            refine zZldN cx hK hP 9 1 rfl rfl (i) (by omega) (by decide) rfl dX7_supplies_205 ?_
                            rw [show (zUp T115 8 (upd (T115 8) i 0)) 8 i = 0 from pk_us]
                            refine lv_if_eq (tgt := 239) cx.1 cx.2.1 dX7_supplies_206 (by decide) (fun c25 => ?_) (fun c25 => ?_)
                            rotate_left
                            · exact absurd c25 (by decide)
                            refine lv_iinc (v := nI (i + 1)) (lv' := [(1, .int (nI (i + 1))), (2, .int 1), (0, .ref (ad 0))]) cx.1 cx.2.1 dX7_supplies_239 hl (k := 1) rfl (nI_1 i) (by decide) rfl (fun ls hl => ?_)
                            refine lv_goto (tgt := 115) cx.1 cx.2.1 dX7_supplies_242 (by decide) ?_
                            have ha115 : lp_X7_supplies_115 S (lp_X7_supplies_30 S (lp_X7_supplies_2 S S 64) 64) (i + 1) = zUp T115 8 (upd (T115 8) i 0) := by
                              show bd_X7_supplies_115 S i (lp_X7_supplies_115 S (lp_X7_supplies_30 S (lp_X7_supplies_2 S S 64) 64) i) = _
                              rw [hacc115]
                              unfold bd_X7_supplies_115
                              rw [if_neg (not_not_intro c10), if_neg c20, if_neg c22, if_pos c24]
                            exact ih115 (i + 1) (zUp T115 8 (upd (T115 8) i 0)) (by omega) ha115 hn115 (by omega) _ _ ls hP hS (lv_sub hl [0, 2] rfl)
                          · refine lv_aload_n cx.1 cx.2.1 dX7_supplies_179 rfl (lv_at hl 2 rfl) ?_
                            refine zGet (v := .ref (ad 8)) (own := RX7) cx hinX7 hK hP 0 rfl rfl 12 (by decide) (by decide +kernel) rfl rfl dX7_supplies_180 ?_
                            refine lv_aload_n cx.1 cx.2.1 dX7_supplies_183 rfl (lv_at hl 2 rfl) ?_
                            refine zGet (v := .ref (ad 4)) (own := RX7) cx hinX7 hK hP 0 rfl rfl 8 (by decide) (by decide +kernel) rfl rfl dX7_supplies_184 ?_
                            refine lv_iload_n cx.1 cx.2.1 dX7_supplies_187 rfl (lv_at hl 1 rfl) ?_
                            refine zIldN cx hK hP 4 0 rfl rfl (i) (by omega) (by decide) rfl dX7_supplies_188 ?_
                            refine zIld cx hK hP 8 0 rfl rfl ((hn115 i (by omega)).resolve_left (by assumption)) dX7_supplies_189 ?_
                            refine lv_iload_n cx.1 cx.2.1 dX7_supplies_190 rfl (lv_at hl 0 rfl) ?_
                            refine lv_icmp_lt (tgt := 198) cx.1 cx.2.1 dX7_supplies_191 (by decide) (fun c26 => ?_) (fun c26 => ?_)
                            · refine lv_iconst (v := 0) cx.1 cx.2.1 dX7_supplies_198 (by decide) ?_
                              refine zZstN cx (mw_W cyI cyZ ad) hI hK hP hS 9 1 rfl rfl (i) (by omega) (by decide) rfl 0 (by first | rfl | assumption) (zUp T115 8 (upd (T115 8) i 0)) rfl dX7_supplies_199 (fun H locs hP hS => ?_)
                              refine lv_aload_n cx.1 cx.2.1 dX7_supplies_200 rfl (lv_at hl 2 rfl) ?_
                              refine zGet (v := .ref (ad 9)) (own := RX7) cx hinX7 hK hP 0 rfl rfl 13 (by decide) (by decide +kernel) rfl rfl dX7_supplies_201 ?_
                              refine lv_iload_n cx.1 cx.2.1 dX7_supplies_204 rfl (lv_at hl 1 rfl) ?_
                              refine zZldN cx hK hP 9 1 rfl rfl (i) (by omega) (by decide) rfl dX7_supplies_205 ?_
                              rw [show (zUp T115 8 (upd (T115 8) i 0)) 8 i = 0 from pk_us]
                              refine lv_if_eq (tgt := 239) cx.1 cx.2.1 dX7_supplies_206 (by decide) (fun c27 => ?_) (fun c27 => ?_)
                              rotate_left
                              · exact absurd c27 (by decide)
                              refine lv_iinc (v := nI (i + 1)) (lv' := [(1, .int (nI (i + 1))), (2, .int 1), (0, .ref (ad 0))]) cx.1 cx.2.1 dX7_supplies_239 hl (k := 1) rfl (nI_1 i) (by decide) rfl (fun ls hl => ?_)
                              refine lv_goto (tgt := 115) cx.1 cx.2.1 dX7_supplies_242 (by decide) ?_
                              have ha115 : lp_X7_supplies_115 S (lp_X7_supplies_30 S (lp_X7_supplies_2 S S 64) 64) (i + 1) = zUp T115 8 (upd (T115 8) i 0) := by
                                show bd_X7_supplies_115 S i (lp_X7_supplies_115 S (lp_X7_supplies_30 S (lp_X7_supplies_2 S S 64) 64) i) = _
                                rw [hacc115]
                                unfold bd_X7_supplies_115
                                rw [if_neg (not_not_intro c10), if_neg c20, if_neg c22, if_neg c24, if_pos c26]
                              exact ih115 (i + 1) (zUp T115 8 (upd (T115 8) i 0)) (by omega) ha115 hn115 (by omega) _ _ ls hP hS (lv_sub hl [0, 2] rfl)
                            · refine lv_iconst (v := 1) cx.1 cx.2.1 dX7_supplies_194 (by decide) ?_
                              refine lv_goto (tgt := 199) cx.1 cx.2.1 dX7_supplies_195 (by decide) ?_
                              refine zZstN cx (mw_W cyI cyZ ad) hI hK hP hS 9 1 rfl rfl (i) (by omega) (by decide) rfl 1 (by first | rfl | assumption) (zUp T115 8 (upd (T115 8) i 1)) rfl dX7_supplies_199 (fun H locs hP hS => ?_)
                              refine lv_aload_n cx.1 cx.2.1 dX7_supplies_200 rfl (lv_at hl 2 rfl) ?_
                              refine zGet (v := .ref (ad 9)) (own := RX7) cx hinX7 hK hP 0 rfl rfl 13 (by decide) (by decide +kernel) rfl rfl dX7_supplies_201 ?_
                              refine lv_iload_n cx.1 cx.2.1 dX7_supplies_204 rfl (lv_at hl 1 rfl) ?_
                              refine zZldN cx hK hP 9 1 rfl rfl (i) (by omega) (by decide) rfl dX7_supplies_205 ?_
                              rw [show (zUp T115 8 (upd (T115 8) i 1)) 8 i = 1 from pk_us]
                              refine lv_if_eq (tgt := 239) cx.1 cx.2.1 dX7_supplies_206 (by decide) (fun c28 => ?_) (fun c28 => ?_)
                              · exact absurd c28 (by decide)
                              refine lv_aload_n cx.1 cx.2.1 dX7_supplies_209 rfl (lv_at hl 2 rfl) ?_
                              refine zGet (v := .ref (ad 7)) (own := RX7) cx hinX7 hK hP 0 rfl rfl 11 (by decide) (by decide +kernel) rfl rfl dX7_supplies_210 ?_
                              refine lv_aload_n cx.1 cx.2.1 dX7_supplies_213 rfl (lv_at hl 2 rfl) ?_
                              refine zGet (v := .ref (ad 4)) (own := RX7) cx hinX7 hK hP 0 rfl rfl 8 (by decide) (by decide +kernel) rfl rfl dX7_supplies_214 ?_
                              refine lv_iload_n cx.1 cx.2.1 dX7_supplies_217 rfl (lv_at hl 1 rfl) ?_
                              refine zIldN cx hK hP 4 0 rfl rfl (i) (by omega) (by decide) rfl dX7_supplies_218 ?_
                              refine lv_dup2_11 cx.1 cx.2.1 dX7_supplies_219 rfl rfl ?_
                              refine zIld cx hK hP 7 0 rfl rfl ((hn115 i (by omega)).resolve_left (by assumption)) dX7_supplies_220 ?_
                              refine lv_iload_n cx.1 cx.2.1 dX7_supplies_221 rfl (lv_at hl 0 rfl) ?_
                              refine lv_isub cx.1 cx.2.1 dX7_supplies_222 ?_
                              refine zIst cx (mw_W cyI cyZ ad) hI hK hP hS 7 0 rfl rfl ((hn115 i (by omega)).resolve_left (by assumption)) (zUp (zUp T115 8 (upd (T115 8) i 1)) 6 (upd (T115 6) (T115 3 i).toNatClampNeg ((T115 6 (T115 3 i).toNatClampNeg) - 1))) rfl dX7_supplies_223 (fun H locs hP hS => ?_)
                              refine lv_aload_n cx.1 cx.2.1 dX7_supplies_224 rfl (lv_at hl 2 rfl) ?_
                              refine zGet (v := .ref (ad 8)) (own := RX7) cx hinX7 hK hP 0 rfl rfl 12 (by decide) (by decide +kernel) rfl rfl dX7_supplies_225 ?_
                              refine lv_aload_n cx.1 cx.2.1 dX7_supplies_228 rfl (lv_at hl 2 rfl) ?_
                              refine zGet (v := .ref (ad 4)) (own := RX7) cx hinX7 hK hP 0 rfl rfl 8 (by decide) (by decide +kernel) rfl rfl dX7_supplies_229 ?_
                              refine lv_iload_n cx.1 cx.2.1 dX7_supplies_232 rfl (lv_at hl 1 rfl) ?_
                              refine zIldN cx hK hP 4 0 rfl rfl (i) (by omega) (by decide) rfl dX7_supplies_233 ?_
                              refine lv_dup2_11 cx.1 cx.2.1 dX7_supplies_234 rfl rfl ?_
                              refine zIld cx hK hP 8 0 rfl rfl ((hn115 i (by omega)).resolve_left (by assumption)) dX7_supplies_235 ?_
                              refine lv_iload_n cx.1 cx.2.1 dX7_supplies_236 rfl (lv_at hl 0 rfl) ?_
                              refine lv_isub cx.1 cx.2.1 dX7_supplies_237 ?_
                              refine zIst cx (mw_W cyI cyZ ad) hI hK hP hS 8 0 rfl rfl ((hn115 i (by omega)).resolve_left (by assumption)) (zUp (zUp (zUp T115 8 (upd (T115 8) i 1)) 6 (upd (T115 6) (T115 3 i).toNatClampNeg ((T115 6 (T115 3 i).toNatClampNeg) - 1))) 7 (upd (T115 7) (T115 3 i).toNatClampNeg ((T115 7 (T115 3 i).toNatClampNeg) - 1))) rfl dX7_supplies_238 (fun H locs hP hS => ?_)
                              refine lv_iinc (v := nI (i + 1)) (lv' := [(1, .int (nI (i + 1))), (2, .int 1), (0, .ref (ad 0))]) cx.1 cx.2.1 dX7_supplies_239 hl (k := 1) rfl (nI_1 i) (by decide) rfl (fun ls hl => ?_)
                              refine lv_goto (tgt := 115) cx.1 cx.2.1 dX7_supplies_242 (by decide) ?_
                              have ha115 : lp_X7_supplies_115 S (lp_X7_supplies_30 S (lp_X7_supplies_2 S S 64) 64) (i + 1) = zUp (zUp (zUp T115 8 (upd (T115 8) i 1)) 6 (upd (T115 6) (T115 3 i).toNatClampNeg ((T115 6 (T115 3 i).toNatClampNeg) - 1))) 7 (upd (T115 7) (T115 3 i).toNatClampNeg ((T115 7 (T115 3 i).toNatClampNeg) - 1)) := by
                                show bd_X7_supplies_115 S i (lp_X7_supplies_115 S (lp_X7_supplies_30 S (lp_X7_supplies_2 S S 64) 64) i) = _
                                rw [hacc115]
                                unfold bd_X7_supplies_115
                                rw [if_neg (not_not_intro c10), if_neg c20, if_neg c22, if_neg c24, if_neg c26]
                              exact ih115 (i + 1) (zUp (zUp (zUp T115 8 (upd (T115 8) i 1)) 6 (upd (T115 6) (T115 3 i).toNatClampNeg ((T115 6 (T115 3 i).toNatClampNeg) - 1))) 7 (upd (T115 7) (T115 3 i).toNatClampNeg ((T115 7 (T115 3 i).toNatClampNeg) - 1))) (by omega) ha115 hn115 (by omega) _ _ ls hP hS (lv_sub hl [0, 2] rfl)
              exact lp115 (64 - 0 + 1) 0 (lp_X7_supplies_30 S (lp_X7_supplies_2 S S 64) 64) (by omega) rfl hn30 (Nat.lt_succ_self _) _ _ ls hP hS (lv_sub hl [0, 1] rfl)
            · have nc3 : ¬ 64 ≤ i := fun z => c3 ((nI_leI (a := 64) (b := i) (by first | decide | omega) (by first | decide | omega)).mpr z)
              refine lv_aload_n cx.1 cx.2.1 dX7_supplies_36 rfl (lv_at hl 1 rfl) ?_
              refine zGet (v := .ref (ad 4)) (own := RX7) cx hinX7 hK hP 0 rfl rfl 8 (by decide) (by decide +kernel) rfl rfl dX7_supplies_37 ?_
              refine lv_iload_n cx.1 cx.2.1 dX7_supplies_40 rfl (lv_at hl 0 rfl) ?_
              refine zIldN cx hK hP 4 0 rfl rfl (i) (by omega) (by decide) rfl dX7_supplies_41 ?_
              refine lv_iconst (v := (-1)) cx.1 cx.2.1 dX7_supplies_42 (by decide) ?_
              refine lv_icmp_eq (tgt := 107) cx.1 cx.2.1 dX7_supplies_43 (by decide) (fun c4 => ?_) (fun c4 => ?_)
              · refine lv_iinc (v := nI (i + 1)) (lv' := [(1, .int (nI (i + 1))), (0, .ref (ad 0))]) cx.1 cx.2.1 dX7_supplies_107 hl (k := 0) rfl (nI_1 i) (by decide) rfl (fun ls hl => ?_)
                refine lv_goto (tgt := 30) cx.1 cx.2.1 dX7_supplies_110 (by decide) ?_
                have ha30 : lp_X7_supplies_30 S (lp_X7_supplies_2 S S 64) (i + 1) = T30 := by
                  show bd_X7_supplies_30 S i (lp_X7_supplies_30 S (lp_X7_supplies_2 S S 64) i) = _
                  rw [hacc30]
                  unfold bd_X7_supplies_30
                  rw [if_pos c4]
                exact ih30 (i + 1) T30 (by omega) ha30 hn30 (by omega) _ _ ls hP hS (lv_sub hl [0, 1] rfl)
              · refine lv_aload_n cx.1 cx.2.1 dX7_supplies_46 rfl (lv_at hl 1 rfl) ?_
                refine zGet (v := .ref (ad 7)) (own := RX7) cx hinX7 hK hP 0 rfl rfl 11 (by decide) (by decide +kernel) rfl rfl dX7_supplies_47 ?_
                refine lv_aload_n cx.1 cx.2.1 dX7_supplies_50 rfl (lv_at hl 1 rfl) ?_
                refine zGet (v := .ref (ad 4)) (own := RX7) cx hinX7 hK hP 0 rfl rfl 8 (by decide) (by decide +kernel) rfl rfl dX7_supplies_51 ?_
                refine lv_iload_n cx.1 cx.2.1 dX7_supplies_54 rfl (lv_at hl 0 rfl) ?_
                refine zIldN cx hK hP 4 0 rfl rfl (i) (by omega) (by decide) rfl dX7_supplies_55 ?_
                refine lv_dup2_11 cx.1 cx.2.1 dX7_supplies_56 rfl rfl ?_
                refine zIld cx hK hP 7 0 rfl rfl ((hn30 i (by omega)).resolve_left (by assumption)) dX7_supplies_57 ?_
                refine lv_aload_n cx.1 cx.2.1 dX7_supplies_58 rfl (lv_at hl 1 rfl) ?_
                refine zGet (v := .ref (ad 1)) (own := RX7) cx hinX7 hK hP 0 rfl rfl 5 (by decide) (by decide +kernel) rfl rfl dX7_supplies_59 ?_
                refine lv_iload_n cx.1 cx.2.1 dX7_supplies_62 rfl (lv_at hl 0 rfl) ?_
                refine zIldN cx hK hP 1 0 rfl rfl (i) (by omega) (by decide) rfl dX7_supplies_63 ?_
                refine lv_iconst (v := 5) cx.1 cx.2.1 dX7_supplies_64 (by decide) ?_
                refine lv_icmp_ne (tgt := 73) cx.1 cx.2.1 dX7_supplies_65 (by decide) (fun c5 => ?_) (fun c5 => ?_)
                · refine lv_iconst (v := 0) cx.1 cx.2.1 dX7_supplies_73 (by decide) ?_
                  refine lv_iadd cx.1 cx.2.1 dX7_supplies_74 ?_
                  refine zIst cx (mw_W cyI cyZ ad) hI hK hP hS 7 0 rfl rfl ((hn30 i (by omega)).resolve_left (by assumption)) (zUp T30 6 (upd (T30 6) (T30 3 i).toNatClampNeg ((T30 6 (T30 3 i).toNatClampNeg) + 0))) rfl dX7_supplies_75 (fun H locs hP hS => ?_)
                  refine lv_aload_n cx.1 cx.2.1 dX7_supplies_76 rfl (lv_at hl 1 rfl) ?_
                  refine zGet (v := .ref (ad 8)) (own := RX7) cx hinX7 hK hP 0 rfl rfl 12 (by decide) (by decide +kernel) rfl rfl dX7_supplies_77 ?_
                  refine lv_aload_n cx.1 cx.2.1 dX7_supplies_80 rfl (lv_at hl 1 rfl) ?_
                  refine zGet (v := .ref (ad 4)) (own := RX7) cx hinX7 hK hP 0 rfl rfl 8 (by decide) (by decide +kernel) rfl rfl dX7_supplies_81 ?_
                  refine lv_iload_n cx.1 cx.2.1 dX7_supplies_84 rfl (lv_at hl 0 rfl) ?_
                  refine zIldN cx hK hP 4 0 rfl rfl (i) (by omega) (by decide) rfl dX7_supplies_85 ?_
                  refine lv_dup2_11 cx.1 cx.2.1 dX7_supplies_86 rfl rfl ?_
                  refine zIld cx hK hP 8 0 rfl rfl ((hn30 i (by omega)).resolve_left (by assumption)) dX7_supplies_87 ?_
                  refine lv_aload_n cx.1 cx.2.1 dX7_supplies_88 rfl (lv_at hl 1 rfl) ?_
                  refine zGet (v := .ref (ad 1)) (own := RX7) cx hinX7 hK hP 0 rfl rfl 5 (by decide) (by decide +kernel) rfl rfl dX7_supplies_89 ?_
                  refine lv_iload_n cx.1 cx.2.1 dX7_supplies_92 rfl (lv_at hl 0 rfl) ?_
                  refine zIldN cx hK hP 1 0 rfl rfl (i) (by omega) (by decide) rfl dX7_supplies_93 ?_
                  refine lv_bipush (v := 6) cx.1 cx.2.1 dX7_supplies_94 (by decide) ?_
                  refine lv_icmp_ne (tgt := 104) cx.1 cx.2.1 dX7_supplies_96 (by decide) (fun c6 => ?_) (fun c6 => ?_)
                  · have c6 : ¬ (T30 0 i) = 6 := c6
                    refine lv_iconst (v := 0) cx.1 cx.2.1 dX7_supplies_104 (by decide) ?_
                    refine lv_iadd cx.1 cx.2.1 dX7_supplies_105 ?_
                    refine zIst cx (mw_W cyI cyZ ad) hI hK hP hS 8 0 rfl rfl ((hn30 i (by omega)).resolve_left (by assumption)) (zUp (zUp T30 6 (upd (T30 6) (T30 3 i).toNatClampNeg ((T30 6 (T30 3 i).toNatClampNeg) + 0))) 7 (upd (T30 7) (T30 3 i).toNatClampNeg ((T30 7 (T30 3 i).toNatClampNeg) + 0))) rfl dX7_supplies_106 (fun H locs hP hS => ?_)
                    refine lv_iinc (v := nI (i + 1)) (lv' := [(1, .int (nI (i + 1))), (0, .ref (ad 0))]) cx.1 cx.2.1 dX7_supplies_107 hl (k := 0) rfl (nI_1 i) (by decide) rfl (fun ls hl => ?_)
                    refine lv_goto (tgt := 30) cx.1 cx.2.1 dX7_supplies_110 (by decide) ?_
                    have ha30 : lp_X7_supplies_30 S (lp_X7_supplies_2 S S 64) (i + 1) = zUp (zUp T30 6 (upd (T30 6) (T30 3 i).toNatClampNeg ((T30 6 (T30 3 i).toNatClampNeg) + 0))) 7 (upd (T30 7) (T30 3 i).toNatClampNeg ((T30 7 (T30 3 i).toNatClampNeg) + 0)) := by
                      show bd_X7_supplies_30 S i (lp_X7_supplies_30 S (lp_X7_supplies_2 S S 64) i) = _
                      rw [hacc30]
                      unfold bd_X7_supplies_30
                      rw [if_neg c4, if_pos c5, if_pos c6]
                    exact ih30 (i + 1) (zUp (zUp T30 6 (upd (T30 6) (T30 3 i).toNatClampNeg ((T30 6 (T30 3 i).toNatClampNeg) + 0))) 7 (upd (T30 7) (T30 3 i).toNatClampNeg ((T30 7 (T30 3 i).toNatClampNeg) + 0))) (by omega) ha30 hn30 (by omega) _ _ ls hP hS (lv_sub hl [0, 1] rfl)
                  · have c6 : (T30 0 i) = 6 := c6
                    refine lv_bipush (v := 20) cx.1 cx.2.1 dX7_supplies_99 (by decide) ?_
                    refine lv_goto (tgt := 105) cx.1 cx.2.1 dX7_supplies_101 (by decide) ?_
                    refine lv_iadd cx.1 cx.2.1 dX7_supplies_105 ?_
                    refine zIst cx (mw_W cyI cyZ ad) hI hK hP hS 8 0 rfl rfl ((hn30 i (by omega)).resolve_left (by assumption)) (zUp (zUp T30 6 (upd (T30 6) (T30 3 i).toNatClampNeg ((T30 6 (T30 3 i).toNatClampNeg) + 0))) 7 (upd (T30 7) (T30 3 i).toNatClampNeg ((T30 7 (T30 3 i).toNatClampNeg) + 20))) rfl dX7_supplies_106 (fun H locs hP hS => ?_)
                    refine lv_iinc (v := nI (i + 1)) (lv' := [(1, .int (nI (i + 1))), (0, .ref (ad 0))]) cx.1 cx.2.1 dX7_supplies_107 hl (k := 0) rfl (nI_1 i) (by decide) rfl (fun ls hl => ?_)
                    refine lv_goto (tgt := 30) cx.1 cx.2.1 dX7_supplies_110 (by decide) ?_
                    have ha30 : lp_X7_supplies_30 S (lp_X7_supplies_2 S S 64) (i + 1) = zUp (zUp T30 6 (upd (T30 6) (T30 3 i).toNatClampNeg ((T30 6 (T30 3 i).toNatClampNeg) + 0))) 7 (upd (T30 7) (T30 3 i).toNatClampNeg ((T30 7 (T30 3 i).toNatClampNeg) + 20)) := by
                      show bd_X7_supplies_30 S i (lp_X7_supplies_30 S (lp_X7_supplies_2 S S 64) i) = _
                      rw [hacc30]
                      unfold bd_X7_supplies_30
                      rw [if_neg c4, if_pos c5, if_neg (not_not_intro c6)]
                    exact ih30 (i + 1) (zUp (zUp T30 6 (upd (T30 6) (T30 3 i).toNatClampNeg ((T30 6 (T30 3 i).toNatClampNeg) + 0))) 7 (upd (T30 7) (T30 3 i).toNatClampNeg ((T30 7 (T30 3 i).toNatClampNeg) + 20))) (by omega) ha30 hn30 (by omega) _ _ ls hP hS (lv_sub hl [0, 1] rfl)
                · refine lv_bipush (v := 20) cx.1 cx.2.1 dX7_supplies_68 (by decide) ?_
                  refine lv_goto (tgt := 74) cx.1 cx.2.1 dX7_supplies_70 (by decide) ?_
                  refine lv_iadd cx.1 cx.2.1 dX7_supplies_74 ?_
                  refine zIst cx (mw_W cyI cyZ ad) hI hK hP hS 7 0 rfl rfl ((hn30 i (by omega)).resolve_left (by assumption)) (zUp T30 6 (upd (T30 6) (T30 3 i).toNatClampNeg ((T30 6 (T30 3 i).toNatClampNeg) + 20))) rfl dX7_supplies_75 (fun H locs hP hS => ?_)
                  refine lv_aload_n cx.1 cx.2.1 dX7_supplies_76 rfl (lv_at hl 1 rfl) ?_
                  refine zGet (v := .ref (ad 8)) (own := RX7) cx hinX7 hK hP 0 rfl rfl 12 (by decide) (by decide +kernel) rfl rfl dX7_supplies_77 ?_
                  refine lv_aload_n cx.1 cx.2.1 dX7_supplies_80 rfl (lv_at hl 1 rfl) ?_
                  refine zGet (v := .ref (ad 4)) (own := RX7) cx hinX7 hK hP 0 rfl rfl 8 (by decide) (by decide +kernel) rfl rfl dX7_supplies_81 ?_
                  refine lv_iload_n cx.1 cx.2.1 dX7_supplies_84 rfl (lv_at hl 0 rfl) ?_
                  refine zIldN cx hK hP 4 0 rfl rfl (i) (by omega) (by decide) rfl dX7_supplies_85 ?_
                  refine lv_dup2_11 cx.1 cx.2.1 dX7_supplies_86 rfl rfl ?_
                  refine zIld cx hK hP 8 0 rfl rfl ((hn30 i (by omega)).resolve_left (by assumption)) dX7_supplies_87 ?_
                  refine lv_aload_n cx.1 cx.2.1 dX7_supplies_88 rfl (lv_at hl 1 rfl) ?_
                  refine zGet (v := .ref (ad 1)) (own := RX7) cx hinX7 hK hP 0 rfl rfl 5 (by decide) (by decide +kernel) rfl rfl dX7_supplies_89 ?_
                  refine lv_iload_n cx.1 cx.2.1 dX7_supplies_92 rfl (lv_at hl 0 rfl) ?_
                  refine zIldN cx hK hP 1 0 rfl rfl (i) (by omega) (by decide) rfl dX7_supplies_93 ?_
                  refine lv_bipush (v := 6) cx.1 cx.2.1 dX7_supplies_94 (by decide) ?_
                  refine lv_icmp_ne (tgt := 104) cx.1 cx.2.1 dX7_supplies_96 (by decide) (fun c7 => ?_) (fun c7 => ?_)
                  · have c7 : ¬ (T30 0 i) = 6 := c7
                    refine lv_iconst (v := 0) cx.1 cx.2.1 dX7_supplies_104 (by decide) ?_
                    refine lv_iadd cx.1 cx.2.1 dX7_supplies_105 ?_
                    refine zIst cx (mw_W cyI cyZ ad) hI hK hP hS 8 0 rfl rfl ((hn30 i (by omega)).resolve_left (by assumption)) (zUp (zUp T30 6 (upd (T30 6) (T30 3 i).toNatClampNeg ((T30 6 (T30 3 i).toNatClampNeg) + 20))) 7 (upd (T30 7) (T30 3 i).toNatClampNeg ((T30 7 (T30 3 i).toNatClampNeg) + 0))) rfl dX7_supplies_106 (fun H locs hP hS => ?_)
                    refine lv_iinc (v := nI (i + 1)) (lv' := [(1, .int (nI (i + 1))), (0, .ref (ad 0))]) cx.1 cx.2.1 dX7_supplies_107 hl (k := 0) rfl (nI_1 i) (by decide) rfl (fun ls hl => ?_)
                    refine lv_goto (tgt := 30) cx.1 cx.2.1 dX7_supplies_110 (by decide) ?_
                    have ha30 : lp_X7_supplies_30 S (lp_X7_supplies_2 S S 64) (i + 1) = zUp (zUp T30 6 (upd (T30 6) (T30 3 i).toNatClampNeg ((T30 6 (T30 3 i).toNatClampNeg) + 20))) 7 (upd (T30 7) (T30 3 i).toNatClampNeg ((T30 7 (T30 3 i).toNatClampNeg) + 0)) := by
                      show bd_X7_supplies_30 S i (lp_X7_supplies_30 S (lp_X7_supplies_2 S S 64) i) = _
                      rw [hacc30]
                      unfold bd_X7_supplies_30
                      rw [if_neg c4, if_neg (not_not_intro c5), if_pos c7]
                    exact ih30 (i + 1) (zUp (zUp T30 6 (upd (T30 6) (T30 3 i).toNatClampNeg ((T30 6 (T30 3 i).toNatClampNeg) + 20))) 7 (upd (T30 7) (T30 3 i).toNatClampNeg ((T30 7 (T30 3 i).toNatClampNeg) + 0))) (by omega) ha30 hn30 (by omega) _ _ ls hP hS (lv_sub hl [0, 1] rfl)
                  · have c7 : (T30 0 i) = 6 := c7
                    refine lv_bipush (v := 20) cx.1 cx.2.1 dX7_supplies_99 (by decide) ?_
                    refine lv_goto (tgt := 105) cx.1 cx.2.1 dX7_supplies_101 (by decide) ?_
                    refine lv_iadd cx.1 cx.2.1 dX7_supplies_105 ?_
                    refine zIst cx (mw_W cyI cyZ ad) hI hK hP hS 8 0 rfl rfl ((hn30 i (by omega)).resolve_left (by assumption)) (zUp (zUp T30 6 (upd (T30 6) (T30 3 i).toNatClampNeg ((T30 6 (T30 3 i).toNatClampNeg) + 20))) 7 (upd (T30 7) (T30 3 i).toNatClampNeg ((T30 7 (T30 3 i).toNatClampNeg) + 20))) rfl dX7_supplies_106 (fun H locs hP hS => ?_)
                    refine lv_iinc (v := nI (i + 1)) (lv' := [(1, .int (nI (i + 1))), (0, .ref (ad 0))]) cx.1 cx.2.1 dX7_supplies_107 hl (k := 0) rfl (nI_1 i) (by decide) rfl (fun ls hl => ?_)
                    refine lv_goto (tgt := 30) cx.1 cx.2.1 dX7_supplies_110 (by decide) ?_
                    have ha30 : lp_X7_supplies_30 S (lp_X7_supplies_2 S S 64) (i + 1) = zUp (zUp T30 6 (upd (T30 6) (T30 3 i).toNatClampNeg ((T30 6 (T30 3 i).toNatClampNeg) + 20))) 7 (upd (T30 7) (T30 3 i).toNatClampNeg ((T30 7 (T30 3 i).toNatClampNeg) + 20)) := by
                      show bd_X7_supplies_30 S i (lp_X7_supplies_30 S (lp_X7_supplies_2 S S 64) i) = _
                      rw [hacc30]
                      unfold bd_X7_supplies_30
                      rw [if_neg c4, if_neg (not_not_intro c5), if_neg (not_not_intro c7)]
                    exact ih30 (i + 1) (zUp (zUp T30 6 (upd (T30 6) (T30 3 i).toNatClampNeg ((T30 6 (T30 3 i).toNatClampNeg) + 20))) 7 (upd (T30 7) (T30 3 i).toNatClampNeg ((T30 7 (T30 3 i).toNatClampNeg) + 20))) (by omega) ha30 hn30 (by omega) _ _ ls hP hS (lv_sub hl [0, 1] rfl)
        exact lp30 (64 - 0 + 1) 0 (lp_X7_supplies_2 S S 64) (by omega) rfl hn2 (Nat.lt_succ_self _) _ _ ls hP hS (lv_sub hl [0, 1] rfl)
      · have nc1 : ¬ 64 ≤ i := fun z => c1 ((nI_leI (a := 64) (b := i) (by first | decide | omega) (by first | decide | omega)).mpr z)
        refine lv_aload_n cx.1 cx.2.1 dX7_supplies_8 rfl (lv_at hl 1 rfl) ?_
        refine zGet (v := .ref (ad 7)) (own := RX7) cx hinX7 hK hP 0 rfl rfl 11 (by decide) (by decide +kernel) rfl rfl dX7_supplies_9 ?_
        refine lv_iload_n cx.1 cx.2.1 dX7_supplies_12 rfl (lv_at hl 0 rfl) ?_
        refine lv_iconst (v := 0) cx.1 cx.2.1 dX7_supplies_13 (by decide) ?_
        refine zIstN cx (mw_W cyI cyZ ad) hI hK hP hS 7 0 rfl rfl (i) (by omega) (by decide) rfl (zUp T2 6 (upd (T2 6) i 0)) rfl dX7_supplies_14 (fun H locs hP hS => ?_)
        refine lv_aload_n cx.1 cx.2.1 dX7_supplies_15 rfl (lv_at hl 1 rfl) ?_
        refine zGet (v := .ref (ad 8)) (own := RX7) cx hinX7 hK hP 0 rfl rfl 12 (by decide) (by decide +kernel) rfl rfl dX7_supplies_16 ?_
        refine lv_iload_n cx.1 cx.2.1 dX7_supplies_19 rfl (lv_at hl 0 rfl) ?_
        refine lv_iconst (v := 0) cx.1 cx.2.1 dX7_supplies_20 (by decide) ?_
        refine zIstN cx (mw_W cyI cyZ ad) hI hK hP hS 8 0 rfl rfl (i) (by omega) (by decide) rfl (zUp (zUp T2 6 (upd (T2 6) i 0)) 7 (upd (T2 7) i 0)) rfl dX7_supplies_21 (fun H locs hP hS => ?_)
        refine lv_iinc (v := nI (i + 1)) (lv' := [(1, .int (nI (i + 1))), (0, .ref (ad 0))]) cx.1 cx.2.1 dX7_supplies_22 hl (k := 0) rfl (nI_1 i) (by decide) rfl (fun ls hl => ?_)
        refine lv_goto (tgt := 2) cx.1 cx.2.1 dX7_supplies_25 (by decide) ?_
        have ha2 : lp_X7_supplies_2 S S (i + 1) = zUp (zUp T2 6 (upd (T2 6) i 0)) 7 (upd (T2 7) i 0) := by
          show bd_X7_supplies_2 S i (lp_X7_supplies_2 S S i) = _
          rw [hacc2]
          unfold bd_X7_supplies_2
          rfl
        exact ih2 (i + 1) (zUp (zUp T2 6 (upd (T2 6) i 0)) 7 (upd (T2 7) i 0)) (by omega) ha2 hn2 (by omega) _ _ ls hP hS (lv_sub hl [0, 1] rfl)
  exact lp2 (64 - 0 + 1) 0 S (by omega) rfl hn (Nat.lt_succ_self _) _ _ ls hP hS (lv_sub hl [0, 1] rfl)

set_option maxHeartbeats 4000000 in
set_option maxRecDepth 100000 in
theorem c_X7_goes (l : Launch) (dC : Nat → ClassId) (dI : Nat → Nat → Nat) (cyI cyZ : ClassId) (ad : Nat → Nat) (hI : zI ad 14) (S : zS) (nh : Nat) (nt : Nat) (xm : Int32) (hh : nh < 64) (ht : nt < 64) (hg : gP S nh nt) : zMv l (dC, dI) [(cyI, .int), (cyZ, .boolean)] ad 14 (fun _ _ => True) (mw cyI cyZ ad) yX7_goes wsX7_goes ({ frames := 1, cells := 0, slots := 0, locals := 23 } : Room) [.ref (ad 0), .int (nI nh), .int (nI nt), .int xm] S (fun T => T = g_X7_goes S nh nt xm) := by
  refine zStartV (by decide) rfl (Nat.le_of_ble_eq_true rfl) ?_
  intro p e s m args below meth c ls cx hrt hlk hP hK hXs hl
  have hl : lv_has ls 9 [(0, .ref (ad 0)), (1, .int (nI nh)), (2, .int (nI nt)), (3, .int xm)] := hl
  have hS : va_S (zA ad 14 s.heap.size) s.heap s.heap [] := va_S.rf
  have hinX7 : ∀ w ∈ u_ws RX7 TX7 19, w ∈ wsX7_goes := by decide +kernel
  obtain ⟨Q, hQ⟩ : ∃ Q, Q = MQ below (zQv (dC, dI) (mw cyI cyZ ad) (fun T => T = g_X7_goes S nh nt xm) (zA ad 14 s.heap.size)) args s 0 0 (zA ad 14 s.heap.size) := ⟨_, rfl⟩
  rw [← hQ]
  obtain ⟨ga, gb, hga, hgb, ea, eb, hFS, gl, hgl, el⟩ := hg
  have hva : vp_in (S 2 nh) 64 := by rw [ea]; exact vp_in_nI hga (by decide)
  have hvb : vp_in (S 2 nt) 64 := by rw [eb]; exact vp_in_nI hgb (by decide)
  refine lv_aload_n cx.1 cx.2.1 dX7_goes_0 rfl (lv_at hl 0 rfl) ?_
  refine zGet (v := .ref (ad 11)) (own := RX7) cx hinX7 hK hP 0 rfl rfl 15 (by decide) (by decide +kernel) rfl rfl dX7_goes_1 ?_
  refine lv_bipush (v := 64) cx.1 cx.2.1 dX7_goes_4 (by decide) ?_
  refine lv_iload_n cx.1 cx.2.1 dX7_goes_6 rfl (lv_at hl 1 rfl) ?_
  refine zMulN (a := 64) (b := nh) cx.1 cx.2.1 dX7_goes_7 ?_
  refine lv_iload_n cx.1 cx.2.1 dX7_goes_8 rfl (lv_at hl 2 rfl) ?_
  refine zAddN (a := 64 * nh) (b := nt) cx.1 cx.2.1 dX7_goes_9 ?_
  refine lv_iload_n cx.1 cx.2.1 dX7_goes_10 rfl (lv_at hl 3 rfl) ?_
  refine zIstN cx (mw_W cyI cyZ ad) hI hK hP hS 11 0 rfl rfl (64 * nh + nt) (by omega) (by decide) rfl (zUp S 10 (upd (S 10) (64 * nh + nt) xm)) rfl dX7_goes_11 (fun H locs hP hS => ?_)
  refine lv_aload_n cx.1 cx.2.1 dX7_goes_12 rfl (lv_at hl 0 rfl) ?_
  refine zGet (v := .ref (ad 10)) (own := RX7) cx hinX7 hK hP 0 rfl rfl 14 (by decide) (by decide +kernel) rfl rfl dX7_goes_13 ?_
  refine lv_iload_n cx.1 cx.2.1 dX7_goes_16 rfl (lv_at hl 1 rfl) ?_
  refine lv_dup2_11 cx.1 cx.2.1 dX7_goes_17 rfl rfl ?_
  refine zIldN cx hK hP 10 0 rfl rfl (nh) (by omega) (by decide) rfl dX7_goes_18 ?_
  refine lv_iload_n cx.1 cx.2.1 dX7_goes_19 rfl (lv_at hl 3 rfl) ?_
  refine lv_iadd cx.1 cx.2.1 dX7_goes_20 ?_
  refine zIstN cx (mw_W cyI cyZ ad) hI hK hP hS 10 0 rfl rfl (nh) (by omega) (by decide) rfl (zUp (zUp S 10 (upd (S 10) (64 * nh + nt) xm)) 9 (upd (S 9) nh ((S 9 nh) + xm))) rfl dX7_goes_21 (fun H locs hP hS => ?_)
  refine lv_aload_n cx.1 cx.2.1 dX7_goes_22 rfl (lv_at hl 0 rfl) ?_
  refine zGet (v := .ref (ad 10)) (own := RX7) cx hinX7 hK hP 0 rfl rfl 14 (by decide) (by decide +kernel) rfl rfl dX7_goes_23 ?_
  refine lv_iload_n cx.1 cx.2.1 dX7_goes_26 rfl (lv_at hl 2 rfl) ?_
  refine lv_dup2_11 cx.1 cx.2.1 dX7_goes_27 rfl rfl ?_
  refine zIldN cx hK hP 10 0 rfl rfl (nt) (by omega) (by decide) rfl dX7_goes_28 ?_
  refine lv_iload_n cx.1 cx.2.1 dX7_goes_29 rfl (lv_at hl 3 rfl) ?_
  refine lv_iadd cx.1 cx.2.1 dX7_goes_30 ?_
  refine zIstN cx (mw_W cyI cyZ ad) hI hK hP hS 10 0 rfl rfl (nt) (by omega) (by decide) rfl (zUp (zUp (zUp S 10 (upd (S 10) (64 * nh + nt) xm)) 9 (upd (S 9) nh ((S 9 nh) + xm))) 9 (upd (upd (S 9) nh ((S 9 nh) + xm)) nt (((upd (S 9) nh ((S 9 nh) + xm)) nt) + xm))) rfl dX7_goes_31 (fun H locs hP hS => ?_)
  refine lv_aload_n cx.1 cx.2.1 dX7_goes_32 rfl (lv_at hl 0 rfl) ?_
  refine zGet (v := .ref (ad 3)) (own := RX7) cx hinX7 hK hP 0 rfl rfl 7 (by decide) (by decide +kernel) rfl rfl dX7_goes_33 ?_
  refine lv_iload_n cx.1 cx.2.1 dX7_goes_36 rfl (lv_at hl 2 rfl) ?_
  refine zIldN cx hK hP 3 0 rfl rfl (nt) (by omega) (by decide) rfl dX7_goes_37 ?_
  refine lv_istore (lv' := [(4, .int (S 2 nt)), (0, .ref (ad 0)), (1, .int (nI nh)), (2, .int (nI nt)), (3, .int xm)]) cx.1 cx.2.1 dX7_goes_38 hl (by decide) rfl (fun ls hl => ?_)
  refine lv_aload_n cx.1 cx.2.1 dX7_goes_40 rfl (lv_at hl 1 rfl) ?_
  refine zGet (v := .ref (ad 3)) (own := RX7) cx hinX7 hK hP 0 rfl rfl 7 (by decide) (by decide +kernel) rfl rfl dX7_goes_41 ?_
  refine lv_iload_n cx.1 cx.2.1 dX7_goes_44 rfl (lv_at hl 2 rfl) ?_
  refine zIldN cx hK hP 3 0 rfl rfl (nh) (by omega) (by decide) rfl dX7_goes_45 ?_
  refine lv_istore (lv' := [(5, .int (S 2 nh)), (4, .int (S 2 nt)), (0, .ref (ad 0)), (1, .int (nI nh)), (2, .int (nI nt)), (3, .int xm)]) cx.1 cx.2.1 dX7_goes_46 hl (by decide) rfl (fun ls hl => ?_)
  refine lv_aload_n cx.1 cx.2.1 dX7_goes_48 rfl (lv_at hl 2 rfl) ?_
  refine zGet (v := .ref (ad 12)) (own := RX7) cx hinX7 hK hP 0 rfl rfl 16 (by decide) (by decide +kernel) rfl rfl dX7_goes_49 ?_
  refine lv_iload cx.1 cx.2.1 dX7_goes_52 (lv_at hl 0 rfl) ?_
  refine lv_dup2_11 cx.1 cx.2.1 dX7_goes_54 rfl rfl ?_
  refine zIld cx hK hP 12 0 rfl rfl hva dX7_goes_55 ?_
  refine lv_iload_n cx.1 cx.2.1 dX7_goes_56 rfl (lv_at hl 5 rfl) ?_
  refine lv_iadd cx.1 cx.2.1 dX7_goes_57 ?_
  refine zIst cx (mw_W cyI cyZ ad) hI hK hP hS 12 0 rfl rfl hva (zUp (zUp (zUp (zUp S 10 (upd (S 10) (64 * nh + nt) xm)) 9 (upd (S 9) nh ((S 9 nh) + xm))) 9 (upd (upd (S 9) nh ((S 9 nh) + xm)) nt (((upd (S 9) nh ((S 9 nh) + xm)) nt) + xm))) 11 (upd (S 11) (S 2 nh).toNatClampNeg ((S 11 (S 2 nh).toNatClampNeg) + xm))) rfl dX7_goes_58 (fun H locs hP hS => ?_)
  have lp59 : ∀ (fu gi : Nat) (h : Int32) (T59 : zS) (hi59 : gi ≤ 64) (hacc59 : lp_X7_goes_59 S nh nt xm (64 - gi) gi h T59 = lp_X7_goes_59 S nh nt xm 64 0 (S 2 nh) (zUp (zUp (zUp (zUp S 10 (upd (S 10) (64 * nh + nt) xm)) 9 (upd (S 9) nh ((S 9 nh) + xm))) 9 (upd (upd (S 9) nh ((S 9 nh) + xm)) nt (((upd (S 9) nh ((S 9 nh) + xm)) nt) + xm))) 11 (upd (S 11) (S 2 nh).toNatClampNeg ((S 11 (S 2 nh).toNatClampNeg) + xm)))) (hw59 : gW T59 gb h gi) (_ : 64 - gi < fu) (H : Heap) (locs : List Loc) (ls : Array Slot), va_P (dC, dI) vwCl (mw cyI cyZ ad T59) H → va_S (zA ad 14 s.heap.size) s.heap H locs → lv_has ls 9 [(5, .int h), (4, .int (S 2 nt)), (0, .ref (ad 0)), (1, .int (nI nh)), (2, .int (nI nt)), (3, .int xm)] → W p l e (headSpec wsX7_goes ({ frames := 1, cells := 0, slots := 0, locals := 23 } : Room)).room s m args below meth c H locs 0 0 Q (F0 m 59 ls []) := by
    intro fu
    induction fu with
    | zero => intro gi h T59 hi59 hacc59 hw59 hm; exact absurd hm (Nat.not_lt_zero _)
    | succ fu ih59 =>
      intro gi h T59 hi59 hacc59 hw59 hm H locs ls hP hS hl
      obtain ⟨hFS2, v0, l0, hv0, ehv, el0, hlt⟩ := hw59
      have hvh : vp_in h 64 := by rw [ehv]; exact vp_in_nI hv0 (by decide)
      refine lv_iload cx.1 cx.2.1 dX7_goes_59 (lv_at hl 0 rfl) ?_
      refine lv_iload cx.1 cx.2.1 dX7_goes_61 (lv_at hl 1 rfl) ?_
      refine lv_icmp_eq (tgt := 157) cx.1 cx.2.1 dX7_goes_63 (by decide) (fun c1 => ?_) (fun c1 => ?_)
      · have hx59 : lp_X7_goes_59 S nh nt xm 64 0 (S 2 nh) (zUp (zUp (zUp (zUp S 10 (upd (S 10) (64 * nh + nt) xm)) 9 (upd (S 9) nh ((S 9 nh) + xm))) 9 (upd (upd (S 9) nh ((S 9 nh) + xm)) nt (((upd (S 9) nh ((S 9 nh) + xm)) nt) + xm))) 11 (upd (S 11) (S 2 nh).toNatClampNeg ((S 11 (S 2 nh).toNatClampNeg) + xm))) = (h, T59) := by
          rw [← hacc59]
          cases hn : 64 - gi with
          | zero => rfl
          | succ q => rw [lp_X7_goes_59]; rw [if_pos c1]
        have hz0 : (lp_X7_goes_59 S nh nt xm 64 0 (S 2 nh) (zUp (zUp (zUp (zUp S 10 (upd (S 10) (64 * nh + nt) xm)) 9 (upd (S 9) nh ((S 9 nh) + xm))) 9 (upd (upd (S 9) nh ((S 9 nh) + xm)) nt (((upd (S 9) nh ((S 9 nh) + xm)) nt) + xm))) 11 (upd (S 11) (S 2 nh).toNatClampNeg ((S 11 (S 2 nh).toNatClampNeg) + xm)))).1 = h := (congrArg Prod.fst hx59)
        have hz1 : (lp_X7_goes_59 S nh nt xm 64 0 (S 2 nh) (zUp (zUp (zUp (zUp S 10 (upd (S 10) (64 * nh + nt) xm)) 9 (upd (S 9) nh ((S 9 nh) + xm))) 9 (upd (upd (S 9) nh ((S 9 nh) + xm)) nt (((upd (S 9) nh ((S 9 nh) + xm)) nt) + xm))) 11 (upd (S 11) (S 2 nh).toNatClampNeg ((S 11 (S 2 nh).toNatClampNeg) + xm)))).2 = T59 := (congrArg Prod.snd hx59)
        obtain ⟨N6, hN6⟩ : ∃ Z : Int32, (lp_X7_goes_59 S nh nt xm 64 0 (S 2 nh) (zUp (zUp (zUp (zUp S 10 (upd (S 10) (64 * nh + nt) xm)) 9 (upd (S 9) nh ((S 9 nh) + xm))) 9 (upd (upd (S 9) nh ((S 9 nh) + xm)) nt (((upd (S 9) nh ((S 9 nh) + xm)) nt) + xm))) 11 (upd (S 11) (S 2 nh).toNatClampNeg ((S 11 (S 2 nh).toNatClampNeg) + xm)))).1 = Z := ⟨_, rfl⟩
        rw [hN6] at hz0
        obtain ⟨N7, hN7⟩ : ∃ Z : zS, (lp_X7_goes_59 S nh nt xm 64 0 (S 2 nh) (zUp (zUp (zUp (zUp S 10 (upd (S 10) (64 * nh + nt) xm)) 9 (upd (S 9) nh ((S 9 nh) + xm))) 9 (upd (upd (S 9) nh ((S 9 nh) + xm)) nt (((upd (S 9) nh ((S 9 nh) + xm)) nt) + xm))) 11 (upd (S 11) (S 2 nh).toNatClampNeg ((S 11 (S 2 nh).toNatClampNeg) + xm)))).2 = Z := ⟨_, rfl⟩
        rw [hN7] at hz1
        subst hz0
        subst hz1
        subst hN7
        subst hN6
        rw [hQ]
        exact zRetV cx hrt hlk hS hP (by unfold g_X7_goes; rfl) dX7_goes_157
      · have hne : v0 ≠ gb := fun z => c1 (by rw [ehv, eb, z])
        refine lv_iconst (v := (-1)) cx.1 cx.2.1 dX7_goes_66 (by decide) ?_
        refine lv_istore (lv' := [(6, .int (-1)), (5, .int h), (4, .int (S 2 nt)), (0, .ref (ad 0)), (1, .int (nI nh)), (2, .int (nI nt)), (3, .int xm)]) cx.1 cx.2.1 dX7_goes_67 hl (by decide) rfl (fun ls hl => ?_)
        refine lv_iconst (v := 3) cx.1 cx.2.1 dX7_goes_69 (by decide) ?_
        refine lv_istore (lv' := [(7, .int 3), (6, .int (-1)), (5, .int h), (4, .int (S 2 nt)), (0, .ref (ad 0)), (1, .int (nI nh)), (2, .int (nI nt)), (3, .int xm)]) cx.1 cx.2.1 dX7_goes_70 hl (by decide) rfl (fun ls hl => ?_)
        have lp72 : ∀ (fu j : Nat) (nx : Int32) (hi72 : j ≤ 4) (hacc72 : lp_X7_goes_72 S nh nt xm gi h T59 (-1) j = nx) (hx72 : gN T59 gb v0 j nx) (_ : 4 - j < fu) (H : Heap) (locs : List Loc) (ls : Array Slot), va_P (dC, dI) vwCl (mw cyI cyZ ad T59) H → va_S (zA ad 14 s.heap.size) s.heap H locs → lv_has ls 9 [(7, .int (nI 3 - nI j)), (6, .int nx), (5, .int h), (4, .int (S 2 nt)), (0, .ref (ad 0)), (1, .int (nI nh)), (2, .int (nI nt)), (3, .int xm)] → W p l e (headSpec wsX7_goes ({ frames := 1, cells := 0, slots := 0, locals := 23 } : Room)).room s m args below meth c H locs 0 0 Q (F0 m 72 ls []) := by
          intro fu
          induction fu with
          | zero => intro j nx hi72 hacc72 hx72 hm; exact absurd hm (Nat.not_lt_zero _)
          | succ fu ih72 =>
            intro j nx hi72 hacc72 hx72 hm H locs ls hP hS hl
            refine lv_iload cx.1 cx.2.1 dX7_goes_72 (lv_at hl 0 rfl) ?_
            refine lv_if_lt (tgt := 139) cx.1 cx.2.1 dX7_goes_74 (by decide) (fun c2 => ?_) (fun c2 => ?_)
            · have nc2 : 3 + 1 ≤ j := (zdn_lt (by decide) (by omega)).mp c2
              obtain rfl : j = 4 := by omega
              have hz0 : (lp_X7_goes_72 S nh nt xm gi h T59 (-1) 4) = nx := hacc72
              obtain ⟨N5, hN5⟩ : ∃ Z : Int32, (lp_X7_goes_72 S nh nt xm gi h T59 (-1) 4) = Z := ⟨_, rfl⟩
              rw [hN5] at hz0
              subst hz0
              obtain ⟨s0, hs0, hlow, hnx⟩ := gN_fin hFS2 hv0 (by omega) hne el0 hx72
              have hvn : vp_in N5 64 := by rw [hnx]; exact vp_in_nI hlow.1 (by decide)
              refine lv_iload cx.1 cx.2.1 dX7_goes_139 (lv_at hl 1 rfl) ?_
              refine lv_istore (lv' := [(5, .int N5), (7, .int (nI 3 - nI 4)), (6, .int N5), (4, .int (S 2 nt)), (0, .ref (ad 0)), (1, .int (nI nh)), (2, .int (nI nt)), (3, .int xm)]) cx.1 cx.2.1 dX7_goes_141 hl (by decide) rfl (fun ls hl => ?_)
              refine lv_aload_n cx.1 cx.2.1 dX7_goes_143 rfl (lv_at hl 4 rfl) ?_
              refine zGet (v := .ref (ad 12)) (own := RX7) cx hinX7 hK hP 0 rfl rfl 16 (by decide) (by decide +kernel) rfl rfl dX7_goes_144 ?_
              refine lv_iload cx.1 cx.2.1 dX7_goes_147 (lv_at hl 0 rfl) ?_
              refine lv_dup2_11 cx.1 cx.2.1 dX7_goes_149 rfl rfl ?_
              refine zIld cx hK hP 12 0 rfl rfl hvn dX7_goes_150 ?_
              refine lv_iload_n cx.1 cx.2.1 dX7_goes_151 rfl (lv_at hl 7 rfl) ?_
              refine lv_iadd cx.1 cx.2.1 dX7_goes_152 ?_
              refine zIst cx (mw_W cyI cyZ ad) hI hK hP hS 12 0 rfl rfl hvn (zUp T59 11 (upd (T59 11) N5.toNatClampNeg ((T59 11 N5.toNatClampNeg) + xm))) rfl dX7_goes_153 (fun H locs hP hS => ?_)
              refine lv_goto (tgt := 59) cx.1 cx.2.1 dX7_goes_154 (by decide) ?_
              subst hN5
              have ha59 : lp_X7_goes_59 S nh nt xm (64 - (gi + 1)) (gi + 1) (lp_X7_goes_72 S nh nt xm gi h T59 (-1) 4) (zUp T59 11 (upd (T59 11) (lp_X7_goes_72 S nh nt xm gi h T59 (-1) 4).toNatClampNeg ((T59 11 (lp_X7_goes_72 S nh nt xm gi h T59 (-1) 4).toNatClampNeg) + xm))) = lp_X7_goes_59 S nh nt xm 64 0 (S 2 nh) (zUp (zUp (zUp (zUp S 10 (upd (S 10) (64 * nh + nt) xm)) 9 (upd (S 9) nh ((S 9 nh) + xm))) 9 (upd (upd (S 9) nh ((S 9 nh) + xm)) nt (((upd (S 9) nh ((S 9 nh) + xm)) nt) + xm))) 11 (upd (S 11) (S 2 nh).toNatClampNeg ((S 11 (S 2 nh).toNatClampNeg) + xm))) := by
                rw [← hacc59, show 64 - gi = (64 - (gi + 1)) + 1 by omega]
                conv => rhs; rw [lp_X7_goes_59]
                rw [if_neg c1]
              exact ih59 (gi + 1) (lp_X7_goes_72 S nh nt xm gi h T59 (-1) 4) (zUp T59 11 (upd (T59 11) (lp_X7_goes_72 S nh nt xm gi h T59 (-1) 4).toNatClampNeg ((T59 11 (lp_X7_goes_72 S nh nt xm gi h T59 (-1) 4).toNatClampNeg) + xm))) (by omega) ha59 (gW_next hFS2 hv0 el0 hlt hlow hnx) (by omega) _ _ ls hP hS (lv_sub hl [0, 3, 4, 5, 6, 7] rfl)
            · have nc2 : ¬ 3 + 1 ≤ j := fun z => c2 ((zdn_lt (by decide) (by omega)).mpr z)
              rw [show nI 3 - nI j = nI (3 - j) from pk_sub (by omega)] at hl
              have hto : f_X7_neighbour h (nI (3 - j)) = if nb v0 (3 - j) = 64 then -1 else nI (nb v0 (3 - j)) := by rw [ehv]; exact nbX7 _ hv0 _ (by omega)
              have hle := nb_le _ hv0 (3 - j) (by omega)
              refine lv_iload cx.1 cx.2.1 dX7_goes_77 (lv_at hl 2 rfl) ?_
              refine lv_iload cx.1 cx.2.1 dX7_goes_79 (lv_at hl 0 rfl) ?_
              refine zThenIx (v := f_X7_neighbour h (nI (3 - j))) (S' := T59) hS (zRunS (As := [.int h, .int (nI (3 - j))]) (rest := []) _ 2 cx (c_X7_neighbour l dC dI cyI cyZ ad hI T59 h (nI (3 - j))) gX7_goes_X7_neighbour rfl ⟨rfl, rfl⟩ (by decide +kernel) ⟨Nat.le_of_ble_eq_true rfl, Nat.le_of_ble_eq_true rfl⟩ (zX_true) trivial hK hP hS rfl hl.1 rfl (Nat.le_of_ble_eq_true rfl) dX7_goes_81 ⟨Nat.zero_le _, Nat.zero_le _⟩) (fun H locs hP hS => ?_)
              refine lv_istore (lv' := [(8, .int (f_X7_neighbour h (nI (3 - j)))), (7, .int (nI (3 - j))), (6, .int nx), (5, .int h), (4, .int (S 2 nt)), (0, .ref (ad 0)), (1, .int (nI nh)), (2, .int (nI nt)), (3, .int xm)]) cx.1 cx.2.1 dX7_goes_84 hl (by decide) rfl (fun ls hl => ?_)
              refine lv_aload_n cx.1 cx.2.1 dX7_goes_86 rfl (lv_at hl 5 rfl) ?_
              refine lv_iload cx.1 cx.2.1 dX7_goes_87 (lv_at hl 0 rfl) ?_
              refine zThenIx (v := f_X7_isRoad T59 (f_X7_neighbour h (nI (3 - j)))) (S' := T59) hS (zRunV (As := [.int (f_X7_neighbour h (nI (3 - j)))]) (rest := []) _ 1 cx (c_X7_isRoad l dC dI cyI cyZ ad hI T59 (f_X7_neighbour h (nI (3 - j))) (nbX7_in hto hle)) gX7_goes_X7_isRoad rfl ⟨rfl, rfl⟩ (by decide +kernel) ⟨Nat.le_of_ble_eq_true rfl, Nat.le_of_ble_eq_true rfl⟩ (zX_true) trivial hK hP hS 0 rfl rfl rfl rfl hl.1 rfl (Nat.le_of_ble_eq_true rfl) dX7_goes_89 ⟨Nat.zero_le _, Nat.zero_le _⟩) (fun H locs hP hS => ?_)
              refine lv_if_eq (tgt := 129) cx.1 cx.2.1 dX7_goes_92 (by decide) (fun c3 => ?_) (fun c3 => ?_)
              · refine lv_iload cx.1 cx.2.1 dX7_goes_129 (lv_at hl 2 rfl) ?_
                refine lv_istore (lv' := [(6, .int nx), (8, .int (f_X7_neighbour h (nI (3 - j)))), (7, .int (nI (3 - j))), (5, .int h), (4, .int (S 2 nt)), (0, .ref (ad 0)), (1, .int (nI nh)), (2, .int (nI nt)), (3, .int xm)]) cx.1 cx.2.1 dX7_goes_131 hl (by decide) rfl (fun ls hl => ?_)
                refine lv_iinc (v := nI 3 - nI (j + 1)) (lv' := [(7, .int (nI 3 - nI (j + 1))), (6, .int nx), (8, .int (f_X7_neighbour h (nI (3 - j)))), (5, .int h), (4, .int (S 2 nt)), (0, .ref (ad 0)), (1, .int (nI nh)), (2, .int (nI nt)), (3, .int xm)]) cx.1 cx.2.1 dX7_goes_133 hl (k := 2) rfl (zdn_s (by omega)) (by decide) rfl (fun ls hl => ?_)
                refine lv_goto (tgt := 72) cx.1 cx.2.1 dX7_goes_136 (by decide) ?_
                have ha72 : lp_X7_goes_72 S nh nt xm gi h T59 (-1) (j + 1) = nx := by
                  show bd_X7_goes_72 S nh nt xm gi h T59 j (lp_X7_goes_72 S nh nt xm gi h T59 (-1) j) = _
                  rw [hacc72]
                  unfold bd_X7_goes_72
                  rw [if_pos c3]
                exact ih72 (j + 1) nx (by omega) ha72 (by first | exact gN_A hx72 (by omega) hto (by assumption) | exact gN_B hx72 (by omega) hv0 hgb eb ehv hte hb (by assumption) | exact gN_C hx72 (by omega) hv0 hgb eb ehv hte hb hkr (by assumption)) (by omega) _ _ ls hP hS (lv_sub hl [0, 1, 3, 4, 5, 6, 7, 8] rfl)
              · obtain ⟨hb, hte, hkr⟩ := isRoadX7 hto hle c3
                have hvt : vp_in (f_X7_neighbour h (nI (3 - j))) 64 := by rw [hte]; exact vp_in_nI hb (by decide)
                refine lv_aload_n cx.1 cx.2.1 dX7_goes_95 rfl (lv_at hl 5 rfl) ?_
                refine zGet (v := .ref (ad 5)) (own := RX7) cx hinX7 hK hP 0 rfl rfl 9 (by decide) (by decide +kernel) rfl rfl dX7_goes_96 ?_
                refine lv_bipush (v := 64) cx.1 cx.2.1 dX7_goes_99 (by decide) ?_
                refine lv_iload cx.1 cx.2.1 dX7_goes_101 (lv_at hl 4 rfl) ?_
                refine lv_imul cx.1 cx.2.1 dX7_goes_103 ?_
                refine lv_iload cx.1 cx.2.1 dX7_goes_104 (lv_at hl 0 rfl) ?_
                refine lv_iadd cx.1 cx.2.1 dX7_goes_106 ?_
                refine zIldN cx hK hP 5 0 rfl rfl (64 * (S 2 nt).toNatClampNeg + (f_X7_neighbour h (nI (3 - j))).toNatClampNeg) (at_b3 hvb hvt) (by decide) (at_ix3 hvb hvt) dX7_goes_107 ?_
                refine lv_aload_n cx.1 cx.2.1 dX7_goes_108 rfl (lv_at hl 5 rfl) ?_
                refine zGet (v := .ref (ad 5)) (own := RX7) cx hinX7 hK hP 0 rfl rfl 9 (by decide) (by decide +kernel) rfl rfl dX7_goes_109 ?_
                refine lv_bipush (v := 64) cx.1 cx.2.1 dX7_goes_112 (by decide) ?_
                refine lv_iload cx.1 cx.2.1 dX7_goes_114 (lv_at hl 4 rfl) ?_
                refine lv_imul cx.1 cx.2.1 dX7_goes_116 ?_
                refine lv_iload cx.1 cx.2.1 dX7_goes_117 (lv_at hl 3 rfl) ?_
                refine lv_iadd cx.1 cx.2.1 dX7_goes_119 ?_
                refine zIldN cx hK hP 5 0 rfl rfl (64 * (S 2 nt).toNatClampNeg + h.toNatClampNeg) (at_b3 hvb hvh) (by decide) (at_ix3 hvb hvh) dX7_goes_120 ?_
                refine lv_icmp_ge (tgt := 129) cx.1 cx.2.1 dX7_goes_121 (by decide) (fun c4 => ?_) (fun c4 => ?_)
                · refine lv_iload cx.1 cx.2.1 dX7_goes_129 (lv_at hl 2 rfl) ?_
                  refine lv_istore (lv' := [(6, .int nx), (8, .int (f_X7_neighbour h (nI (3 - j)))), (7, .int (nI (3 - j))), (5, .int h), (4, .int (S 2 nt)), (0, .ref (ad 0)), (1, .int (nI nh)), (2, .int (nI nt)), (3, .int xm)]) cx.1 cx.2.1 dX7_goes_131 hl (by decide) rfl (fun ls hl => ?_)
                  refine lv_iinc (v := nI 3 - nI (j + 1)) (lv' := [(7, .int (nI 3 - nI (j + 1))), (6, .int nx), (8, .int (f_X7_neighbour h (nI (3 - j)))), (5, .int h), (4, .int (S 2 nt)), (0, .ref (ad 0)), (1, .int (nI nh)), (2, .int (nI nt)), (3, .int xm)]) cx.1 cx.2.1 dX7_goes_133 hl (k := 2) rfl (zdn_s (by omega)) (by decide) rfl (fun ls hl => ?_)
                  refine lv_goto (tgt := 72) cx.1 cx.2.1 dX7_goes_136 (by decide) ?_
                  have ha72 : lp_X7_goes_72 S nh nt xm gi h T59 (-1) (j + 1) = nx := by
                    show bd_X7_goes_72 S nh nt xm gi h T59 j (lp_X7_goes_72 S nh nt xm gi h T59 (-1) j) = _
                    rw [hacc72]
                    unfold bd_X7_goes_72
                    rw [if_neg c3, if_pos c4]
                  exact ih72 (j + 1) nx (by omega) ha72 (by first | exact gN_A hx72 (by omega) hto (by assumption) | exact gN_B hx72 (by omega) hv0 hgb eb ehv hte hb (by assumption) | exact gN_C hx72 (by omega) hv0 hgb eb ehv hte hb hkr (by assumption)) (by omega) _ _ ls hP hS (lv_sub hl [0, 1, 3, 4, 5, 6, 7, 8] rfl)
                · refine lv_iload cx.1 cx.2.1 dX7_goes_124 (lv_at hl 0 rfl) ?_
                  refine lv_goto (tgt := 131) cx.1 cx.2.1 dX7_goes_126 (by decide) ?_
                  refine lv_istore (lv' := [(6, .int (f_X7_neighbour h (nI (3 - j)))), (8, .int (f_X7_neighbour h (nI (3 - j)))), (7, .int (nI (3 - j))), (5, .int h), (4, .int (S 2 nt)), (0, .ref (ad 0)), (1, .int (nI nh)), (2, .int (nI nt)), (3, .int xm)]) cx.1 cx.2.1 dX7_goes_131 hl (by decide) rfl (fun ls hl => ?_)
                  refine lv_iinc (v := nI 3 - nI (j + 1)) (lv' := [(7, .int (nI 3 - nI (j + 1))), (6, .int (f_X7_neighbour h (nI (3 - j)))), (8, .int (f_X7_neighbour h (nI (3 - j)))), (5, .int h), (4, .int (S 2 nt)), (0, .ref (ad 0)), (1, .int (nI nh)), (2, .int (nI nt)), (3, .int xm)]) cx.1 cx.2.1 dX7_goes_133 hl (k := 2) rfl (zdn_s (by omega)) (by decide) rfl (fun ls hl => ?_)
                  refine lv_goto (tgt := 72) cx.1 cx.2.1 dX7_goes_136 (by decide) ?_
                  have ha72 : lp_X7_goes_72 S nh nt xm gi h T59 (-1) (j + 1) = f_X7_neighbour h (nI (3 - j)) := by
                    show bd_X7_goes_72 S nh nt xm gi h T59 j (lp_X7_goes_72 S nh nt xm gi h T59 (-1) j) = _
                    rw [hacc72]
                    unfold bd_X7_goes_72
                    rw [if_neg c3, if_neg c4]
                  exact ih72 (j + 1) (f_X7_neighbour h (nI (3 - j))) (by omega) ha72 (by first | exact gN_A hx72 (by omega) hto (by assumption) | exact gN_B hx72 (by omega) hv0 hgb eb ehv hte hb (by assumption) | exact gN_C hx72 (by omega) hv0 hgb eb ehv hte hb hkr (by assumption)) (by omega) _ _ ls hP hS (lv_sub hl [0, 1, 3, 4, 5, 6, 7, 8] rfl)
        exact lp72 (4 - 0 + 1) 0 (-1) (by omega) rfl gN_0 (Nat.lt_succ_self _) _ _ ls hP hS (lv_sub hl [0, 1, 2, 3, 4, 5, 6, 7] rfl)
  exact lp59 (64 - 0 + 1) 0 (S 2 nh) (zUp (zUp (zUp (zUp S 10 (upd (S 10) (64 * nh + nt) xm)) 9 (upd (S 9) nh ((S 9 nh) + xm))) 9 (upd (upd (S 9) nh ((S 9 nh) + xm)) nt (((upd (S 9) nh ((S 9 nh) + xm)) nt) + xm))) 11 (upd (S 11) (S 2 nh).toNatClampNeg ((S 11 (S 2 nh).toNatClampNeg) + xm))) (by omega) (by rw [Nat.sub_zero]) ⟨hFS, ga, gl, hga, ea, el, by omega⟩ (Nat.lt_succ_self _) _ _ ls hP hS (lv_sub hl [0, 1, 2, 3, 4, 5] rfl)

set_option maxHeartbeats 4000000 in
set_option maxRecDepth 100000 in
theorem c_X7_works (l : Launch) (dC : Nat → ClassId) (dI : Nat → Nat → Nat) (cyI cyZ : ClassId) (ad : Nat → Nat) (hI : zI ad 14) (S : zS) (hw : wkP S) : zMv l (dC, dI) [(cyI, .int), (cyZ, .boolean)] ad 14 (fun _ _ => True) (mw cyI cyZ ad) yX7_works wsX7_works ({ frames := 2, cells := 0, slots := 0, locals := 51 } : Room) [.ref (ad 0)] S (fun T => T = g_X7_works S) := by
  refine zStartV (by decide) rfl (Nat.le_of_ble_eq_true rfl) ?_
  intro p e s m args below meth c ls cx hrt hlk hP hK hXs hl
  have hl : lv_has ls 5 [(0, .ref (ad 0))] := hl
  have hS : va_S (zA ad 14 s.heap.size) s.heap s.heap [] := va_S.rf
  have hinX7 : ∀ w ∈ u_ws RX7 TX7 19, w ∈ wsX7_works := by decide +kernel
  obtain ⟨Q, hQ⟩ : ∃ Q, Q = MQ below (zQv (dC, dI) (mw cyI cyZ ad) (fun T => T = g_X7_works S) (zA ad 14 s.heap.size)) args s 0 0 (zA ad 14 s.heap.size) := ⟨_, rfl⟩
  rw [← hQ]
  refine lv_iconst (v := 0) cx.1 cx.2.1 dX7_works_0 (by decide) ?_
  refine lv_istore_n (lv' := [(1, .int 0), (0, .ref (ad 0))]) cx.1 cx.2.1 dX7_works_1 rfl hl (by decide) rfl (fun ls hl => ?_)
  have lp2 : ∀ (fu i : Nat) (T2 : zS) (hi2 : i ≤ 64) (hacc2 : lp_X7_works_2 S S i = T2) (hw2 : wkP T2) (_ : 64 - i < fu) (H : Heap) (locs : List Loc) (ls : Array Slot), va_P (dC, dI) vwCl (mw cyI cyZ ad T2) H → va_S (zA ad 14 s.heap.size) s.heap H locs → lv_has ls 5 [(1, .int (nI i)), (0, .ref (ad 0))] → W p l e (headSpec wsX7_works ({ frames := 2, cells := 0, slots := 0, locals := 51 } : Room)).room s m args below meth c H locs 0 0 Q (F0 m 2 ls []) := by
    intro fu
    induction fu with
    | zero => intro i T2 hi2 hacc2 hw2 hm; exact absurd hm (Nat.not_lt_zero _)
    | succ fu ih2 =>
      intro i T2 hi2 hacc2 hw2 hm H locs ls hP hS hl
      refine lv_iload_n cx.1 cx.2.1 dX7_works_2 rfl (lv_at hl 0 rfl) ?_
      refine lv_bipush (v := 64) cx.1 cx.2.1 dX7_works_3 (by decide) ?_
      refine lv_icmp_ge (tgt := 28) cx.1 cx.2.1 dX7_works_5 (by decide) (fun c1 => ?_) (fun c1 => ?_)
      · have nc1 : 64 ≤ i := (nI_leI (a := 64) (b := i) (by first | decide | omega) (by first | decide | omega)).mp c1
        obtain rfl : i = 64 := by omega
        have hz0 : (lp_X7_works_2 S S 64) = T2 := hacc2
        obtain ⟨N2, hN2⟩ : ∃ Z : zS, (lp_X7_works_2 S S 64) = Z := ⟨_, rfl⟩
        rw [hN2] at hz0
        subst hz0
        refine lv_iconst (v := 0) cx.1 cx.2.1 dX7_works_28 (by decide) ?_
        refine lv_istore_n (lv' := [(1, .int 0), (0, .ref (ad 0))]) cx.1 cx.2.1 dX7_works_29 rfl hl (by decide) rfl (fun ls hl => ?_)
        subst hN2
        have lp30 : ∀ (fu i : Nat) (T30 : zS) (hi30 : i ≤ 4096) (hacc30 : lp_X7_works_30 S (lp_X7_works_2 S S 64) i = T30) (hw30 : wkP T30) (_ : 4096 - i < fu) (H : Heap) (locs : List Loc) (ls : Array Slot), va_P (dC, dI) vwCl (mw cyI cyZ ad T30) H → va_S (zA ad 14 s.heap.size) s.heap H locs → lv_has ls 5 [(1, .int (nI i)), (0, .ref (ad 0))] → W p l e (headSpec wsX7_works ({ frames := 2, cells := 0, slots := 0, locals := 51 } : Room)).room s m args below meth c H locs 0 0 Q (F0 m 30 ls []) := by
          intro fu
          induction fu with
          | zero => intro i T30 hi30 hacc30 hw30 hm; exact absurd hm (Nat.not_lt_zero _)
          | succ fu ih30 =>
            intro i T30 hi30 hacc30 hw30 hm H locs ls hP hS hl
            refine lv_iload_n cx.1 cx.2.1 dX7_works_30 rfl (lv_at hl 0 rfl) ?_
            refine lv_sipush (v := 4096) cx.1 cx.2.1 dX7_works_31 (by decide) ?_
            refine lv_icmp_ge (tgt := 50) cx.1 cx.2.1 dX7_works_34 (by decide) (fun c3 => ?_) (fun c3 => ?_)
            · have nc3 : 4096 ≤ i := (nI_leI (a := 4096) (b := i) (by first | decide | omega) (by first | decide | omega)).mp c3
              obtain rfl : i = 4096 := by omega
              have hz0 : (lp_X7_works_30 S (lp_X7_works_2 S S 64) 4096) = T30 := hacc30
              obtain ⟨N4, hN4⟩ : ∃ Z : zS, (lp_X7_works_30 S (lp_X7_works_2 S S 64) 4096) = Z := ⟨_, rfl⟩
              rw [hN4] at hz0
              subst hz0
              refine lv_iconst (v := 0) cx.1 cx.2.1 dX7_works_50 (by decide) ?_
              refine lv_istore_n (lv' := [(1, .int 0), (0, .ref (ad 0))]) cx.1 cx.2.1 dX7_works_51 rfl hl (by decide) rfl (fun ls hl => ?_)
              subst hN4
              have lp52 : ∀ (fu u : Nat) (T52 : zS) (hi52 : u ≤ 64) (hacc52 : lp_X7_works_52 S (lp_X7_works_30 S (lp_X7_works_2 S S 64) 4096) u = T52) (hw52 : wkP T52) (_ : 64 - u < fu) (H : Heap) (locs : List Loc) (ls : Array Slot), va_P (dC, dI) vwCl (mw cyI cyZ ad T52) H → va_S (zA ad 14 s.heap.size) s.heap H locs → lv_has ls 5 [(1, .int (nI u)), (0, .ref (ad 0))] → W p l e (headSpec wsX7_works ({ frames := 2, cells := 0, slots := 0, locals := 51 } : Room)).room s m args below meth c H locs 0 0 Q (F0 m 52 ls []) := by
                intro fu
                induction fu with
                | zero => intro u T52 hi52 hacc52 hw52 hm; exact absurd hm (Nat.not_lt_zero _)
                | succ fu ih52 =>
                  intro u T52 hi52 hacc52 hw52 hm H locs ls hP hS hl
                  refine lv_iload_n cx.1 cx.2.1 dX7_works_52 rfl (lv_at hl 0 rfl) ?_
                  refine lv_bipush (v := 64) cx.1 cx.2.1 dX7_works_53 (by decide) ?_
                  refine lv_icmp_ge (tgt := 205) cx.1 cx.2.1 dX7_works_55 (by decide) (fun c5 => ?_) (fun c5 => ?_)
                  · have nc5 : 64 ≤ u := (nI_leI (a := 64) (b := u) (by first | decide | omega) (by first | decide | omega)).mp c5
                    obtain rfl : u = 64 := by omega
                    have hz0 : (lp_X7_works_52 S (lp_X7_works_30 S (lp_X7_works_2 S S 64) 4096) 64) = T52 := hacc52
                    obtain ⟨N18, hN18⟩ : ∃ Z : zS, (lp_X7_works_52 S (lp_X7_works_30 S (lp_X7_works_2 S S 64) 4096) 64) = Z := ⟨_, rfl⟩
                    rw [hN18] at hz0
                    subst hz0
                    subst hN18
                    rw [hQ]
                    exact zRetV cx hrt hlk hS hP (by unfold g_X7_works; rfl) dX7_works_205
                  · have nc5 : ¬ 64 ≤ u := fun z => c5 ((nI_leI (a := 64) (b := u) (by first | decide | omega) (by first | decide | omega)).mpr z)
                    refine lv_iconst (v := 0) cx.1 cx.2.1 dX7_works_58 (by decide) ?_
                    refine lv_istore_n (lv' := [(2, .int 0), (1, .int (nI u)), (0, .ref (ad 0))]) cx.1 cx.2.1 dX7_works_59 rfl hl (by decide) rfl (fun ls hl => ?_)
                    have lp60 : ∀ (fu a : Nat) (T60 : zS) (hi60 : a ≤ 64) (hacc60 : lp_X7_works_60 S u T52 T52 a = T60) (hw60 : wkP T60) (_ : 64 - a < fu) (H : Heap) (locs : List Loc) (ls : Array Slot), va_P (dC, dI) vwCl (mw cyI cyZ ad T60) H → va_S (zA ad 14 s.heap.size) s.heap H locs → lv_has ls 5 [(2, .int (nI a)), (1, .int (nI u)), (0, .ref (ad 0))] → W p l e (headSpec wsX7_works ({ frames := 2, cells := 0, slots := 0, locals := 51 } : Room)).room s m args below meth c H locs 0 0 Q (F0 m 60 ls []) := by
                      intro fu
                      induction fu with
                      | zero => intro a T60 hi60 hacc60 hw60 hm; exact absurd hm (Nat.not_lt_zero _)
                      | succ fu ih60 =>
                        intro a T60 hi60 hacc60 hw60 hm H locs ls hP hS hl
                        refine lv_iload_n cx.1 cx.2.1 dX7_works_60 rfl (lv_at hl 0 rfl) ?_
                        refine lv_bipush (v := 64) cx.1 cx.2.1 dX7_works_61 (by decide) ?_
                        refine lv_icmp_ge (tgt := 199) cx.1 cx.2.1 dX7_works_63 (by decide) (fun c6 => ?_) (fun c6 => ?_)
                        · have nc6 : 64 ≤ a := (nI_leI (a := 64) (b := a) (by first | decide | omega) (by first | decide | omega)).mp c6
                          obtain rfl : a = 64 := by omega
                          have hz0 : (lp_X7_works_60 S u T52 T52 64) = T60 := hacc60
                          obtain ⟨N17, hN17⟩ : ∃ Z : zS, (lp_X7_works_60 S u T52 T52 64) = Z := ⟨_, rfl⟩
                          rw [hN17] at hz0
                          subst hz0
                          refine lv_iinc (v := nI (u + 1)) (lv' := [(1, .int (nI (u + 1))), (2, .int (nI 64)), (0, .ref (ad 0))]) cx.1 cx.2.1 dX7_works_199 hl (k := 1) rfl (nI_1 u) (by decide) rfl (fun ls hl => ?_)
                          refine lv_goto (tgt := 52) cx.1 cx.2.1 dX7_works_202 (by decide) ?_
                          subst hN17
                          have ha52 : lp_X7_works_52 S (lp_X7_works_30 S (lp_X7_works_2 S S 64) 4096) (u + 1) = (lp_X7_works_60 S u T52 T52 64) := by
                            show bd_X7_works_52 S u (lp_X7_works_52 S (lp_X7_works_30 S (lp_X7_works_2 S S 64) 4096) u) = _
                            rw [hacc52]
                            unfold bd_X7_works_52
                            rfl
                          exact ih52 (u + 1) (lp_X7_works_60 S u T52 T52 64) (by omega) ha52 hw60 (by omega) _ _ ls hP hS (lv_sub hl [0, 2] rfl)
                        · have nc6 : ¬ 64 ≤ a := fun z => c6 ((nI_leI (a := 64) (b := a) (by first | decide | omega) (by first | decide | omega)).mpr z)
                          refine lv_iconst (v := 0) cx.1 cx.2.1 dX7_works_66 (by decide) ?_
                          refine lv_istore_n (lv' := [(3, .int 0), (2, .int (nI a)), (1, .int (nI u)), (0, .ref (ad 0))]) cx.1 cx.2.1 dX7_works_67 rfl hl (by decide) rfl (fun ls hl => ?_)
                          have lp68 : ∀ (fu b : Nat) (T68 : zS) (hi68 : b ≤ 64) (hacc68 : lp_X7_works_68 S u T52 a T60 (64 - b) b T68 = lp_X7_works_68 S u T52 a T60 64 0 T60) (hw68 : wkP T68) (_ : 64 - b < fu) (H : Heap) (locs : List Loc) (ls : Array Slot), va_P (dC, dI) vwCl (mw cyI cyZ ad T68) H → va_S (zA ad 14 s.heap.size) s.heap H locs → lv_has ls 5 [(3, .int (nI b)), (2, .int (nI a)), (1, .int (nI u)), (0, .ref (ad 0))] → W p l e (headSpec wsX7_works ({ frames := 2, cells := 0, slots := 0, locals := 51 } : Room)).room s m args below meth c H locs 0 0 Q (F0 m 68 ls []) := by
                            intro fu
                            induction fu with
                            | zero => intro b T68 hi68 hacc68 hw68 hm; exact absurd hm (Nat.not_lt_zero _)
                            | succ fu ih68 =>
                              intro b T68 hi68 hacc68 hw68 hm H locs ls hP hS hl
                              refine lv_iload_n cx.1 cx.2.1 dX7_works_68 rfl (lv_at hl 0 rfl) ?_
                              refine lv_bipush (v := 64) cx.1 cx.2.1 dX7_works_69 (by decide) ?_
                              refine lv_icmp_ge (tgt := 193) cx.1 cx.2.1 dX7_works_71 (by decide) (fun c7 => ?_) (fun c7 => ?_)
                              · have nc7 : 64 ≤ b := (nI_leI (a := 64) (b := b) (by first | decide | omega) (by first | decide | omega)).mp c7
                                have hx68 : lp_X7_works_68 S u T52 a T60 64 0 T60 = T68 := by
                                  rw [← hacc68]
                                  rw [show 64 - b = 0 by omega]; rfl
                                have hz0 : (lp_X7_works_68 S u T52 a T60 64 0 T60) = T68 := hx68
                                obtain ⟨N16, hN16⟩ : ∃ Z : zS, (lp_X7_works_68 S u T52 a T60 64 0 T60) = Z := ⟨_, rfl⟩
                                rw [hN16] at hz0
                                subst hz0
                                refine lv_iinc (v := nI (a + 1)) (lv' := [(2, .int (nI (a + 1))), (3, .int (nI b)), (1, .int (nI u)), (0, .ref (ad 0))]) cx.1 cx.2.1 dX7_works_193 hl (k := 1) rfl (nI_1 a) (by decide) rfl (fun ls hl => ?_)
                                refine lv_goto (tgt := 60) cx.1 cx.2.1 dX7_works_196 (by decide) ?_
                                subst hN16
                                have ha60 : lp_X7_works_60 S u T52 T52 (a + 1) = (lp_X7_works_68 S u T52 a T60 64 0 T60) := by
                                  show bd_X7_works_60 S u T52 a (lp_X7_works_60 S u T52 T52 a) = _
                                  rw [hacc60]
                                  unfold bd_X7_works_60
                                  rfl
                                exact ih60 (a + 1) (lp_X7_works_68 S u T52 a T60 64 0 T60) (by omega) ha60 hw68 (by omega) _ _ ls hP hS (lv_sub hl [0, 2, 3] rfl)
                              · have nc7 : ¬ 64 ≤ b := fun z => c7 ((nI_leI (a := 64) (b := b) (by first | decide | omega) (by first | decide | omega)).mpr z)
                                refine lv_aload_n cx.1 cx.2.1 dX7_works_74 rfl (lv_at hl 3 rfl) ?_
                                refine zGet (v := .ref (ad 1)) (own := RX7) cx hinX7 hK hP 0 rfl rfl 5 (by decide) (by decide +kernel) rfl rfl dX7_works_75 ?_
                                refine lv_iload_n cx.1 cx.2.1 dX7_works_78 rfl (lv_at hl 1 rfl) ?_
                                refine zIldN cx hK hP 1 0 rfl rfl (a) (by omega) (by decide) rfl dX7_works_79 ?_
                                refine lv_iconst (v := 2) cx.1 cx.2.1 dX7_works_80 (by decide) ?_
                                refine lv_icmp_ne (tgt := 193) cx.1 cx.2.1 dX7_works_81 (by decide) (fun c8 => ?_) (fun c8 => ?_)
                                · have hx68 : lp_X7_works_68 S u T52 a T60 64 0 T60 = T68 := by
                                    rw [← hacc68]
                                    cases hn : 64 - b with
                                    | zero => rfl
                                    | succ q => rw [lp_X7_works_68]; rw [if_pos c8]
                                  have hz0 : (lp_X7_works_68 S u T52 a T60 64 0 T60) = T68 := hx68
                                  obtain ⟨N15, hN15⟩ : ∃ Z : zS, (lp_X7_works_68 S u T52 a T60 64 0 T60) = Z := ⟨_, rfl⟩
                                  rw [hN15] at hz0
                                  subst hz0
                                  refine lv_iinc (v := nI (a + 1)) (lv' := [(2, .int (nI (a + 1))), (3, .int (nI b)), (1, .int (nI u)), (0, .ref (ad 0))]) cx.1 cx.2.1 dX7_works_193 hl (k := 1) rfl (nI_1 a) (by decide) rfl (fun ls hl => ?_)
                                  refine lv_goto (tgt := 60) cx.1 cx.2.1 dX7_works_196 (by decide) ?_
                                  subst hN15
                                  have ha60 : lp_X7_works_60 S u T52 T52 (a + 1) = (lp_X7_works_68 S u T52 a T60 64 0 T60) := by
                                    show bd_X7_works_60 S u T52 a (lp_X7_works_60 S u T52 T52 a) = _
                                    rw [hacc60]
                                    unfold bd_X7_works_60
                                    rfl
                                  exact ih60 (a + 1) (lp_X7_works_68 S u T52 a T60 64 0 T60) (by omega) ha60 hw68 (by omega) _ _ ls hP hS (lv_sub hl [0, 2, 3] rfl)
                                · refine lv_aload_n cx.1 cx.2.1 dX7_works_84 rfl (lv_at hl 3 rfl) ?_
                                  refine zGet (v := .ref (ad 3)) (own := RX7) cx hinX7 hK hP 0 rfl rfl 7 (by decide) (by decide +kernel) rfl rfl dX7_works_85 ?_
                                  refine lv_iload_n cx.1 cx.2.1 dX7_works_88 rfl (lv_at hl 1 rfl) ?_
                                  refine zIldN cx hK hP 3 0 rfl rfl (a) (by omega) (by decide) rfl dX7_works_89 ?_
                                  refine lv_iconst (v := (-1)) cx.1 cx.2.1 dX7_works_90 (by decide) ?_
                                  refine lv_icmp_eq (tgt := 193) cx.1 cx.2.1 dX7_works_91 (by decide) (fun c9 => ?_) (fun c9 => ?_)
                                  · have hx68 : lp_X7_works_68 S u T52 a T60 64 0 T60 = T68 := by
                                      rw [← hacc68]
                                      cases hn : 64 - b with
                                      | zero => rfl
                                      | succ q => rw [lp_X7_works_68]; rw [if_neg (not_not_intro c8), if_pos c9]
                                    have hz0 : (lp_X7_works_68 S u T52 a T60 64 0 T60) = T68 := hx68
                                    obtain ⟨N14, hN14⟩ : ∃ Z : zS, (lp_X7_works_68 S u T52 a T60 64 0 T60) = Z := ⟨_, rfl⟩
                                    rw [hN14] at hz0
                                    subst hz0
                                    refine lv_iinc (v := nI (a + 1)) (lv' := [(2, .int (nI (a + 1))), (3, .int (nI b)), (1, .int (nI u)), (0, .ref (ad 0))]) cx.1 cx.2.1 dX7_works_193 hl (k := 1) rfl (nI_1 a) (by decide) rfl (fun ls hl => ?_)
                                    refine lv_goto (tgt := 60) cx.1 cx.2.1 dX7_works_196 (by decide) ?_
                                    subst hN14
                                    have ha60 : lp_X7_works_60 S u T52 T52 (a + 1) = (lp_X7_works_68 S u T52 a T60 64 0 T60) := by
                                      show bd_X7_works_60 S u T52 a (lp_X7_works_60 S u T52 T52 a) = _
                                      rw [hacc60]
                                      unfold bd_X7_works_60
                                      rfl
                                    exact ih60 (a + 1) (lp_X7_works_68 S u T52 a T60 64 0 T60) (by omega) ha60 hw68 (by omega) _ _ ls hP hS (lv_sub hl [0, 2, 3] rfl)
                                  · have hva := (hw68.1 a (by omega)).resolve_left c9
                                    refine lv_aload_n cx.1 cx.2.1 dX7_works_94 rfl (lv_at hl 3 rfl) ?_
                                    refine zGet (v := .ref (ad 1)) (own := RX7) cx hinX7 hK hP 0 rfl rfl 5 (by decide) (by decide +kernel) rfl rfl dX7_works_95 ?_
                                    refine lv_iload_n cx.1 cx.2.1 dX7_works_98 rfl (lv_at hl 0 rfl) ?_
                                    refine zIldN cx hK hP 1 0 rfl rfl (b) (by omega) (by decide) rfl dX7_works_99 ?_
                                    refine lv_iconst (v := 3) cx.1 cx.2.1 dX7_works_100 (by decide) ?_
                                    refine lv_icmp_ne (tgt := 187) cx.1 cx.2.1 dX7_works_101 (by decide) (fun c10 => ?_) (fun c10 => ?_)
                                    · refine lv_iinc (v := nI (b + 1)) (lv' := [(3, .int (nI (b + 1))), (2, .int (nI a)), (1, .int (nI u)), (0, .ref (ad 0))]) cx.1 cx.2.1 dX7_works_187 hl (k := 0) rfl (nI_1 b) (by decide) rfl (fun ls hl => ?_)
                                      refine lv_goto (tgt := 68) cx.1 cx.2.1 dX7_works_190 (by decide) ?_
                                      have ha68 : lp_X7_works_68 S u T52 a T60 (64 - (b + 1)) (b + 1) T68 = lp_X7_works_68 S u T52 a T60 64 0 T60 := by
                                        rw [← hacc68, show 64 - b = (64 - (b + 1)) + 1 by omega]
                                        conv => rhs; rw [lp_X7_works_68]
                                        rw [if_neg (not_not_intro c8), if_neg c9, if_pos c10]
                                      exact ih68 (b + 1) T68 (by omega) ha68 (by first | exact hw68 | exact wkP_congr hw68 (fr_X7_goes _ _ _ _ _ (by decide) (by decide) (by decide)) (fr_X7_goes _ _ _ _ _ (by decide) (by decide) (by decide)) (fr_X7_goes _ _ _ _ _ (by decide) (by decide) (by decide))) (by omega) _ _ ls hP hS (lv_sub hl [0, 1, 2, 3] rfl)
                                    · refine lv_aload_n cx.1 cx.2.1 dX7_works_104 rfl (lv_at hl 3 rfl) ?_
                                      refine zGet (v := .ref (ad 3)) (own := RX7) cx hinX7 hK hP 0 rfl rfl 7 (by decide) (by decide +kernel) rfl rfl dX7_works_105 ?_
                                      refine lv_iload_n cx.1 cx.2.1 dX7_works_108 rfl (lv_at hl 0 rfl) ?_
                                      refine zIldN cx hK hP 3 0 rfl rfl (b) (by omega) (by decide) rfl dX7_works_109 ?_
                                      refine lv_iconst (v := (-1)) cx.1 cx.2.1 dX7_works_110 (by decide) ?_
                                      refine lv_icmp_eq (tgt := 187) cx.1 cx.2.1 dX7_works_111 (by decide) (fun c11 => ?_) (fun c11 => ?_)
                                      · refine lv_iinc (v := nI (b + 1)) (lv' := [(3, .int (nI (b + 1))), (2, .int (nI a)), (1, .int (nI u)), (0, .ref (ad 0))]) cx.1 cx.2.1 dX7_works_187 hl (k := 0) rfl (nI_1 b) (by decide) rfl (fun ls hl => ?_)
                                        refine lv_goto (tgt := 68) cx.1 cx.2.1 dX7_works_190 (by decide) ?_
                                        have ha68 : lp_X7_works_68 S u T52 a T60 (64 - (b + 1)) (b + 1) T68 = lp_X7_works_68 S u T52 a T60 64 0 T60 := by
                                          rw [← hacc68, show 64 - b = (64 - (b + 1)) + 1 by omega]
                                          conv => rhs; rw [lp_X7_works_68]
                                          rw [if_neg (not_not_intro c8), if_neg c9, if_neg (not_not_intro c10), if_pos c11]
                                        exact ih68 (b + 1) T68 (by omega) ha68 (by first | exact hw68 | exact wkP_congr hw68 (fr_X7_goes _ _ _ _ _ (by decide) (by decide) (by decide)) (fr_X7_goes _ _ _ _ _ (by decide) (by decide) (by decide)) (fr_X7_goes _ _ _ _ _ (by decide) (by decide) (by decide))) (by omega) _ _ ls hP hS (lv_sub hl [0, 1, 2, 3] rfl)
                                      · have hvb := (hw68.1 b (by omega)).resolve_left c11
                                        refine lv_aload_n cx.1 cx.2.1 dX7_works_114 rfl (lv_at hl 3 rfl) ?_
                                        refine zGet (v := .ref (ad 5)) (own := RX7) cx hinX7 hK hP 0 rfl rfl 9 (by decide) (by decide +kernel) rfl rfl dX7_works_115 ?_
                                        refine lv_bipush (v := 64) cx.1 cx.2.1 dX7_works_118 (by decide) ?_
                                        refine lv_aload_n cx.1 cx.2.1 dX7_works_120 rfl (lv_at hl 3 rfl) ?_
                                        refine zGet (v := .ref (ad 3)) (own := RX7) cx hinX7 hK hP 0 rfl rfl 7 (by decide) (by decide +kernel) rfl rfl dX7_works_121 ?_
                                        refine lv_iload_n cx.1 cx.2.1 dX7_works_124 rfl (lv_at hl 1 rfl) ?_
                                        refine zIldN cx hK hP 3 0 rfl rfl (a) (by omega) (by decide) rfl dX7_works_125 ?_
                                        refine lv_imul cx.1 cx.2.1 dX7_works_126 ?_
                                        refine lv_aload_n cx.1 cx.2.1 dX7_works_127 rfl (lv_at hl 3 rfl) ?_
                                        refine zGet (v := .ref (ad 3)) (own := RX7) cx hinX7 hK hP 0 rfl rfl 7 (by decide) (by decide +kernel) rfl rfl dX7_works_128 ?_
                                        refine lv_iload_n cx.1 cx.2.1 dX7_works_131 rfl (lv_at hl 0 rfl) ?_
                                        refine zIldN cx hK hP 3 0 rfl rfl (b) (by omega) (by decide) rfl dX7_works_132 ?_
                                        refine lv_iadd cx.1 cx.2.1 dX7_works_133 ?_
                                        refine zIldN cx hK hP 5 0 rfl rfl (64 * (T68 2 a).toNatClampNeg + (T68 2 b).toNatClampNeg) (at_b3 hva hvb) (by decide) (at_ix3 hva hvb) dX7_works_134 ?_
                                        refine lv_iload_n cx.1 cx.2.1 dX7_works_135 rfl (lv_at hl 2 rfl) ?_
                                        refine lv_icmp_ne (tgt := 187) cx.1 cx.2.1 dX7_works_136 (by decide) (fun c12 => ?_) (fun c12 => ?_)
                                        · refine lv_iinc (v := nI (b + 1)) (lv' := [(3, .int (nI (b + 1))), (2, .int (nI a)), (1, .int (nI u)), (0, .ref (ad 0))]) cx.1 cx.2.1 dX7_works_187 hl (k := 0) rfl (nI_1 b) (by decide) rfl (fun ls hl => ?_)
                                          refine lv_goto (tgt := 68) cx.1 cx.2.1 dX7_works_190 (by decide) ?_
                                          have ha68 : lp_X7_works_68 S u T52 a T60 (64 - (b + 1)) (b + 1) T68 = lp_X7_works_68 S u T52 a T60 64 0 T60 := by
                                            rw [← hacc68, show 64 - b = (64 - (b + 1)) + 1 by omega]
                                            conv => rhs; rw [lp_X7_works_68]
                                            rw [if_neg (not_not_intro c8), if_neg c9, if_neg (not_not_intro c10), if_neg c11, if_pos c12]
                                          exact ih68 (b + 1) T68 (by omega) ha68 (by first | exact hw68 | exact wkP_congr hw68 (fr_X7_goes _ _ _ _ _ (by decide) (by decide) (by decide)) (fr_X7_goes _ _ _ _ _ (by decide) (by decide) (by decide)) (fr_X7_goes _ _ _ _ _ (by decide) (by decide) (by decide))) (by omega) _ _ ls hP hS (lv_sub hl [0, 1, 2, 3] rfl)
                                        · refine lv_iconst (v := 2) cx.1 cx.2.1 dX7_works_139 (by decide) ?_
                                          refine lv_aload_n cx.1 cx.2.1 dX7_works_140 rfl (lv_at hl 3 rfl) ?_
                                          refine zGet (v := .ref (ad 2)) (own := RX7) cx hinX7 hK hP 0 rfl rfl 6 (by decide) (by decide +kernel) rfl rfl dX7_works_141 ?_
                                          refine lv_iload_n cx.1 cx.2.1 dX7_works_144 rfl (lv_at hl 1 rfl) ?_
                                          refine zIldN cx hK hP 2 0 rfl rfl (a) (by omega) (by decide) rfl dX7_works_145 ?_
                                          refine lv_imul cx.1 cx.2.1 dX7_works_146 ?_
                                          refine lv_aload_n cx.1 cx.2.1 dX7_works_147 rfl (lv_at hl 3 rfl) ?_
                                          refine zGet (v := .ref (ad 10)) (own := RX7) cx hinX7 hK hP 0 rfl rfl 14 (by decide) (by decide +kernel) rfl rfl dX7_works_148 ?_
                                          refine lv_iload_n cx.1 cx.2.1 dX7_works_151 rfl (lv_at hl 1 rfl) ?_
                                          refine zIldN cx hK hP 10 0 rfl rfl (a) (by omega) (by decide) rfl dX7_works_152 ?_
                                          refine lv_isub cx.1 cx.2.1 dX7_works_153 ?_
                                          refine lv_iconst (v := 2) cx.1 cx.2.1 dX7_works_154 (by decide) ?_
                                          refine lv_aload_n cx.1 cx.2.1 dX7_works_155 rfl (lv_at hl 3 rfl) ?_
                                          refine zGet (v := .ref (ad 2)) (own := RX7) cx hinX7 hK hP 0 rfl rfl 6 (by decide) (by decide +kernel) rfl rfl dX7_works_156 ?_
                                          refine lv_iload_n cx.1 cx.2.1 dX7_works_159 rfl (lv_at hl 0 rfl) ?_
                                          refine zIldN cx hK hP 2 0 rfl rfl (b) (by omega) (by decide) rfl dX7_works_160 ?_
                                          refine lv_imul cx.1 cx.2.1 dX7_works_161 ?_
                                          refine lv_aload_n cx.1 cx.2.1 dX7_works_162 rfl (lv_at hl 3 rfl) ?_
                                          refine zGet (v := .ref (ad 10)) (own := RX7) cx hinX7 hK hP 0 rfl rfl 14 (by decide) (by decide +kernel) rfl rfl dX7_works_163 ?_
                                          refine lv_iload_n cx.1 cx.2.1 dX7_works_166 rfl (lv_at hl 0 rfl) ?_
                                          refine zIldN cx hK hP 10 0 rfl rfl (b) (by omega) (by decide) rfl dX7_works_167 ?_
                                          refine lv_isub cx.1 cx.2.1 dX7_works_168 ?_
                                          refine zThenIx (v := f_X7_least ((2 * (T68 1 a)) - (T68 9 a)) ((2 * (T68 1 b)) - (T68 9 b))) (S' := T68) hS (zRunS (As := [.int ((2 * (T68 1 a)) - (T68 9 a)), .int ((2 * (T68 1 b)) - (T68 9 b))]) (rest := []) _ 2 cx (c_X7_least l dC dI cyI cyZ ad hI T68 ((2 * (T68 1 a)) - (T68 9 a)) ((2 * (T68 1 b)) - (T68 9 b))) gX7_works_X7_least rfl ⟨rfl, rfl⟩ (by decide +kernel) ⟨Nat.le_of_ble_eq_true rfl, Nat.le_of_ble_eq_true rfl⟩ (zX_true) trivial hK hP hS rfl hl.1 rfl (Nat.le_of_ble_eq_true rfl) dX7_works_169 ⟨Nat.zero_le _, Nat.zero_le _⟩) (fun H locs hP hS => ?_)
                                          refine lv_istore (lv' := [(4, .int (f_X7_least ((2 * (T68 1 a)) - (T68 9 a)) ((2 * (T68 1 b)) - (T68 9 b)))), (3, .int (nI b)), (2, .int (nI a)), (1, .int (nI u)), (0, .ref (ad 0))]) cx.1 cx.2.1 dX7_works_172 hl (by decide) rfl (fun ls hl => ?_)
                                          refine lv_iload cx.1 cx.2.1 dX7_works_174 (lv_at hl 0 rfl) ?_
                                          refine lv_if_le (tgt := 187) cx.1 cx.2.1 dX7_works_176 (by decide) (fun c13 => ?_) (fun c13 => ?_)
                                          · refine lv_iinc (v := nI (b + 1)) (lv' := [(3, .int (nI (b + 1))), (4, .int (f_X7_least ((2 * (T68 1 a)) - (T68 9 a)) ((2 * (T68 1 b)) - (T68 9 b)))), (2, .int (nI a)), (1, .int (nI u)), (0, .ref (ad 0))]) cx.1 cx.2.1 dX7_works_187 hl (k := 1) rfl (nI_1 b) (by decide) rfl (fun ls hl => ?_)
                                            refine lv_goto (tgt := 68) cx.1 cx.2.1 dX7_works_190 (by decide) ?_
                                            have ha68 : lp_X7_works_68 S u T52 a T60 (64 - (b + 1)) (b + 1) T68 = lp_X7_works_68 S u T52 a T60 64 0 T60 := by
                                              rw [← hacc68, show 64 - b = (64 - (b + 1)) + 1 by omega]
                                              conv => rhs; rw [lp_X7_works_68]
                                              rw [if_neg (not_not_intro c8), if_neg c9, if_neg (not_not_intro c10), if_neg c11, if_neg (not_not_intro c12), if_pos c13]
                                            exact ih68 (b + 1) T68 (by omega) ha68 (by first | exact hw68 | exact wkP_congr hw68 (fr_X7_goes _ _ _ _ _ (by decide) (by decide) (by decide)) (fr_X7_goes _ _ _ _ _ (by decide) (by decide) (by decide)) (fr_X7_goes _ _ _ _ _ (by decide) (by decide) (by decide))) (by omega) _ _ ls hP hS (lv_sub hl [0, 2, 3, 4] rfl)
                                          · refine lv_aload_n cx.1 cx.2.1 dX7_works_179 rfl (lv_at hl 4 rfl) ?_
                                            refine lv_iload_n cx.1 cx.2.1 dX7_works_180 rfl (lv_at hl 2 rfl) ?_
                                            refine lv_iload_n cx.1 cx.2.1 dX7_works_181 rfl (lv_at hl 1 rfl) ?_
                                            refine lv_iload cx.1 cx.2.1 dX7_works_182 (lv_at hl 0 rfl) ?_
                                            refine zThenVx (S' := g_X7_goes T68 a b (f_X7_least ((2 * (T68 1 a)) - (T68 9 a)) ((2 * (T68 1 b)) - (T68 9 b)))) hS (zRunV (As := [.int (nI a), .int (nI b), .int (f_X7_least ((2 * (T68 1 a)) - (T68 9 a)) ((2 * (T68 1 b)) - (T68 9 b)))]) (rest := []) _ 3 cx (c_X7_goes l dC dI cyI cyZ ad hI T68 a b (f_X7_least ((2 * (T68 1 a)) - (T68 9 a)) ((2 * (T68 1 b)) - (T68 9 b))) (by omega) (by omega) (gP_of (u := u) hw68 (by omega) (by omega) hva hvb (by omega) (by assumption))) gX7_works_X7_goes rfl ⟨rfl, rfl⟩ (by decide +kernel) ⟨Nat.le_of_ble_eq_true rfl, Nat.le_of_ble_eq_true rfl⟩ (zX_true) trivial hK hP hS 0 rfl rfl rfl rfl hl.1 rfl (Nat.le_of_ble_eq_true rfl) dX7_works_184 ⟨Nat.zero_le _, Nat.zero_le _⟩) (fun H locs hP hS => ?_)
                                            refine lv_iinc (v := nI (b + 1)) (lv' := [(3, .int (nI (b + 1))), (4, .int (f_X7_least ((2 * (T68 1 a)) - (T68 9 a)) ((2 * (T68 1 b)) - (T68 9 b)))), (2, .int (nI a)), (1, .int (nI u)), (0, .ref (ad 0))]) cx.1 cx.2.1 dX7_works_187 hl (k := 1) rfl (nI_1 b) (by decide) rfl (fun ls hl => ?_)
                                            refine lv_goto (tgt := 68) cx.1 cx.2.1 dX7_works_190 (by decide) ?_
                                            have ha68 : lp_X7_works_68 S u T52 a T60 (64 - (b + 1)) (b + 1) (g_X7_goes T68 a b (f_X7_least ((2 * (T68 1 a)) - (T68 9 a)) ((2 * (T68 1 b)) - (T68 9 b)))) = lp_X7_works_68 S u T52 a T60 64 0 T60 := by
                                              rw [← hacc68, show 64 - b = (64 - (b + 1)) + 1 by omega]
                                              conv => rhs; rw [lp_X7_works_68]
                                              rw [if_neg (not_not_intro c8), if_neg c9, if_neg (not_not_intro c10), if_neg c11, if_neg (not_not_intro c12), if_neg c13]
                                            exact ih68 (b + 1) (g_X7_goes T68 a b (f_X7_least ((2 * (T68 1 a)) - (T68 9 a)) ((2 * (T68 1 b)) - (T68 9 b)))) (by omega) ha68 (by first | exact hw68 | exact wkP_congr hw68 (fr_X7_goes _ _ _ _ _ (by decide) (by decide) (by decide)) (fr_X7_goes _ _ _ _ _ (by decide) (by decide) (by decide)) (fr_X7_goes _ _ _ _ _ (by decide) (by decide) (by decide))) (by omega) _ _ ls hP hS (lv_sub hl [0, 2, 3, 4] rfl)
                          exact lp68 (64 - 0 + 1) 0 T60 (by omega) (by rw [Nat.sub_zero]) hw60 (Nat.lt_succ_self _) _ _ ls hP hS (lv_sub hl [0, 1, 2, 3] rfl)
                    exact lp60 (64 - 0 + 1) 0 T52 (by omega) rfl hw52 (Nat.lt_succ_self _) _ _ ls hP hS (lv_sub hl [0, 1, 2] rfl)
              exact lp52 (64 - 0 + 1) 0 (lp_X7_works_30 S (lp_X7_works_2 S S 64) 4096) (by omega) rfl hw30 (Nat.lt_succ_self _) _ _ ls hP hS (lv_sub hl [0, 1] rfl)
            · have nc3 : ¬ 4096 ≤ i := fun z => c3 ((nI_leI (a := 4096) (b := i) (by first | decide | omega) (by first | decide | omega)).mpr z)
              refine lv_aload_n cx.1 cx.2.1 dX7_works_37 rfl (lv_at hl 1 rfl) ?_
              refine zGet (v := .ref (ad 11)) (own := RX7) cx hinX7 hK hP 0 rfl rfl 15 (by decide) (by decide +kernel) rfl rfl dX7_works_38 ?_
              refine lv_iload_n cx.1 cx.2.1 dX7_works_41 rfl (lv_at hl 0 rfl) ?_
              refine lv_iconst (v := 0) cx.1 cx.2.1 dX7_works_42 (by decide) ?_
              refine zIstN cx (mw_W cyI cyZ ad) hI hK hP hS 11 0 rfl rfl (i) (by omega) (by decide) rfl (zUp T30 10 (upd (T30 10) i 0)) rfl dX7_works_43 (fun H locs hP hS => ?_)
              refine lv_iinc (v := nI (i + 1)) (lv' := [(1, .int (nI (i + 1))), (0, .ref (ad 0))]) cx.1 cx.2.1 dX7_works_44 hl (k := 0) rfl (nI_1 i) (by decide) rfl (fun ls hl => ?_)
              refine lv_goto (tgt := 30) cx.1 cx.2.1 dX7_works_47 (by decide) ?_
              have ha30 : lp_X7_works_30 S (lp_X7_works_2 S S 64) (i + 1) = zUp T30 10 (upd (T30 10) i 0) := by
                show bd_X7_works_30 S i (lp_X7_works_30 S (lp_X7_works_2 S S 64) i) = _
                rw [hacc30]
                unfold bd_X7_works_30
                rfl
              exact ih30 (i + 1) (zUp T30 10 (upd (T30 10) i 0)) (by omega) ha30 hw30 (by omega) _ _ ls hP hS (lv_sub hl [0, 1] rfl)
        exact lp30 (4096 - 0 + 1) 0 (lp_X7_works_2 S S 64) (by omega) rfl hw2 (Nat.lt_succ_self _) _ _ ls hP hS (lv_sub hl [0, 1] rfl)
      · have nc1 : ¬ 64 ≤ i := fun z => c1 ((nI_leI (a := 64) (b := i) (by first | decide | omega) (by first | decide | omega)).mpr z)
        refine lv_aload_n cx.1 cx.2.1 dX7_works_8 rfl (lv_at hl 1 rfl) ?_
        refine zGet (v := .ref (ad 10)) (own := RX7) cx hinX7 hK hP 0 rfl rfl 14 (by decide) (by decide +kernel) rfl rfl dX7_works_9 ?_
        refine lv_iload_n cx.1 cx.2.1 dX7_works_12 rfl (lv_at hl 0 rfl) ?_
        refine lv_iconst (v := 0) cx.1 cx.2.1 dX7_works_13 (by decide) ?_
        refine zIstN cx (mw_W cyI cyZ ad) hI hK hP hS 10 0 rfl rfl (i) (by omega) (by decide) rfl (zUp T2 9 (upd (T2 9) i 0)) rfl dX7_works_14 (fun H locs hP hS => ?_)
        refine lv_aload_n cx.1 cx.2.1 dX7_works_15 rfl (lv_at hl 1 rfl) ?_
        refine zGet (v := .ref (ad 12)) (own := RX7) cx hinX7 hK hP 0 rfl rfl 16 (by decide) (by decide +kernel) rfl rfl dX7_works_16 ?_
        refine lv_iload_n cx.1 cx.2.1 dX7_works_19 rfl (lv_at hl 0 rfl) ?_
        refine lv_iconst (v := 0) cx.1 cx.2.1 dX7_works_20 (by decide) ?_
        refine zIstN cx (mw_W cyI cyZ ad) hI hK hP hS 12 0 rfl rfl (i) (by omega) (by decide) rfl (zUp (zUp T2 9 (upd (T2 9) i 0)) 11 (upd (T2 11) i 0)) rfl dX7_works_21 (fun H locs hP hS => ?_)
        refine lv_iinc (v := nI (i + 1)) (lv' := [(1, .int (nI (i + 1))), (0, .ref (ad 0))]) cx.1 cx.2.1 dX7_works_22 hl (k := 0) rfl (nI_1 i) (by decide) rfl (fun ls hl => ?_)
        refine lv_goto (tgt := 2) cx.1 cx.2.1 dX7_works_25 (by decide) ?_
        have ha2 : lp_X7_works_2 S S (i + 1) = zUp (zUp T2 9 (upd (T2 9) i 0)) 11 (upd (T2 11) i 0) := by
          show bd_X7_works_2 S i (lp_X7_works_2 S S i) = _
          rw [hacc2]
          unfold bd_X7_works_2
          rfl
        exact ih2 (i + 1) (zUp (zUp T2 9 (upd (T2 9) i 0)) 11 (upd (T2 11) i 0)) (by omega) ha2 hw2 (by omega) _ _ ls hP hS (lv_sub hl [0, 1] rfl)
  exact lp2 (64 - 0 + 1) 0 S (by omega) rfl hw (Nat.lt_succ_self _) _ _ ls hP hS (lv_sub hl [0, 1] rfl)
