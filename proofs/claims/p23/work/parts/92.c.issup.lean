set_option maxHeartbeats 4000000 in
set_option maxRecDepth 100000 in
theorem c_L_isSupplied0 (l : Launch) (dC : Nat → ClassId) (dI : Nat → Nat → Nat) (cyI cyB : ClassId) (ad : Nat → Nat) (hI : zI ad 39) (S : zS) (F : zS) (hF : LF S F) (nc : Nat) (hnc : nc < 64) (hn : F 3 nc = -1) : zMi l (dC, dI) (lTys cyI cyB) ad 39 xL (qw cyI ad) yL_isSupplied wsL_isSupplied ({ frames := 8, cells := 0, slots := 0, locals := 132 } : Room) [.ref (ad 0), .ref (ad 36), .ref (ad 37), .int (nI nc)] S (fun v T => v = 1 ∧ T = S) := by
  refine zStartI (by decide) rfl (Nat.le_of_ble_eq_true rfl) ?_
  intro p e s m args below meth c ls cx hrt hlk hP hK hXs hl
  have hl : lv_has ls 11 [(0, .ref (ad 0)), (1, .ref (ad 36)), (2, .ref (ad 37)), (3, .int (nI nc))] := hl
  have hS : va_S (zA ad 39 s.heap.size) s.heap s.heap [] := va_S.rf
  refine lv_aload_n cx.1 cx.2.1 dL_isSupplied_0 rfl (lv_at hl 0 rfl) ?_
  refine lv_iload_n cx.1 cx.2.1 dL_isSupplied_1 rfl (lv_at hl 3 rfl) ?_
  refine zThenIx (v := F 3 nc) (S' := S) hS (zRunV (As := [.int (nI nc)]) (rest := []) _ 1 cx (bq_X6_net l dC dI cyI cyB ad hI S F hF nc (by omega)) gL_isSupplied_X6_net rfl ⟨rfl, rfl⟩ (by decide +kernel) ⟨Nat.le_of_ble_eq_true rfl, Nat.le_of_ble_eq_true rfl⟩ (xL_X ad 39) hXs hK hP hS 0 rfl rfl rfl rfl hl.1 rfl (Nat.le_of_ble_eq_true rfl) dL_isSupplied_2 ⟨Nat.zero_le _, Nat.zero_le _⟩) (fun H locs hP hS => ?_)
  rw [hn]
  refine lv_istore (lv' := [(4, .int (-1)), (0, .ref (ad 0)), (1, .ref (ad 36)), (2, .ref (ad 37)), (3, .int (nI nc))]) cx.1 cx.2.1 dL_isSupplied_5 hl (by decide) rfl (fun ls hl => ?_)
  refine lv_iconst (v := 0) cx.1 cx.2.1 dL_isSupplied_7 (by decide) ?_
  refine lv_istore (lv' := [(5, .int 0), (4, .int (-1)), (0, .ref (ad 0)), (1, .ref (ad 36)), (2, .ref (ad 37)), (3, .int (nI nc))]) cx.1 cx.2.1 dL_isSupplied_8 hl (by decide) rfl (fun ls hl => ?_)
  refine lv_iconst (v := 0) cx.1 cx.2.1 dL_isSupplied_10 (by decide) ?_
  refine lv_istore (lv' := [(6, .int 0), (5, .int 0), (4, .int (-1)), (0, .ref (ad 0)), (1, .ref (ad 36)), (2, .ref (ad 37)), (3, .int (nI nc))]) cx.1 cx.2.1 dL_isSupplied_11 hl (by decide) rfl (fun ls hl => ?_)
  refine lv_iconst (v := 1) cx.1 cx.2.1 dL_isSupplied_13 (by decide) ?_
  refine lv_istore (lv' := [(7, .int 1), (6, .int 0), (5, .int 0), (4, .int (-1)), (0, .ref (ad 0)), (1, .ref (ad 36)), (2, .ref (ad 37)), (3, .int (nI nc))]) cx.1 cx.2.1 dL_isSupplied_14 hl (by decide) rfl (fun ls hl => ?_)
  refine lv_iconst (v := 0) cx.1 cx.2.1 dL_isSupplied_16 (by decide) ?_
  refine lv_istore (lv' := [(8, .int 0), (7, .int 1), (6, .int 0), (5, .int 0), (4, .int (-1)), (0, .ref (ad 0)), (1, .ref (ad 36)), (2, .ref (ad 37)), (3, .int (nI nc))]) cx.1 cx.2.1 dL_isSupplied_17 hl (by decide) rfl (fun ls hl => ?_)
  refine lv_iload cx.1 cx.2.1 dL_isSupplied_19 (lv_at hl 0 rfl) ?_
  refine lv_bipush (v := 64) cx.1 cx.2.1 dL_isSupplied_21 (by decide) ?_
  refine lv_icmp_ge (tgt := 112) cx.1 cx.2.1 dL_isSupplied_23 (by decide) (fun c1 => ?_) (fun c1 => ?_)
  · exact absurd c1 (by decide)
  refine lv_iload cx.1 cx.2.1 dL_isSupplied_26 (lv_at hl 4 rfl) ?_
  refine lv_if_lt (tgt := 112) cx.1 cx.2.1 dL_isSupplied_28 (by decide) (fun c2 => ?_) (fun c2 => ?_)
  rotate_left
  · exact absurd c2 (by decide)
  refine lv_iconst (v := 0) cx.1 cx.2.1 dL_isSupplied_112 (by decide) ?_
  refine lv_istore (lv' := [(8, .int 0), (7, .int 1), (6, .int 0), (5, .int 0), (4, .int (-1)), (0, .ref (ad 0)), (1, .ref (ad 36)), (2, .ref (ad 37)), (3, .int (nI nc))]) cx.1 cx.2.1 dL_isSupplied_113 hl (by decide) rfl (fun ls hl => ?_)
  refine lv_iload cx.1 cx.2.1 dL_isSupplied_115 (lv_at hl 0 rfl) ?_
  refine lv_bipush (v := 64) cx.1 cx.2.1 dL_isSupplied_117 (by decide) ?_
  refine lv_icmp_ge (tgt := 253) cx.1 cx.2.1 dL_isSupplied_119 (by decide) (fun c3 => ?_) (fun c3 => ?_)
  · exact absurd c3 (by decide)
  refine lv_iload cx.1 cx.2.1 dL_isSupplied_122 (lv_at hl 4 rfl) ?_
  refine lv_if_lt (tgt := 253) cx.1 cx.2.1 dL_isSupplied_124 (by decide) (fun c4 => ?_) (fun c4 => ?_)
  rotate_left
  · exact absurd c4 (by decide)
  refine lv_iload cx.1 cx.2.1 dL_isSupplied_253 (lv_at hl 1 rfl) ?_
  refine lv_if_eq (tgt := 281) cx.1 cx.2.1 dL_isSupplied_255 (by decide) (fun c5 => ?_) (fun c5 => ?_)
  · exact absurd c5 (by decide)
  refine lv_aload_n cx.1 cx.2.1 dL_isSupplied_258 rfl (lv_at hl 5 rfl) ?_
  refine lv_iload_n cx.1 cx.2.1 dL_isSupplied_259 rfl (lv_at hl 8 rfl) ?_
  refine zThenIx (v := pwl F nc) (S' := S) hS (zRunV (As := [.int (nI nc)]) (rest := []) _ 1 cx (bq_X6_powerLeft l dC dI cyI cyB ad hI S F hF nc (by omega)) gL_isSupplied_X6_powerLeft rfl ⟨rfl, rfl⟩ (by decide +kernel) ⟨Nat.le_of_ble_eq_true rfl, Nat.le_of_ble_eq_true rfl⟩ (xL_X ad 39) hXs hK hP hS 0 rfl rfl rfl rfl hl.1 rfl (Nat.le_of_ble_eq_true rfl) dL_isSupplied_260 ⟨Nat.zero_le _, Nat.zero_le _⟩) (fun H locs hP hS => ?_)
  rw [pwl_0 hn]
  refine lv_iload cx.1 cx.2.1 dL_isSupplied_263 (lv_at hl 4 rfl) ?_
  refine lv_if_ge (tgt := 272) cx.1 cx.2.1 dL_isSupplied_265 (by decide) (fun c6 => ?_) (fun c6 => ?_)
  · exact absurd c6 (by decide)
  refine lv_iconst (v := 0) cx.1 cx.2.1 dL_isSupplied_268 (by decide) ?_
  refine lv_goto (tgt := 274) cx.1 cx.2.1 dL_isSupplied_269 (by decide) ?_
  refine lv_icmp_ne (tgt := 281) cx.1 cx.2.1 dL_isSupplied_274 (by decide) (fun c7 => ?_) (fun c7 => ?_)
  · exact absurd c7 (by decide)
  refine lv_iconst (v := 1) cx.1 cx.2.1 dL_isSupplied_277 (by decide) ?_
  refine lv_goto (tgt := 282) cx.1 cx.2.1 dL_isSupplied_278 (by decide) ?_
  exact zRetI cx hrt hlk (by first | rfl | decide) hS hP ⟨rfl, rfl⟩ dL_isSupplied_282
set_option maxHeartbeats 4000000 in
set_option maxRecDepth 100000 in
theorem c_L_isSupplied1 (l : Launch) (dC : Nat → ClassId) (dI : Nat → Nat → Nat) (cyI cyB : ClassId) (ad : Nat → Nat) (hI : zI ad 39) (S : zS) (F : zS) (hF : LF S F) (u : Nat) (nc : Nat) (hnc : nc < 64) (hu : u < 64) (hn : F 3 nc = nI u) : zMi l (dC, dI) (lTys cyI cyB) ad 39 xL (qw cyI ad) yL_isSupplied wsL_isSupplied ({ frames := 8, cells := 0, slots := 0, locals := 132 } : Room) [.ref (ad 0), .ref (ad 36), .ref (ad 37), .int (nI nc)] S (fun v T => v = 1 ∧ T = S) := by
  refine zStartI (by decide) rfl (Nat.le_of_ble_eq_true rfl) ?_
  intro p e s m args below meth c ls cx hrt hlk hP hK hXs hl
  have hl : lv_has ls 11 [(0, .ref (ad 0)), (1, .ref (ad 36)), (2, .ref (ad 37)), (3, .int (nI nc))] := hl
  have hS : va_S (zA ad 39 s.heap.size) s.heap s.heap [] := va_S.rf
  obtain ⟨Q, hQ⟩ : ∃ Q, Q = MQ below (zQi (dC, dI) (qw cyI ad) (fun v T => v = 1 ∧ T = S) (zA ad 39 s.heap.size)) args s 0 0 (zA ad 39 s.heap.size) := ⟨_, rfl⟩
  rw [← hQ]
  refine lv_aload_n cx.1 cx.2.1 dL_isSupplied_0 rfl (lv_at hl 0 rfl) ?_
  refine lv_iload_n cx.1 cx.2.1 dL_isSupplied_1 rfl (lv_at hl 3 rfl) ?_
  refine zThenIx (v := F 3 nc) (S' := S) hS (zRunV (As := [.int (nI nc)]) (rest := []) _ 1 cx (bq_X6_net l dC dI cyI cyB ad hI S F hF nc (by omega)) gL_isSupplied_X6_net rfl ⟨rfl, rfl⟩ (by decide +kernel) ⟨Nat.le_of_ble_eq_true rfl, Nat.le_of_ble_eq_true rfl⟩ (xL_X ad 39) hXs hK hP hS 0 rfl rfl rfl rfl hl.1 rfl (Nat.le_of_ble_eq_true rfl) dL_isSupplied_2 ⟨Nat.zero_le _, Nat.zero_le _⟩) (fun H locs hP hS => ?_)
  rw [hn]
  refine lv_istore (lv' := [(4, .int (nI u)), (0, .ref (ad 0)), (1, .ref (ad 36)), (2, .ref (ad 37)), (3, .int (nI nc))]) cx.1 cx.2.1 dL_isSupplied_5 hl (by decide) rfl (fun ls hl => ?_)
  refine lv_iconst (v := 0) cx.1 cx.2.1 dL_isSupplied_7 (by decide) ?_
  refine lv_istore (lv' := [(5, .int 0), (4, .int (nI u)), (0, .ref (ad 0)), (1, .ref (ad 36)), (2, .ref (ad 37)), (3, .int (nI nc))]) cx.1 cx.2.1 dL_isSupplied_8 hl (by decide) rfl (fun ls hl => ?_)
  refine lv_iconst (v := 0) cx.1 cx.2.1 dL_isSupplied_10 (by decide) ?_
  refine lv_istore (lv' := [(6, .int 0), (5, .int 0), (4, .int (nI u)), (0, .ref (ad 0)), (1, .ref (ad 36)), (2, .ref (ad 37)), (3, .int (nI nc))]) cx.1 cx.2.1 dL_isSupplied_11 hl (by decide) rfl (fun ls hl => ?_)
  refine lv_iconst (v := 1) cx.1 cx.2.1 dL_isSupplied_13 (by decide) ?_
  refine lv_istore (lv' := [(7, .int 1), (6, .int 0), (5, .int 0), (4, .int (nI u)), (0, .ref (ad 0)), (1, .ref (ad 36)), (2, .ref (ad 37)), (3, .int (nI nc))]) cx.1 cx.2.1 dL_isSupplied_14 hl (by decide) rfl (fun ls hl => ?_)
  refine lv_iconst (v := 0) cx.1 cx.2.1 dL_isSupplied_16 (by decide) ?_
  refine lv_istore (lv' := [(8, .int 0), (7, .int 1), (6, .int 0), (5, .int 0), (4, .int (nI u)), (0, .ref (ad 0)), (1, .ref (ad 36)), (2, .ref (ad 37)), (3, .int (nI nc))]) cx.1 cx.2.1 dL_isSupplied_17 hl (by decide) rfl (fun ls hl => ?_)
  have lp19 : ∀ (fu i : Nat) (pw : Int32) (wa : Int32) (hi19 : i ≤ 64) (hacc19 : lp_L_isSupplied_19 S F nc u 0 0 i = (pw, wa))  (_ : 64 - i < fu) (H : Heap) (locs : List Loc) (ls : Array Slot), va_P (dC, dI) vwCl (qw cyI ad S) H → va_S (zA ad 39 s.heap.size) s.heap H locs → lv_has ls 11 [(8, .int (nI i)), (7, .int 1), (6, .int wa), (5, .int pw), (4, .int (nI u)), (0, .ref (ad 0)), (1, .ref (ad 36)), (2, .ref (ad 37)), (3, .int (nI nc))] → W p l e (headSpec wsL_isSupplied ({ frames := 8, cells := 0, slots := 0, locals := 132 } : Room)).room s m args below meth c H locs 0 0 Q (F0 m 19 ls []) := by
    intro fu
    induction fu with
    | zero => intro i pw wa hi19 hacc19  hm; exact absurd hm (Nat.not_lt_zero _)
    | succ fu ih19 =>
      intro i pw wa hi19 hacc19  hm H locs ls hP hS hl
      refine lv_iload cx.1 cx.2.1 dL_isSupplied_19 (lv_at hl 0 rfl) ?_
      refine lv_bipush (v := 64) cx.1 cx.2.1 dL_isSupplied_21 (by decide) ?_
      refine lv_icmp_ge (tgt := 112) cx.1 cx.2.1 dL_isSupplied_23 (by decide) (fun c1 => ?_) (fun c1 => ?_)
      · have nc1 : 64 ≤ i := (nI_leI (a := 64) (b := i) (by first | decide | omega) (by first | decide | omega)).mp c1
        obtain rfl : i = 64 := by omega
        have hz0 : (lp_L_isSupplied_19 S F nc u 0 0 64).1 = pw := (congrArg Prod.fst hacc19)
        have hz1 : (lp_L_isSupplied_19 S F nc u 0 0 64).2 = wa := (congrArg Prod.snd hacc19)
        obtain ⟨N1, hN1⟩ : ∃ Z : Int32, (lp_L_isSupplied_19 S F nc u 0 0 64).1 = Z := ⟨_, rfl⟩
        rw [hN1] at hz0
        obtain ⟨N2, hN2⟩ : ∃ Z : Int32, (lp_L_isSupplied_19 S F nc u 0 0 64).2 = Z := ⟨_, rfl⟩
        rw [hN2] at hz1
        subst hz0
        subst hz1
        refine lv_iconst (v := 0) cx.1 cx.2.1 dL_isSupplied_112 (by decide) ?_
        refine lv_istore (lv' := [(8, .int 0), (7, .int 1), (6, .int N2), (5, .int N1), (4, .int (nI u)), (0, .ref (ad 0)), (1, .ref (ad 36)), (2, .ref (ad 37)), (3, .int (nI nc))]) cx.1 cx.2.1 dL_isSupplied_113 hl (by decide) rfl (fun ls hl => ?_)
        have lp115 : ∀ (fu i : Nat) (p2 : Int32) (w2 : Int32) (hi115 : i ≤ 64) (hacc115 : lp_L_isSupplied_115 S F nc u N1 N2 i = (p2, w2))  (_ : 64 - i < fu) (H : Heap) (locs : List Loc) (ls : Array Slot), va_P (dC, dI) vwCl (qw cyI ad S) H → va_S (zA ad 39 s.heap.size) s.heap H locs → lv_has ls 11 [(8, .int (nI i)), (7, .int 1), (6, .int w2), (5, .int p2), (4, .int (nI u)), (0, .ref (ad 0)), (1, .ref (ad 36)), (2, .ref (ad 37)), (3, .int (nI nc))] → W p l e (headSpec wsL_isSupplied ({ frames := 8, cells := 0, slots := 0, locals := 132 } : Room)).room s m args below meth c H locs 0 0 Q (F0 m 115 ls []) := by
          intro fu
          induction fu with
          | zero => intro i p2 w2 hi115 hacc115  hm; exact absurd hm (Nat.not_lt_zero _)
          | succ fu ih115 =>
            intro i p2 w2 hi115 hacc115  hm H locs ls hP hS hl
            refine lv_iload cx.1 cx.2.1 dL_isSupplied_115 (lv_at hl 0 rfl) ?_
            refine lv_bipush (v := 64) cx.1 cx.2.1 dL_isSupplied_117 (by decide) ?_
            refine lv_icmp_ge (tgt := 253) cx.1 cx.2.1 dL_isSupplied_119 (by decide) (fun c9 => ?_) (fun c9 => ?_)
            · have nc9 : 64 ≤ i := (nI_leI (a := 64) (b := i) (by first | decide | omega) (by first | decide | omega)).mp c9
              obtain rfl : i = 64 := by omega
              have hz0 : (lp_L_isSupplied_115 S F nc u N1 N2 64).1 = p2 := (congrArg Prod.fst hacc115)
              have hz1 : (lp_L_isSupplied_115 S F nc u N1 N2 64).2 = w2 := (congrArg Prod.snd hacc115)
              obtain ⟨N3, hN3⟩ : ∃ Z : Int32, (lp_L_isSupplied_115 S F nc u N1 N2 64).1 = Z := ⟨_, rfl⟩
              rw [hN3] at hz0
              obtain ⟨N4, hN4⟩ : ∃ Z : Int32, (lp_L_isSupplied_115 S F nc u N1 N2 64).2 = Z := ⟨_, rfl⟩
              rw [hN4] at hz1
              subst hz0
              subst hz1
              refine lv_iload cx.1 cx.2.1 dL_isSupplied_253 (lv_at hl 1 rfl) ?_
              refine lv_if_eq (tgt := 281) cx.1 cx.2.1 dL_isSupplied_255 (by decide) (fun c28 => ?_) (fun c28 => ?_)
              · exact absurd c28 (by decide)
              refine lv_aload_n cx.1 cx.2.1 dL_isSupplied_258 rfl (lv_at hl 5 rfl) ?_
              refine lv_iload_n cx.1 cx.2.1 dL_isSupplied_259 rfl (lv_at hl 8 rfl) ?_
              refine zThenIx (v := pwl F nc) (S' := S) hS (zRunV (As := [.int (nI nc)]) (rest := []) _ 1 cx (bq_X6_powerLeft l dC dI cyI cyB ad hI S F hF nc (by omega)) gL_isSupplied_X6_powerLeft rfl ⟨rfl, rfl⟩ (by decide +kernel) ⟨Nat.le_of_ble_eq_true rfl, Nat.le_of_ble_eq_true rfl⟩ (xL_X ad 39) hXs hK hP hS 0 rfl rfl rfl rfl hl.1 rfl (Nat.le_of_ble_eq_true rfl) dL_isSupplied_260 ⟨Nat.zero_le _, Nat.zero_le _⟩) (fun H locs hP hS => ?_)
              refine lv_iload cx.1 cx.2.1 dL_isSupplied_263 (lv_at hl 4 rfl) ?_
              refine lv_if_ge (tgt := 272) cx.1 cx.2.1 dL_isSupplied_265 (by decide) (fun c29 => ?_) (fun c29 => ?_)
              · have nc29 : 0 ≤ u := (nI_leI (a := 0) (b := u) (by first | decide | omega) (by first | decide | omega)).mp c29
                refine lv_iload cx.1 cx.2.1 dL_isSupplied_272 (lv_at hl 3 rfl) ?_
                refine lv_icmp_ne (tgt := 281) cx.1 cx.2.1 dL_isSupplied_274 (by decide) (fun c30 => ?_) (fun c30 => ?_)
                · exact absurd (sup_left hF hnc hu hn hN1 hN2 hN3) c30
                · refine lv_iconst (v := 1) cx.1 cx.2.1 dL_isSupplied_277 (by decide) ?_
                  refine lv_goto (tgt := 282) cx.1 cx.2.1 dL_isSupplied_278 (by decide) ?_
                  rw [hQ]
                  exact zRetI cx hrt hlk (by first | rfl | decide) hS hP ⟨rfl, rfl⟩ dL_isSupplied_282
              · have nc29 : ¬ 0 ≤ u := fun z => c29 ((nI_leI (a := 0) (b := u) (by first | decide | omega) (by first | decide | omega)).mpr z)
                exact absurd (Nat.zero_le _) nc29
            · have nc9 : ¬ 64 ≤ i := fun z => c9 ((nI_leI (a := 64) (b := i) (by first | decide | omega) (by first | decide | omega)).mpr z)
              refine lv_iload cx.1 cx.2.1 dL_isSupplied_122 (lv_at hl 4 rfl) ?_
              refine lv_if_lt (tgt := 253) cx.1 cx.2.1 dL_isSupplied_124 (by decide) (fun c10 => ?_) (fun c10 => ?_)
              · have nc10 : u < 0 := (nI_ltI (a := u) (b := 0) (by first | decide | omega) (by first | decide | omega)).mp c10
                exact absurd nc10 (Nat.not_lt_zero _)
              · have nc10 : ¬ u < 0 := fun z => c10 ((nI_ltI (a := u) (b := 0) (by first | decide | omega) (by first | decide | omega)).mpr z)
                refine lv_iload cx.1 cx.2.1 dL_isSupplied_127 (lv_at hl 1 rfl) ?_
                refine lv_if_eq (tgt := 253) cx.1 cx.2.1 dL_isSupplied_129 (by decide) (fun c11 => ?_) (fun c11 => ?_)
                · exact absurd c11 (by decide)
                refine lv_aload_n cx.1 cx.2.1 dL_isSupplied_132 rfl (lv_at hl 6 rfl) ?_
                refine lv_iload cx.1 cx.2.1 dL_isSupplied_133 (lv_at hl 0 rfl) ?_
                refine zIldN cx hK hP 36 0 rfl rfl (i) (by omega) (by decide) rfl dL_isSupplied_135 ?_
                refine lv_iconst (v := 2) cx.1 cx.2.1 dL_isSupplied_136 (by decide) ?_
                refine lv_icmp_eq (tgt := 148) cx.1 cx.2.1 dL_isSupplied_137 (by decide) (fun c12 => ?_) (fun c12 => ?_)
                · have hz : isZ (S 20) i := Or.inl c12
                  refine lv_aload_n cx.1 cx.2.1 dL_isSupplied_148 rfl (lv_at hl 5 rfl) ?_
                  refine lv_iload cx.1 cx.2.1 dL_isSupplied_149 (lv_at hl 0 rfl) ?_
                  refine zThenIx (v := F 3 i) (S' := S) hS (zRunV (As := [.int (nI i)]) (rest := []) _ 1 cx (bq_X6_net l dC dI cyI cyB ad hI S F hF i (by omega)) gL_isSupplied_X6_net rfl ⟨rfl, rfl⟩ (by decide +kernel) ⟨Nat.le_of_ble_eq_true rfl, Nat.le_of_ble_eq_true rfl⟩ (xL_X ad 39) hXs hK hP hS 0 rfl rfl rfl rfl hl.1 rfl (Nat.le_of_ble_eq_true rfl) dL_isSupplied_151 ⟨Nat.zero_le _, Nat.zero_le _⟩) (fun H locs hP hS => ?_)
                  refine lv_iload cx.1 cx.2.1 dL_isSupplied_154 (lv_at hl 4 rfl) ?_
                  refine lv_icmp_ne (tgt := 247) cx.1 cx.2.1 dL_isSupplied_156 (by decide) (fun c13 => ?_) (fun c13 => ?_)
                  · refine lv_iinc (v := nI (i + 1)) (lv' := [(8, .int (nI (i + 1))), (7, .int 1), (6, .int w2), (5, .int p2), (4, .int (nI u)), (0, .ref (ad 0)), (1, .ref (ad 36)), (2, .ref (ad 37)), (3, .int (nI nc))]) cx.1 cx.2.1 dL_isSupplied_247 hl (k := 0) rfl (nI_1 i) (by decide) rfl (fun ls hl => ?_)
                    refine lv_goto (tgt := 115) cx.1 cx.2.1 dL_isSupplied_250 (by decide) ?_
                    have ha115 : lp_L_isSupplied_115 S F nc u N1 N2 (i + 1) = (p2, w2) := by
                      show bd_L_isSupplied_115 S F nc u i (lp_L_isSupplied_115 S F nc u N1 N2 i).1 (lp_L_isSupplied_115 S F nc u N1 N2 i).2 = _
                      rw [hacc115]
                      unfold bd_L_isSupplied_115
                      rw [if_pos c12, if_pos c13]
                    exact ih115 (i + 1) p2 w2 (by omega) ha115  (by omega) _ _ ls hP hS (lv_sub hl [0, 1, 2, 3, 4, 5, 6, 7, 8] rfl)
                  · have hni : F 3 i = nI u := c13
                    have j174 : ∀ (v : Int32) (H : Heap) (locs : List Loc), v = (if ¬ (S 21 i) = 0 then (S 21 i) else 1 : Int32) → va_P (dC, dI) vwCl (qw cyI ad S) H → va_S (zA ad 39 s.heap.size) s.heap H locs → W p l e (headSpec wsL_isSupplied ({ frames := 8, cells := 0, slots := 0, locals := 132 } : Room)).room s m args below meth c H locs 0 0 Q (F0 m 174 ls (.int v :: [])) := by
                      intro v H locs hv hP hS
                      subst hv
                      refine lv_istore (lv' := [(9, .int (if ¬ (S 21 i) = 0 then (S 21 i) else 1 : Int32)), (8, .int (nI i)), (7, .int 1), (6, .int w2), (5, .int p2), (4, .int (nI u)), (0, .ref (ad 0)), (1, .ref (ad 36)), (2, .ref (ad 37)), (3, .int (nI nc))]) cx.1 cx.2.1 dL_isSupplied_174 hl (by decide) rfl (fun ls hl => ?_)
                      have j195 : ∀ (v : Int32) (H : Heap) (locs : List Loc), v = (if p2 < (if ¬ (S 21 i) = 0 then (S 21 i) else 1 : Int32) then 0 else (if w2 < (if ¬ (S 21 i) = 0 then (S 21 i) else 1 : Int32) then 0 else 1) : Int32) → va_P (dC, dI) vwCl (qw cyI ad S) H → va_S (zA ad 39 s.heap.size) s.heap H locs → W p l e (headSpec wsL_isSupplied ({ frames := 8, cells := 0, slots := 0, locals := 132 } : Room)).room s m args below meth c H locs 0 0 Q (F0 m 195 ls (.int v :: [])) := by
                        intro v H locs hv hP hS
                        subst hv
                        refine lv_istore (lv' := [(10, .int (if p2 < (if ¬ (S 21 i) = 0 then (S 21 i) else 1 : Int32) then 0 else (if w2 < (if ¬ (S 21 i) = 0 then (S 21 i) else 1 : Int32) then 0 else 1) : Int32)), (9, .int (if ¬ (S 21 i) = 0 then (S 21 i) else 1 : Int32)), (8, .int (nI i)), (7, .int 1), (6, .int w2), (5, .int p2), (4, .int (nI u)), (0, .ref (ad 0)), (1, .ref (ad 36)), (2, .ref (ad 37)), (3, .int (nI nc))]) cx.1 cx.2.1 dL_isSupplied_195 hl (by decide) rfl (fun ls hl => ?_)
                        refine lv_aload_n cx.1 cx.2.1 dL_isSupplied_197 rfl (lv_at hl 7 rfl) ?_
                        refine lv_iload cx.1 cx.2.1 dL_isSupplied_198 (lv_at hl 2 rfl) ?_
                        refine zThenIx (v := F 8 i) (S' := S) hS (zRunV (As := [.int (nI i)]) (rest := []) _ 1 cx (bq_X6_isServed l dC dI cyI cyB ad hI S F hF i (by omega)) gL_isSupplied_X6_isServed rfl ⟨rfl, rfl⟩ (by decide +kernel) ⟨Nat.le_of_ble_eq_true rfl, Nat.le_of_ble_eq_true rfl⟩ (xL_X ad 39) hXs hK hP hS 0 rfl rfl rfl rfl hl.1 rfl (Nat.le_of_ble_eq_true rfl) dL_isSupplied_200 ⟨Nat.zero_le _, Nat.zero_le _⟩) (fun H locs hP hS => ?_)
                        refine lv_iload cx.1 cx.2.1 dL_isSupplied_203 (lv_at hl 0 rfl) ?_
                        refine lv_icmp_ne (tgt := 212) cx.1 cx.2.1 dL_isSupplied_205 (by decide) (fun c17 => ?_) (fun c17 => ?_)
                        · exact absurd (sup_can hF hnc hu hn hN1 hN2 hacc115 (show i < 64 by omega) hz hni) c17
                        · refine lv_iconst (v := 1) cx.1 cx.2.1 dL_isSupplied_208 (by decide) ?_
                          refine lv_goto (tgt := 213) cx.1 cx.2.1 dL_isSupplied_209 (by decide) ?_
                          refine lv_istore (lv' := [(7, .int 1), (10, .int (if p2 < (if ¬ (S 21 i) = 0 then (S 21 i) else 1 : Int32) then 0 else (if w2 < (if ¬ (S 21 i) = 0 then (S 21 i) else 1 : Int32) then 0 else 1) : Int32)), (9, .int (if ¬ (S 21 i) = 0 then (S 21 i) else 1 : Int32)), (8, .int (nI i)), (6, .int w2), (5, .int p2), (4, .int (nI u)), (0, .ref (ad 0)), (1, .ref (ad 36)), (2, .ref (ad 37)), (3, .int (nI nc))]) cx.1 cx.2.1 dL_isSupplied_213 hl (by decide) rfl (fun ls hl => ?_)
                          refine lv_iload cx.1 cx.2.1 dL_isSupplied_215 (lv_at hl 5 rfl) ?_
                          have j228 : ∀ (v : Int32) (H : Heap) (locs : List Loc), v = (if (if p2 < (if ¬ (S 21 i) = 0 then (S 21 i) else 1 : Int32) then 0 else (if w2 < (if ¬ (S 21 i) = 0 then (S 21 i) else 1 : Int32) then 0 else 1) : Int32) = 0 then 0 else (if ¬ (S 21 i) = 0 then (S 21 i) else 1 : Int32) : Int32) → va_P (dC, dI) vwCl (qw cyI ad S) H → va_S (zA ad 39 s.heap.size) s.heap H locs → W p l e (headSpec wsL_isSupplied ({ frames := 8, cells := 0, slots := 0, locals := 132 } : Room)).room s m args below meth c H locs 0 0 Q (F0 m 228 ls (.int v :: [.int p2])) := by
                            intro v H locs hv hP hS
                            subst hv
                            refine lv_isub cx.1 cx.2.1 dL_isSupplied_228 ?_
                            refine lv_istore (lv' := [(5, .int (p2 - (if (if p2 < (if ¬ (S 21 i) = 0 then (S 21 i) else 1 : Int32) then 0 else (if w2 < (if ¬ (S 21 i) = 0 then (S 21 i) else 1 : Int32) then 0 else 1) : Int32) = 0 then 0 else (if ¬ (S 21 i) = 0 then (S 21 i) else 1 : Int32) : Int32))), (7, .int 1), (10, .int (if p2 < (if ¬ (S 21 i) = 0 then (S 21 i) else 1 : Int32) then 0 else (if w2 < (if ¬ (S 21 i) = 0 then (S 21 i) else 1 : Int32) then 0 else 1) : Int32)), (9, .int (if ¬ (S 21 i) = 0 then (S 21 i) else 1 : Int32)), (8, .int (nI i)), (6, .int w2), (4, .int (nI u)), (0, .ref (ad 0)), (1, .ref (ad 36)), (2, .ref (ad 37)), (3, .int (nI nc))]) cx.1 cx.2.1 dL_isSupplied_229 hl (by decide) rfl (fun ls hl => ?_)
                            refine lv_iload cx.1 cx.2.1 dL_isSupplied_231 (lv_at hl 5 rfl) ?_
                            have j244 : ∀ (v : Int32) (H : Heap) (locs : List Loc), v = (if (if p2 < (if ¬ (S 21 i) = 0 then (S 21 i) else 1 : Int32) then 0 else (if w2 < (if ¬ (S 21 i) = 0 then (S 21 i) else 1 : Int32) then 0 else 1) : Int32) = 0 then 0 else (if ¬ (S 21 i) = 0 then (S 21 i) else 1 : Int32) : Int32) → va_P (dC, dI) vwCl (qw cyI ad S) H → va_S (zA ad 39 s.heap.size) s.heap H locs → W p l e (headSpec wsL_isSupplied ({ frames := 8, cells := 0, slots := 0, locals := 132 } : Room)).room s m args below meth c H locs 0 0 Q (F0 m 244 ls (.int v :: [.int w2])) := by
                              intro v H locs hv hP hS
                              subst hv
                              refine lv_isub cx.1 cx.2.1 dL_isSupplied_244 ?_
                              refine lv_istore (lv' := [(6, .int (w2 - (if (if p2 < (if ¬ (S 21 i) = 0 then (S 21 i) else 1 : Int32) then 0 else (if w2 < (if ¬ (S 21 i) = 0 then (S 21 i) else 1 : Int32) then 0 else 1) : Int32) = 0 then 0 else (if ¬ (S 21 i) = 0 then (S 21 i) else 1 : Int32) : Int32))), (5, .int (p2 - (if (if p2 < (if ¬ (S 21 i) = 0 then (S 21 i) else 1 : Int32) then 0 else (if w2 < (if ¬ (S 21 i) = 0 then (S 21 i) else 1 : Int32) then 0 else 1) : Int32) = 0 then 0 else (if ¬ (S 21 i) = 0 then (S 21 i) else 1 : Int32) : Int32))), (7, .int 1), (10, .int (if p2 < (if ¬ (S 21 i) = 0 then (S 21 i) else 1 : Int32) then 0 else (if w2 < (if ¬ (S 21 i) = 0 then (S 21 i) else 1 : Int32) then 0 else 1) : Int32)), (9, .int (if ¬ (S 21 i) = 0 then (S 21 i) else 1 : Int32)), (8, .int (nI i)), (4, .int (nI u)), (0, .ref (ad 0)), (1, .ref (ad 36)), (2, .ref (ad 37)), (3, .int (nI nc))]) cx.1 cx.2.1 dL_isSupplied_245 hl (by decide) rfl (fun ls hl => ?_)
                              refine lv_iinc (v := nI (i + 1)) (lv' := [(8, .int (nI (i + 1))), (6, .int (w2 - (if (if p2 < (if ¬ (S 21 i) = 0 then (S 21 i) else 1 : Int32) then 0 else (if w2 < (if ¬ (S 21 i) = 0 then (S 21 i) else 1 : Int32) then 0 else 1) : Int32) = 0 then 0 else (if ¬ (S 21 i) = 0 then (S 21 i) else 1 : Int32) : Int32))), (5, .int (p2 - (if (if p2 < (if ¬ (S 21 i) = 0 then (S 21 i) else 1 : Int32) then 0 else (if w2 < (if ¬ (S 21 i) = 0 then (S 21 i) else 1 : Int32) then 0 else 1) : Int32) = 0 then 0 else (if ¬ (S 21 i) = 0 then (S 21 i) else 1 : Int32) : Int32))), (7, .int 1), (10, .int (if p2 < (if ¬ (S 21 i) = 0 then (S 21 i) else 1 : Int32) then 0 else (if w2 < (if ¬ (S 21 i) = 0 then (S 21 i) else 1 : Int32) then 0 else 1) : Int32)), (9, .int (if ¬ (S 21 i) = 0 then (S 21 i) else 1 : Int32)), (4, .int (nI u)), (0, .ref (ad 0)), (1, .ref (ad 36)), (2, .ref (ad 37)), (3, .int (nI nc))]) cx.1 cx.2.1 dL_isSupplied_247 hl (k := 5) rfl (nI_1 i) (by decide) rfl (fun ls hl => ?_)
                              refine lv_goto (tgt := 115) cx.1 cx.2.1 dL_isSupplied_250 (by decide) ?_
                              have ha115 : lp_L_isSupplied_115 S F nc u N1 N2 (i + 1) = (p2 - (if (if p2 < (if ¬ (S 21 i) = 0 then (S 21 i) else 1 : Int32) then 0 else (if w2 < (if ¬ (S 21 i) = 0 then (S 21 i) else 1 : Int32) then 0 else 1) : Int32) = 0 then 0 else (if ¬ (S 21 i) = 0 then (S 21 i) else 1 : Int32) : Int32), w2 - (if (if p2 < (if ¬ (S 21 i) = 0 then (S 21 i) else 1 : Int32) then 0 else (if w2 < (if ¬ (S 21 i) = 0 then (S 21 i) else 1 : Int32) then 0 else 1) : Int32) = 0 then 0 else (if ¬ (S 21 i) = 0 then (S 21 i) else 1 : Int32) : Int32)) := by
                                show bd_L_isSupplied_115 S F nc u i (lp_L_isSupplied_115 S F nc u N1 N2 i).1 (lp_L_isSupplied_115 S F nc u N1 N2 i).2 = _
                                rw [hacc115]
                                unfold bd_L_isSupplied_115
                                rw [if_pos c12, if_neg (not_not_intro c13)]
                              exact ih115 (i + 1) (p2 - (if (if p2 < (if ¬ (S 21 i) = 0 then (S 21 i) else 1 : Int32) then 0 else (if w2 < (if ¬ (S 21 i) = 0 then (S 21 i) else 1 : Int32) then 0 else 1) : Int32) = 0 then 0 else (if ¬ (S 21 i) = 0 then (S 21 i) else 1 : Int32) : Int32)) (w2 - (if (if p2 < (if ¬ (S 21 i) = 0 then (S 21 i) else 1 : Int32) then 0 else (if w2 < (if ¬ (S 21 i) = 0 then (S 21 i) else 1 : Int32) then 0 else 1) : Int32) = 0 then 0 else (if ¬ (S 21 i) = 0 then (S 21 i) else 1 : Int32) : Int32)) (by omega) ha115  (by omega) _ _ ls hP hS (lv_sub hl [0, 3, 1, 2, 6, 7, 8, 9, 10] rfl)
                            refine lv_iload cx.1 cx.2.1 dL_isSupplied_233 (lv_at hl 2 rfl) ?_
                            refine lv_if_eq (tgt := 243) cx.1 cx.2.1 dL_isSupplied_235 (by decide) (fun c19 => ?_) (fun c19 => ?_)
                            · refine lv_iconst (v := 0) cx.1 cx.2.1 dL_isSupplied_243 (by decide) ?_
                              exact j244 _ _ _ (by first | (rw [if_pos c19]; done) | exact Eq.symm ((if_pos c19).trans (rfl))) hP hS
                            · refine lv_iload cx.1 cx.2.1 dL_isSupplied_238 (lv_at hl 3 rfl) ?_
                              refine lv_goto (tgt := 244) cx.1 cx.2.1 dL_isSupplied_240 (by decide) ?_
                              exact j244 _ _ _ (by first | (rw [if_neg c19]; done) | exact Eq.symm ((if_neg c19).trans (rfl))) hP hS
                          refine lv_iload cx.1 cx.2.1 dL_isSupplied_217 (lv_at hl 1 rfl) ?_
                          refine lv_if_eq (tgt := 227) cx.1 cx.2.1 dL_isSupplied_219 (by decide) (fun c18 => ?_) (fun c18 => ?_)
                          · refine lv_iconst (v := 0) cx.1 cx.2.1 dL_isSupplied_227 (by decide) ?_
                            exact j228 _ _ _ (by first | (rw [if_pos c18]; done) | exact Eq.symm ((if_pos c18).trans (rfl))) hP hS
                          · refine lv_iload cx.1 cx.2.1 dL_isSupplied_222 (lv_at hl 2 rfl) ?_
                            refine lv_goto (tgt := 228) cx.1 cx.2.1 dL_isSupplied_224 (by decide) ?_
                            exact j228 _ _ _ (by first | (rw [if_neg c18]; done) | exact Eq.symm ((if_neg c18).trans (rfl))) hP hS
                      refine lv_iload cx.1 cx.2.1 dL_isSupplied_176 (lv_at hl 4 rfl) ?_
                      refine lv_iload cx.1 cx.2.1 dL_isSupplied_178 (lv_at hl 0 rfl) ?_
                      refine lv_icmp_lt (tgt := 194) cx.1 cx.2.1 dL_isSupplied_180 (by decide) (fun c15 => ?_) (fun c15 => ?_)
                      · refine lv_iconst (v := 0) cx.1 cx.2.1 dL_isSupplied_194 (by decide) ?_
                        exact j195 _ _ _ (by first | (rw [if_pos c15]; done) | exact Eq.symm ((if_pos c15).trans (rfl))) hP hS
                      · refine lv_iload cx.1 cx.2.1 dL_isSupplied_183 (lv_at hl 3 rfl) ?_
                        refine lv_iload cx.1 cx.2.1 dL_isSupplied_185 (lv_at hl 0 rfl) ?_
                        refine lv_icmp_lt (tgt := 194) cx.1 cx.2.1 dL_isSupplied_187 (by decide) (fun c16 => ?_) (fun c16 => ?_)
                        · refine lv_iconst (v := 0) cx.1 cx.2.1 dL_isSupplied_194 (by decide) ?_
                          exact j195 _ _ _ (by first | (rw [if_neg c15, if_pos c16]; done) | exact Eq.symm ((if_neg c15).trans ((if_pos c16).trans (rfl)))) hP hS
                        · refine lv_iconst (v := 1) cx.1 cx.2.1 dL_isSupplied_190 (by decide) ?_
                          refine lv_goto (tgt := 195) cx.1 cx.2.1 dL_isSupplied_191 (by decide) ?_
                          exact j195 _ _ _ (by first | (rw [if_neg c15, if_neg c16]; done) | exact Eq.symm ((if_neg c15).trans ((if_neg c16).trans (rfl)))) hP hS
                    refine lv_aload_n cx.1 cx.2.1 dL_isSupplied_159 rfl (lv_at hl 7 rfl) ?_
                    refine lv_iload cx.1 cx.2.1 dL_isSupplied_160 (lv_at hl 0 rfl) ?_
                    refine zIldN cx hK hP 37 0 rfl rfl (i) (by omega) (by decide) rfl dL_isSupplied_162 ?_
                    refine lv_if_ne (tgt := 170) cx.1 cx.2.1 dL_isSupplied_163 (by decide) (fun c14 => ?_) (fun c14 => ?_)
                    · refine lv_aload_n cx.1 cx.2.1 dL_isSupplied_170 rfl (lv_at hl 7 rfl) ?_
                      refine lv_iload cx.1 cx.2.1 dL_isSupplied_171 (lv_at hl 0 rfl) ?_
                      refine zIldN cx hK hP 37 0 rfl rfl (i) (by omega) (by decide) rfl dL_isSupplied_173 ?_
                      exact j174 _ _ _ (by first | (rw [if_pos c14]; done) | exact Eq.symm ((if_pos c14).trans (rfl))) hP hS
                    · refine lv_iconst (v := 1) cx.1 cx.2.1 dL_isSupplied_166 (by decide) ?_
                      refine lv_goto (tgt := 174) cx.1 cx.2.1 dL_isSupplied_167 (by decide) ?_
                      exact j174 _ _ _ (by first | (rw [if_neg (not_not_intro c14)]; done) | exact Eq.symm ((if_neg (not_not_intro c14)).trans (rfl))) hP hS
                · refine lv_aload_n cx.1 cx.2.1 dL_isSupplied_140 rfl (lv_at hl 6 rfl) ?_
                  refine lv_iload cx.1 cx.2.1 dL_isSupplied_141 (lv_at hl 0 rfl) ?_
                  refine zIldN cx hK hP 36 0 rfl rfl (i) (by omega) (by decide) rfl dL_isSupplied_143 ?_
                  refine lv_iconst (v := 3) cx.1 cx.2.1 dL_isSupplied_144 (by decide) ?_
                  refine lv_icmp_ne (tgt := 247) cx.1 cx.2.1 dL_isSupplied_145 (by decide) (fun c20 => ?_) (fun c20 => ?_)
                  · refine lv_iinc (v := nI (i + 1)) (lv' := [(8, .int (nI (i + 1))), (7, .int 1), (6, .int w2), (5, .int p2), (4, .int (nI u)), (0, .ref (ad 0)), (1, .ref (ad 36)), (2, .ref (ad 37)), (3, .int (nI nc))]) cx.1 cx.2.1 dL_isSupplied_247 hl (k := 0) rfl (nI_1 i) (by decide) rfl (fun ls hl => ?_)
                    refine lv_goto (tgt := 115) cx.1 cx.2.1 dL_isSupplied_250 (by decide) ?_
                    have ha115 : lp_L_isSupplied_115 S F nc u N1 N2 (i + 1) = (p2, w2) := by
                      show bd_L_isSupplied_115 S F nc u i (lp_L_isSupplied_115 S F nc u N1 N2 i).1 (lp_L_isSupplied_115 S F nc u N1 N2 i).2 = _
                      rw [hacc115]
                      unfold bd_L_isSupplied_115
                      rw [if_neg c12, if_pos c20]
                    exact ih115 (i + 1) p2 w2 (by omega) ha115  (by omega) _ _ ls hP hS (lv_sub hl [0, 1, 2, 3, 4, 5, 6, 7, 8] rfl)
                  · have hz : isZ (S 20) i := Or.inr c20
                    refine lv_aload_n cx.1 cx.2.1 dL_isSupplied_148 rfl (lv_at hl 5 rfl) ?_
                    refine lv_iload cx.1 cx.2.1 dL_isSupplied_149 (lv_at hl 0 rfl) ?_
                    refine zThenIx (v := F 3 i) (S' := S) hS (zRunV (As := [.int (nI i)]) (rest := []) _ 1 cx (bq_X6_net l dC dI cyI cyB ad hI S F hF i (by omega)) gL_isSupplied_X6_net rfl ⟨rfl, rfl⟩ (by decide +kernel) ⟨Nat.le_of_ble_eq_true rfl, Nat.le_of_ble_eq_true rfl⟩ (xL_X ad 39) hXs hK hP hS 0 rfl rfl rfl rfl hl.1 rfl (Nat.le_of_ble_eq_true rfl) dL_isSupplied_151 ⟨Nat.zero_le _, Nat.zero_le _⟩) (fun H locs hP hS => ?_)
                    refine lv_iload cx.1 cx.2.1 dL_isSupplied_154 (lv_at hl 4 rfl) ?_
                    refine lv_icmp_ne (tgt := 247) cx.1 cx.2.1 dL_isSupplied_156 (by decide) (fun c21 => ?_) (fun c21 => ?_)
                    · refine lv_iinc (v := nI (i + 1)) (lv' := [(8, .int (nI (i + 1))), (7, .int 1), (6, .int w2), (5, .int p2), (4, .int (nI u)), (0, .ref (ad 0)), (1, .ref (ad 36)), (2, .ref (ad 37)), (3, .int (nI nc))]) cx.1 cx.2.1 dL_isSupplied_247 hl (k := 0) rfl (nI_1 i) (by decide) rfl (fun ls hl => ?_)
                      refine lv_goto (tgt := 115) cx.1 cx.2.1 dL_isSupplied_250 (by decide) ?_
                      have ha115 : lp_L_isSupplied_115 S F nc u N1 N2 (i + 1) = (p2, w2) := by
                        show bd_L_isSupplied_115 S F nc u i (lp_L_isSupplied_115 S F nc u N1 N2 i).1 (lp_L_isSupplied_115 S F nc u N1 N2 i).2 = _
                        rw [hacc115]
                        unfold bd_L_isSupplied_115
                        rw [if_neg c12, if_neg (not_not_intro c20), if_pos c21]
                      exact ih115 (i + 1) p2 w2 (by omega) ha115  (by omega) _ _ ls hP hS (lv_sub hl [0, 1, 2, 3, 4, 5, 6, 7, 8] rfl)
                    · have hni : F 3 i = nI u := c21
                      have j174 : ∀ (v : Int32) (H : Heap) (locs : List Loc), v = (if ¬ (S 21 i) = 0 then (S 21 i) else 1 : Int32) → va_P (dC, dI) vwCl (qw cyI ad S) H → va_S (zA ad 39 s.heap.size) s.heap H locs → W p l e (headSpec wsL_isSupplied ({ frames := 8, cells := 0, slots := 0, locals := 132 } : Room)).room s m args below meth c H locs 0 0 Q (F0 m 174 ls (.int v :: [])) := by
                        intro v H locs hv hP hS
                        subst hv
                        refine lv_istore (lv' := [(9, .int (if ¬ (S 21 i) = 0 then (S 21 i) else 1 : Int32)), (8, .int (nI i)), (7, .int 1), (6, .int w2), (5, .int p2), (4, .int (nI u)), (0, .ref (ad 0)), (1, .ref (ad 36)), (2, .ref (ad 37)), (3, .int (nI nc))]) cx.1 cx.2.1 dL_isSupplied_174 hl (by decide) rfl (fun ls hl => ?_)
                        have j195 : ∀ (v : Int32) (H : Heap) (locs : List Loc), v = (if p2 < (if ¬ (S 21 i) = 0 then (S 21 i) else 1 : Int32) then 0 else (if w2 < (if ¬ (S 21 i) = 0 then (S 21 i) else 1 : Int32) then 0 else 1) : Int32) → va_P (dC, dI) vwCl (qw cyI ad S) H → va_S (zA ad 39 s.heap.size) s.heap H locs → W p l e (headSpec wsL_isSupplied ({ frames := 8, cells := 0, slots := 0, locals := 132 } : Room)).room s m args below meth c H locs 0 0 Q (F0 m 195 ls (.int v :: [])) := by
                          intro v H locs hv hP hS
                          subst hv
                          refine lv_istore (lv' := [(10, .int (if p2 < (if ¬ (S 21 i) = 0 then (S 21 i) else 1 : Int32) then 0 else (if w2 < (if ¬ (S 21 i) = 0 then (S 21 i) else 1 : Int32) then 0 else 1) : Int32)), (9, .int (if ¬ (S 21 i) = 0 then (S 21 i) else 1 : Int32)), (8, .int (nI i)), (7, .int 1), (6, .int w2), (5, .int p2), (4, .int (nI u)), (0, .ref (ad 0)), (1, .ref (ad 36)), (2, .ref (ad 37)), (3, .int (nI nc))]) cx.1 cx.2.1 dL_isSupplied_195 hl (by decide) rfl (fun ls hl => ?_)
                          refine lv_aload_n cx.1 cx.2.1 dL_isSupplied_197 rfl (lv_at hl 7 rfl) ?_
                          refine lv_iload cx.1 cx.2.1 dL_isSupplied_198 (lv_at hl 2 rfl) ?_
                          refine zThenIx (v := F 8 i) (S' := S) hS (zRunV (As := [.int (nI i)]) (rest := []) _ 1 cx (bq_X6_isServed l dC dI cyI cyB ad hI S F hF i (by omega)) gL_isSupplied_X6_isServed rfl ⟨rfl, rfl⟩ (by decide +kernel) ⟨Nat.le_of_ble_eq_true rfl, Nat.le_of_ble_eq_true rfl⟩ (xL_X ad 39) hXs hK hP hS 0 rfl rfl rfl rfl hl.1 rfl (Nat.le_of_ble_eq_true rfl) dL_isSupplied_200 ⟨Nat.zero_le _, Nat.zero_le _⟩) (fun H locs hP hS => ?_)
                          refine lv_iload cx.1 cx.2.1 dL_isSupplied_203 (lv_at hl 0 rfl) ?_
                          refine lv_icmp_ne (tgt := 212) cx.1 cx.2.1 dL_isSupplied_205 (by decide) (fun c25 => ?_) (fun c25 => ?_)
                          · exact absurd (sup_can hF hnc hu hn hN1 hN2 hacc115 (show i < 64 by omega) hz hni) c25
                          · refine lv_iconst (v := 1) cx.1 cx.2.1 dL_isSupplied_208 (by decide) ?_
                            refine lv_goto (tgt := 213) cx.1 cx.2.1 dL_isSupplied_209 (by decide) ?_
                            refine lv_istore (lv' := [(7, .int 1), (10, .int (if p2 < (if ¬ (S 21 i) = 0 then (S 21 i) else 1 : Int32) then 0 else (if w2 < (if ¬ (S 21 i) = 0 then (S 21 i) else 1 : Int32) then 0 else 1) : Int32)), (9, .int (if ¬ (S 21 i) = 0 then (S 21 i) else 1 : Int32)), (8, .int (nI i)), (6, .int w2), (5, .int p2), (4, .int (nI u)), (0, .ref (ad 0)), (1, .ref (ad 36)), (2, .ref (ad 37)), (3, .int (nI nc))]) cx.1 cx.2.1 dL_isSupplied_213 hl (by decide) rfl (fun ls hl => ?_)
                            refine lv_iload cx.1 cx.2.1 dL_isSupplied_215 (lv_at hl 5 rfl) ?_
                            have j228 : ∀ (v : Int32) (H : Heap) (locs : List Loc), v = (if (if p2 < (if ¬ (S 21 i) = 0 then (S 21 i) else 1 : Int32) then 0 else (if w2 < (if ¬ (S 21 i) = 0 then (S 21 i) else 1 : Int32) then 0 else 1) : Int32) = 0 then 0 else (if ¬ (S 21 i) = 0 then (S 21 i) else 1 : Int32) : Int32) → va_P (dC, dI) vwCl (qw cyI ad S) H → va_S (zA ad 39 s.heap.size) s.heap H locs → W p l e (headSpec wsL_isSupplied ({ frames := 8, cells := 0, slots := 0, locals := 132 } : Room)).room s m args below meth c H locs 0 0 Q (F0 m 228 ls (.int v :: [.int p2])) := by
                              intro v H locs hv hP hS
                              subst hv
                              refine lv_isub cx.1 cx.2.1 dL_isSupplied_228 ?_
                              refine lv_istore (lv' := [(5, .int (p2 - (if (if p2 < (if ¬ (S 21 i) = 0 then (S 21 i) else 1 : Int32) then 0 else (if w2 < (if ¬ (S 21 i) = 0 then (S 21 i) else 1 : Int32) then 0 else 1) : Int32) = 0 then 0 else (if ¬ (S 21 i) = 0 then (S 21 i) else 1 : Int32) : Int32))), (7, .int 1), (10, .int (if p2 < (if ¬ (S 21 i) = 0 then (S 21 i) else 1 : Int32) then 0 else (if w2 < (if ¬ (S 21 i) = 0 then (S 21 i) else 1 : Int32) then 0 else 1) : Int32)), (9, .int (if ¬ (S 21 i) = 0 then (S 21 i) else 1 : Int32)), (8, .int (nI i)), (6, .int w2), (4, .int (nI u)), (0, .ref (ad 0)), (1, .ref (ad 36)), (2, .ref (ad 37)), (3, .int (nI nc))]) cx.1 cx.2.1 dL_isSupplied_229 hl (by decide) rfl (fun ls hl => ?_)
                              refine lv_iload cx.1 cx.2.1 dL_isSupplied_231 (lv_at hl 5 rfl) ?_
                              have j244 : ∀ (v : Int32) (H : Heap) (locs : List Loc), v = (if (if p2 < (if ¬ (S 21 i) = 0 then (S 21 i) else 1 : Int32) then 0 else (if w2 < (if ¬ (S 21 i) = 0 then (S 21 i) else 1 : Int32) then 0 else 1) : Int32) = 0 then 0 else (if ¬ (S 21 i) = 0 then (S 21 i) else 1 : Int32) : Int32) → va_P (dC, dI) vwCl (qw cyI ad S) H → va_S (zA ad 39 s.heap.size) s.heap H locs → W p l e (headSpec wsL_isSupplied ({ frames := 8, cells := 0, slots := 0, locals := 132 } : Room)).room s m args below meth c H locs 0 0 Q (F0 m 244 ls (.int v :: [.int w2])) := by
                                intro v H locs hv hP hS
                                subst hv
                                refine lv_isub cx.1 cx.2.1 dL_isSupplied_244 ?_
                                refine lv_istore (lv' := [(6, .int (w2 - (if (if p2 < (if ¬ (S 21 i) = 0 then (S 21 i) else 1 : Int32) then 0 else (if w2 < (if ¬ (S 21 i) = 0 then (S 21 i) else 1 : Int32) then 0 else 1) : Int32) = 0 then 0 else (if ¬ (S 21 i) = 0 then (S 21 i) else 1 : Int32) : Int32))), (5, .int (p2 - (if (if p2 < (if ¬ (S 21 i) = 0 then (S 21 i) else 1 : Int32) then 0 else (if w2 < (if ¬ (S 21 i) = 0 then (S 21 i) else 1 : Int32) then 0 else 1) : Int32) = 0 then 0 else (if ¬ (S 21 i) = 0 then (S 21 i) else 1 : Int32) : Int32))), (7, .int 1), (10, .int (if p2 < (if ¬ (S 21 i) = 0 then (S 21 i) else 1 : Int32) then 0 else (if w2 < (if ¬ (S 21 i) = 0 then (S 21 i) else 1 : Int32) then 0 else 1) : Int32)), (9, .int (if ¬ (S 21 i) = 0 then (S 21 i) else 1 : Int32)), (8, .int (nI i)), (4, .int (nI u)), (0, .ref (ad 0)), (1, .ref (ad 36)), (2, .ref (ad 37)), (3, .int (nI nc))]) cx.1 cx.2.1 dL_isSupplied_245 hl (by decide) rfl (fun ls hl => ?_)
                                refine lv_iinc (v := nI (i + 1)) (lv' := [(8, .int (nI (i + 1))), (6, .int (w2 - (if (if p2 < (if ¬ (S 21 i) = 0 then (S 21 i) else 1 : Int32) then 0 else (if w2 < (if ¬ (S 21 i) = 0 then (S 21 i) else 1 : Int32) then 0 else 1) : Int32) = 0 then 0 else (if ¬ (S 21 i) = 0 then (S 21 i) else 1 : Int32) : Int32))), (5, .int (p2 - (if (if p2 < (if ¬ (S 21 i) = 0 then (S 21 i) else 1 : Int32) then 0 else (if w2 < (if ¬ (S 21 i) = 0 then (S 21 i) else 1 : Int32) then 0 else 1) : Int32) = 0 then 0 else (if ¬ (S 21 i) = 0 then (S 21 i) else 1 : Int32) : Int32))), (7, .int 1), (10, .int (if p2 < (if ¬ (S 21 i) = 0 then (S 21 i) else 1 : Int32) then 0 else (if w2 < (if ¬ (S 21 i) = 0 then (S 21 i) else 1 : Int32) then 0 else 1) : Int32)), (9, .int (if ¬ (S 21 i) = 0 then (S 21 i) else 1 : Int32)), (4, .int (nI u)), (0, .ref (ad 0)), (1, .ref (ad 36)), (2, .ref (ad 37)), (3, .int (nI nc))]) cx.1 cx.2.1 dL_isSupplied_247 hl (k := 5) rfl (nI_1 i) (by decide) rfl (fun ls hl => ?_)
                                refine lv_goto (tgt := 115) cx.1 cx.2.1 dL_isSupplied_250 (by decide) ?_
                                have ha115 : lp_L_isSupplied_115 S F nc u N1 N2 (i + 1) = (p2 - (if (if p2 < (if ¬ (S 21 i) = 0 then (S 21 i) else 1 : Int32) then 0 else (if w2 < (if ¬ (S 21 i) = 0 then (S 21 i) else 1 : Int32) then 0 else 1) : Int32) = 0 then 0 else (if ¬ (S 21 i) = 0 then (S 21 i) else 1 : Int32) : Int32), w2 - (if (if p2 < (if ¬ (S 21 i) = 0 then (S 21 i) else 1 : Int32) then 0 else (if w2 < (if ¬ (S 21 i) = 0 then (S 21 i) else 1 : Int32) then 0 else 1) : Int32) = 0 then 0 else (if ¬ (S 21 i) = 0 then (S 21 i) else 1 : Int32) : Int32)) := by
                                  show bd_L_isSupplied_115 S F nc u i (lp_L_isSupplied_115 S F nc u N1 N2 i).1 (lp_L_isSupplied_115 S F nc u N1 N2 i).2 = _
                                  rw [hacc115]
                                  unfold bd_L_isSupplied_115
                                  rw [if_neg c12, if_neg (not_not_intro c20), if_neg (not_not_intro c21)]
                                exact ih115 (i + 1) (p2 - (if (if p2 < (if ¬ (S 21 i) = 0 then (S 21 i) else 1 : Int32) then 0 else (if w2 < (if ¬ (S 21 i) = 0 then (S 21 i) else 1 : Int32) then 0 else 1) : Int32) = 0 then 0 else (if ¬ (S 21 i) = 0 then (S 21 i) else 1 : Int32) : Int32)) (w2 - (if (if p2 < (if ¬ (S 21 i) = 0 then (S 21 i) else 1 : Int32) then 0 else (if w2 < (if ¬ (S 21 i) = 0 then (S 21 i) else 1 : Int32) then 0 else 1) : Int32) = 0 then 0 else (if ¬ (S 21 i) = 0 then (S 21 i) else 1 : Int32) : Int32)) (by omega) ha115  (by omega) _ _ ls hP hS (lv_sub hl [0, 3, 1, 2, 6, 7, 8, 9, 10] rfl)
                              refine lv_iload cx.1 cx.2.1 dL_isSupplied_233 (lv_at hl 2 rfl) ?_
                              refine lv_if_eq (tgt := 243) cx.1 cx.2.1 dL_isSupplied_235 (by decide) (fun c27 => ?_) (fun c27 => ?_)
                              · refine lv_iconst (v := 0) cx.1 cx.2.1 dL_isSupplied_243 (by decide) ?_
                                exact j244 _ _ _ (by first | (rw [if_pos c27]; done) | exact Eq.symm ((if_pos c27).trans (rfl))) hP hS
                              · refine lv_iload cx.1 cx.2.1 dL_isSupplied_238 (lv_at hl 3 rfl) ?_
                                refine lv_goto (tgt := 244) cx.1 cx.2.1 dL_isSupplied_240 (by decide) ?_
                                exact j244 _ _ _ (by first | (rw [if_neg c27]; done) | exact Eq.symm ((if_neg c27).trans (rfl))) hP hS
                            refine lv_iload cx.1 cx.2.1 dL_isSupplied_217 (lv_at hl 1 rfl) ?_
                            refine lv_if_eq (tgt := 227) cx.1 cx.2.1 dL_isSupplied_219 (by decide) (fun c26 => ?_) (fun c26 => ?_)
                            · refine lv_iconst (v := 0) cx.1 cx.2.1 dL_isSupplied_227 (by decide) ?_
                              exact j228 _ _ _ (by first | (rw [if_pos c26]; done) | exact Eq.symm ((if_pos c26).trans (rfl))) hP hS
                            · refine lv_iload cx.1 cx.2.1 dL_isSupplied_222 (lv_at hl 2 rfl) ?_
                              refine lv_goto (tgt := 228) cx.1 cx.2.1 dL_isSupplied_224 (by decide) ?_
                              exact j228 _ _ _ (by first | (rw [if_neg c26]; done) | exact Eq.symm ((if_neg c26).trans (rfl))) hP hS
                        refine lv_iload cx.1 cx.2.1 dL_isSupplied_176 (lv_at hl 4 rfl) ?_
                        refine lv_iload cx.1 cx.2.1 dL_isSupplied_178 (lv_at hl 0 rfl) ?_
                        refine lv_icmp_lt (tgt := 194) cx.1 cx.2.1 dL_isSupplied_180 (by decide) (fun c23 => ?_) (fun c23 => ?_)
                        · refine lv_iconst (v := 0) cx.1 cx.2.1 dL_isSupplied_194 (by decide) ?_
                          exact j195 _ _ _ (by first | (rw [if_pos c23]; done) | exact Eq.symm ((if_pos c23).trans (rfl))) hP hS
                        · refine lv_iload cx.1 cx.2.1 dL_isSupplied_183 (lv_at hl 3 rfl) ?_
                          refine lv_iload cx.1 cx.2.1 dL_isSupplied_185 (lv_at hl 0 rfl) ?_
                          refine lv_icmp_lt (tgt := 194) cx.1 cx.2.1 dL_isSupplied_187 (by decide) (fun c24 => ?_) (fun c24 => ?_)
                          · refine lv_iconst (v := 0) cx.1 cx.2.1 dL_isSupplied_194 (by decide) ?_
                            exact j195 _ _ _ (by first | (rw [if_neg c23, if_pos c24]; done) | exact Eq.symm ((if_neg c23).trans ((if_pos c24).trans (rfl)))) hP hS
                          · refine lv_iconst (v := 1) cx.1 cx.2.1 dL_isSupplied_190 (by decide) ?_
                            refine lv_goto (tgt := 195) cx.1 cx.2.1 dL_isSupplied_191 (by decide) ?_
                            exact j195 _ _ _ (by first | (rw [if_neg c23, if_neg c24]; done) | exact Eq.symm ((if_neg c23).trans ((if_neg c24).trans (rfl)))) hP hS
                      refine lv_aload_n cx.1 cx.2.1 dL_isSupplied_159 rfl (lv_at hl 7 rfl) ?_
                      refine lv_iload cx.1 cx.2.1 dL_isSupplied_160 (lv_at hl 0 rfl) ?_
                      refine zIldN cx hK hP 37 0 rfl rfl (i) (by omega) (by decide) rfl dL_isSupplied_162 ?_
                      refine lv_if_ne (tgt := 170) cx.1 cx.2.1 dL_isSupplied_163 (by decide) (fun c22 => ?_) (fun c22 => ?_)
                      · refine lv_aload_n cx.1 cx.2.1 dL_isSupplied_170 rfl (lv_at hl 7 rfl) ?_
                        refine lv_iload cx.1 cx.2.1 dL_isSupplied_171 (lv_at hl 0 rfl) ?_
                        refine zIldN cx hK hP 37 0 rfl rfl (i) (by omega) (by decide) rfl dL_isSupplied_173 ?_
                        exact j174 _ _ _ (by first | (rw [if_pos c22]; done) | exact Eq.symm ((if_pos c22).trans (rfl))) hP hS
                      · refine lv_iconst (v := 1) cx.1 cx.2.1 dL_isSupplied_166 (by decide) ?_
                        refine lv_goto (tgt := 174) cx.1 cx.2.1 dL_isSupplied_167 (by decide) ?_
                        exact j174 _ _ _ (by first | (rw [if_neg (not_not_intro c22)]; done) | exact Eq.symm ((if_neg (not_not_intro c22)).trans (rfl))) hP hS
        exact lp115 (64 - 0 + 1) 0 N1 N2 (by omega) rfl  (Nat.lt_succ_self _) _ _ ls hP hS (lv_sub hl [0, 1, 2, 3, 4, 5, 6, 7, 8] rfl)
      · have nc1 : ¬ 64 ≤ i := fun z => c1 ((nI_leI (a := 64) (b := i) (by first | decide | omega) (by first | decide | omega)).mpr z)
        refine lv_iload cx.1 cx.2.1 dL_isSupplied_26 (lv_at hl 4 rfl) ?_
        refine lv_if_lt (tgt := 112) cx.1 cx.2.1 dL_isSupplied_28 (by decide) (fun c2 => ?_) (fun c2 => ?_)
        · have nc2 : u < 0 := (nI_ltI (a := u) (b := 0) (by first | decide | omega) (by first | decide | omega)).mp c2
          exact absurd nc2 (Nat.not_lt_zero _)
        · have nc2 : ¬ u < 0 := fun z => c2 ((nI_ltI (a := u) (b := 0) (by first | decide | omega) (by first | decide | omega)).mpr z)
          have j55 : ∀ (v : Int32) (H : Heap) (locs : List Loc), v = (if (S 20 i) ≤ 4 then 0 else (if ¬ (F 3 i) = (nI u) then 0 else 1) : Int32) → va_P (dC, dI) vwCl (qw cyI ad S) H → va_S (zA ad 39 s.heap.size) s.heap H locs → W p l e (headSpec wsL_isSupplied ({ frames := 8, cells := 0, slots := 0, locals := 132 } : Room)).room s m args below meth c H locs 0 0 Q (F0 m 55 ls (.int v :: [])) := by
            intro v H locs hv hP hS
            subst hv
            refine lv_istore (lv' := [(9, .int (if (S 20 i) ≤ 4 then 0 else (if ¬ (F 3 i) = (nI u) then 0 else 1) : Int32)), (8, .int (nI i)), (7, .int 1), (6, .int wa), (5, .int pw), (4, .int (nI u)), (0, .ref (ad 0)), (1, .ref (ad 36)), (2, .ref (ad 37)), (3, .int (nI nc))]) cx.1 cx.2.1 dL_isSupplied_55 hl (by decide) rfl (fun ls hl => ?_)
            refine lv_iload cx.1 cx.2.1 dL_isSupplied_57 (lv_at hl 4 rfl) ?_
            have j78 : ∀ (v : Int32) (H : Heap) (locs : List Loc), v = (if (if (S 20 i) ≤ 4 then 0 else (if ¬ (F 3 i) = (nI u) then 0 else 1) : Int32) = 0 then 0 else (if ¬ (S 20 i) = 5 then 0 else 20) : Int32) → va_P (dC, dI) vwCl (qw cyI ad S) H → va_S (zA ad 39 s.heap.size) s.heap H locs → W p l e (headSpec wsL_isSupplied ({ frames := 8, cells := 0, slots := 0, locals := 132 } : Room)).room s m args below meth c H locs 0 0 Q (F0 m 78 ls (.int v :: [.int pw])) := by
              intro v H locs hv hP hS
              subst hv
              refine lv_iadd cx.1 cx.2.1 dL_isSupplied_78 ?_
              refine lv_istore (lv' := [(5, .int (pw + (if (if (S 20 i) ≤ 4 then 0 else (if ¬ (F 3 i) = (nI u) then 0 else 1) : Int32) = 0 then 0 else (if ¬ (S 20 i) = 5 then 0 else 20) : Int32))), (9, .int (if (S 20 i) ≤ 4 then 0 else (if ¬ (F 3 i) = (nI u) then 0 else 1) : Int32)), (8, .int (nI i)), (7, .int 1), (6, .int wa), (4, .int (nI u)), (0, .ref (ad 0)), (1, .ref (ad 36)), (2, .ref (ad 37)), (3, .int (nI nc))]) cx.1 cx.2.1 dL_isSupplied_79 hl (by decide) rfl (fun ls hl => ?_)
              refine lv_iload cx.1 cx.2.1 dL_isSupplied_81 (lv_at hl 4 rfl) ?_
              have j103 : ∀ (v : Int32) (H : Heap) (locs : List Loc), v = (if (if (S 20 i) ≤ 4 then 0 else (if ¬ (F 3 i) = (nI u) then 0 else 1) : Int32) = 0 then 0 else (if ¬ (S 20 i) = 6 then 0 else 20) : Int32) → va_P (dC, dI) vwCl (qw cyI ad S) H → va_S (zA ad 39 s.heap.size) s.heap H locs → W p l e (headSpec wsL_isSupplied ({ frames := 8, cells := 0, slots := 0, locals := 132 } : Room)).room s m args below meth c H locs 0 0 Q (F0 m 103 ls (.int v :: [.int wa])) := by
                intro v H locs hv hP hS
                subst hv
                refine lv_iadd cx.1 cx.2.1 dL_isSupplied_103 ?_
                refine lv_istore (lv' := [(6, .int (wa + (if (if (S 20 i) ≤ 4 then 0 else (if ¬ (F 3 i) = (nI u) then 0 else 1) : Int32) = 0 then 0 else (if ¬ (S 20 i) = 6 then 0 else 20) : Int32))), (5, .int (pw + (if (if (S 20 i) ≤ 4 then 0 else (if ¬ (F 3 i) = (nI u) then 0 else 1) : Int32) = 0 then 0 else (if ¬ (S 20 i) = 5 then 0 else 20) : Int32))), (9, .int (if (S 20 i) ≤ 4 then 0 else (if ¬ (F 3 i) = (nI u) then 0 else 1) : Int32)), (8, .int (nI i)), (7, .int 1), (4, .int (nI u)), (0, .ref (ad 0)), (1, .ref (ad 36)), (2, .ref (ad 37)), (3, .int (nI nc))]) cx.1 cx.2.1 dL_isSupplied_104 hl (by decide) rfl (fun ls hl => ?_)
                refine lv_iinc (v := nI (i + 1)) (lv' := [(8, .int (nI (i + 1))), (6, .int (wa + (if (if (S 20 i) ≤ 4 then 0 else (if ¬ (F 3 i) = (nI u) then 0 else 1) : Int32) = 0 then 0 else (if ¬ (S 20 i) = 6 then 0 else 20) : Int32))), (5, .int (pw + (if (if (S 20 i) ≤ 4 then 0 else (if ¬ (F 3 i) = (nI u) then 0 else 1) : Int32) = 0 then 0 else (if ¬ (S 20 i) = 5 then 0 else 20) : Int32))), (9, .int (if (S 20 i) ≤ 4 then 0 else (if ¬ (F 3 i) = (nI u) then 0 else 1) : Int32)), (7, .int 1), (4, .int (nI u)), (0, .ref (ad 0)), (1, .ref (ad 36)), (2, .ref (ad 37)), (3, .int (nI nc))]) cx.1 cx.2.1 dL_isSupplied_106 hl (k := 3) rfl (nI_1 i) (by decide) rfl (fun ls hl => ?_)
                refine lv_goto (tgt := 19) cx.1 cx.2.1 dL_isSupplied_109 (by decide) ?_
                have ha19 : lp_L_isSupplied_19 S F nc u 0 0 (i + 1) = (pw + (if (if (S 20 i) ≤ 4 then 0 else (if ¬ (F 3 i) = (nI u) then 0 else 1) : Int32) = 0 then 0 else (if ¬ (S 20 i) = 5 then 0 else 20) : Int32), wa + (if (if (S 20 i) ≤ 4 then 0 else (if ¬ (F 3 i) = (nI u) then 0 else 1) : Int32) = 0 then 0 else (if ¬ (S 20 i) = 6 then 0 else 20) : Int32)) := by
                  show bd_L_isSupplied_19 S F nc u i (lp_L_isSupplied_19 S F nc u 0 0 i).1 (lp_L_isSupplied_19 S F nc u 0 0 i).2 = _
                  rw [hacc19]
                  unfold bd_L_isSupplied_19
                  rfl
                exact ih19 (i + 1) (pw + (if (if (S 20 i) ≤ 4 then 0 else (if ¬ (F 3 i) = (nI u) then 0 else 1) : Int32) = 0 then 0 else (if ¬ (S 20 i) = 5 then 0 else 20) : Int32)) (wa + (if (if (S 20 i) ≤ 4 then 0 else (if ¬ (F 3 i) = (nI u) then 0 else 1) : Int32) = 0 then 0 else (if ¬ (S 20 i) = 6 then 0 else 20) : Int32)) (by omega) ha19  (by omega) _ _ ls hP hS (lv_sub hl [0, 4, 1, 2, 5, 6, 7, 8, 9] rfl)
              refine lv_iload cx.1 cx.2.1 dL_isSupplied_83 (lv_at hl 1 rfl) ?_
              refine lv_if_eq (tgt := 102) cx.1 cx.2.1 dL_isSupplied_85 (by decide) (fun c7 => ?_) (fun c7 => ?_)
              · refine lv_iconst (v := 0) cx.1 cx.2.1 dL_isSupplied_102 (by decide) ?_
                exact j103 _ _ _ (by first | (rw [if_pos c7]; done) | exact Eq.symm ((if_pos c7).trans (rfl))) hP hS
              · refine lv_aload_n cx.1 cx.2.1 dL_isSupplied_88 rfl (lv_at hl 7 rfl) ?_
                refine lv_iload cx.1 cx.2.1 dL_isSupplied_89 (lv_at hl 2 rfl) ?_
                refine zIldN cx hK hP 36 0 rfl rfl (i) (by omega) (by decide) rfl dL_isSupplied_91 ?_
                refine lv_bipush (v := 6) cx.1 cx.2.1 dL_isSupplied_92 (by decide) ?_
                refine lv_icmp_ne (tgt := 102) cx.1 cx.2.1 dL_isSupplied_94 (by decide) (fun c8 => ?_) (fun c8 => ?_)
                · refine lv_iconst (v := 0) cx.1 cx.2.1 dL_isSupplied_102 (by decide) ?_
                  exact j103 _ _ _ (by first | (rw [if_neg c7, if_pos c8]; done) | exact Eq.symm ((if_neg c7).trans ((if_pos c8).trans (rfl)))) hP hS
                · refine lv_bipush (v := 20) cx.1 cx.2.1 dL_isSupplied_97 (by decide) ?_
                  refine lv_goto (tgt := 103) cx.1 cx.2.1 dL_isSupplied_99 (by decide) ?_
                  exact j103 _ _ _ (by first | (rw [if_neg c7, if_neg (not_not_intro c8)]; done) | exact Eq.symm ((if_neg c7).trans ((if_neg (not_not_intro c8)).trans (rfl)))) hP hS
            refine lv_iload cx.1 cx.2.1 dL_isSupplied_59 (lv_at hl 0 rfl) ?_
            refine lv_if_eq (tgt := 77) cx.1 cx.2.1 dL_isSupplied_61 (by decide) (fun c5 => ?_) (fun c5 => ?_)
            · refine lv_iconst (v := 0) cx.1 cx.2.1 dL_isSupplied_77 (by decide) ?_
              exact j78 _ _ _ (by first | (rw [if_pos c5]; done) | exact Eq.symm ((if_pos c5).trans (rfl))) hP hS
            · refine lv_aload_n cx.1 cx.2.1 dL_isSupplied_64 rfl (lv_at hl 7 rfl) ?_
              refine lv_iload cx.1 cx.2.1 dL_isSupplied_65 (lv_at hl 1 rfl) ?_
              refine zIldN cx hK hP 36 0 rfl rfl (i) (by omega) (by decide) rfl dL_isSupplied_67 ?_
              refine lv_iconst (v := 5) cx.1 cx.2.1 dL_isSupplied_68 (by decide) ?_
              refine lv_icmp_ne (tgt := 77) cx.1 cx.2.1 dL_isSupplied_69 (by decide) (fun c6 => ?_) (fun c6 => ?_)
              · refine lv_iconst (v := 0) cx.1 cx.2.1 dL_isSupplied_77 (by decide) ?_
                exact j78 _ _ _ (by first | (rw [if_neg c5, if_pos c6]; done) | exact Eq.symm ((if_neg c5).trans ((if_pos c6).trans (rfl)))) hP hS
              · refine lv_bipush (v := 20) cx.1 cx.2.1 dL_isSupplied_72 (by decide) ?_
                refine lv_goto (tgt := 78) cx.1 cx.2.1 dL_isSupplied_74 (by decide) ?_
                exact j78 _ _ _ (by first | (rw [if_neg c5, if_neg (not_not_intro c6)]; done) | exact Eq.symm ((if_neg c5).trans ((if_neg (not_not_intro c6)).trans (rfl)))) hP hS
          refine lv_aload_n cx.1 cx.2.1 dL_isSupplied_31 rfl (lv_at hl 6 rfl) ?_
          refine lv_iload cx.1 cx.2.1 dL_isSupplied_32 (lv_at hl 0 rfl) ?_
          refine zIldN cx hK hP 36 0 rfl rfl (i) (by omega) (by decide) rfl dL_isSupplied_34 ?_
          refine lv_iconst (v := 4) cx.1 cx.2.1 dL_isSupplied_35 (by decide) ?_
          refine lv_icmp_le (tgt := 54) cx.1 cx.2.1 dL_isSupplied_36 (by decide) (fun c3 => ?_) (fun c3 => ?_)
          · refine lv_iconst (v := 0) cx.1 cx.2.1 dL_isSupplied_54 (by decide) ?_
            exact j55 _ _ _ (by first | (rw [if_pos c3]; done) | exact Eq.symm ((if_pos c3).trans (rfl))) hP hS
          · refine lv_aload_n cx.1 cx.2.1 dL_isSupplied_39 rfl (lv_at hl 5 rfl) ?_
            refine lv_iload cx.1 cx.2.1 dL_isSupplied_40 (lv_at hl 0 rfl) ?_
            refine zThenIx (v := F 3 i) (S' := S) hS (zRunV (As := [.int (nI i)]) (rest := []) _ 1 cx (bq_X6_net l dC dI cyI cyB ad hI S F hF i (by omega)) gL_isSupplied_X6_net rfl ⟨rfl, rfl⟩ (by decide +kernel) ⟨Nat.le_of_ble_eq_true rfl, Nat.le_of_ble_eq_true rfl⟩ (xL_X ad 39) hXs hK hP hS 0 rfl rfl rfl rfl hl.1 rfl (Nat.le_of_ble_eq_true rfl) dL_isSupplied_42 ⟨Nat.zero_le _, Nat.zero_le _⟩) (fun H locs hP hS => ?_)
            refine lv_iload cx.1 cx.2.1 dL_isSupplied_45 (lv_at hl 4 rfl) ?_
            refine lv_icmp_ne (tgt := 54) cx.1 cx.2.1 dL_isSupplied_47 (by decide) (fun c4 => ?_) (fun c4 => ?_)
            · refine lv_iconst (v := 0) cx.1 cx.2.1 dL_isSupplied_54 (by decide) ?_
              exact j55 _ _ _ (by first | (rw [if_neg c3, if_pos c4]; done) | exact Eq.symm ((if_neg c3).trans ((if_pos c4).trans (rfl)))) hP hS
            · refine lv_iconst (v := 1) cx.1 cx.2.1 dL_isSupplied_50 (by decide) ?_
              refine lv_goto (tgt := 55) cx.1 cx.2.1 dL_isSupplied_51 (by decide) ?_
              exact j55 _ _ _ (by first | (rw [if_neg c3, if_neg (not_not_intro c4)]; done) | exact Eq.symm ((if_neg c3).trans ((if_neg (not_not_intro c4)).trans (rfl)))) hP hS
  exact lp19 (64 - 0 + 1) 0 0 0 (by omega) rfl  (Nat.lt_succ_self _) _ _ ls hP hS (lv_sub hl [0, 1, 2, 3, 4, 5, 6, 7, 8] rfl)
theorem c_L_isSupplied (l : Launch) (dC : Nat → ClassId) (dI : Nat → Nat → Nat) (cyI cyB : ClassId) (ad : Nat → Nat) (hI : zI ad 39) (S F : zS) (hF : LF S F) (nc : Nat) (hnc : nc < 64) : zMi l (dC, dI) (lTys cyI cyB) ad 39 xL (qw cyI ad) yL_isSupplied wsL_isSupplied ({ frames := 8, cells := 0, slots := 0, locals := 132 } : Room) [.ref (ad 0), .ref (ad 36), .ref (ad 37), .int (nI nc)] S (fun v T => v = 1 ∧ T = S) := by
  rcases net_in hF.mR hnc with hn | ⟨u, hu, hn⟩
  · exact c_L_isSupplied0 l dC dI cyI cyB ad hI S F hF nc hnc hn
  · exact c_L_isSupplied1 l dC dI cyI cyB ad hI S F hF u nc hnc hu hn
