set_option maxHeartbeats 4000000 in
set_option maxRecDepth 100000 in
theorem c_X7_walks (l : Launch) (dC : Nat → ClassId) (dI : Nat → Nat → Nat) (cyI cyZ : ClassId) (ad : Nat → Nat) (hI : zI ad 14) (S : zS) (nf : Nat) (hf : nf < 64) : zMv l (dC, dI) [(cyI, .int), (cyZ, .boolean)] ad 14 (fun _ _ => True) (mw cyI cyZ ad) yX7_walks wsX7_walks ({ frames := 1, cells := 0, slots := 0, locals := 23 } : Room) [.ref (ad 0), .int (nI nf)] S (fun T => T = g_X7_walks S nf) := by
  refine zStartV (by decide) rfl (Nat.le_of_ble_eq_true rfl) ?_
  intro p e s m args below meth c ls cx hrt hlk hP hK hXs hl
  have hl : lv_has ls 8 [(0, .ref (ad 0)), (1, .int (nI nf))] := hl
  have hS : va_S (zA ad 14 s.heap.size) s.heap s.heap [] := va_S.rf
  have hinX7 : ∀ w ∈ u_ws RX7 TX7 19, w ∈ wsX7_walks := by decide +kernel
  obtain ⟨Q, hQ⟩ : ∃ Q, Q = MQ below (zQv (dC, dI) (mw cyI cyZ ad) (fun T => T = g_X7_walks S nf) (zA ad 14 s.heap.size)) args s 0 0 (zA ad 14 s.heap.size) := ⟨_, rfl⟩
  rw [← hQ]
  refine lv_bipush (v := 64) cx.1 cx.2.1 dX7_walks_0 (by decide) ?_
  refine lv_iload_n cx.1 cx.2.1 dX7_walks_2 rfl (lv_at hl 1 rfl) ?_
  refine zMulN (a := 64) (b := nf) cx.1 cx.2.1 dX7_walks_3 ?_
  refine lv_istore_n (lv' := [(2, .int (nI (64 * nf))), (0, .ref (ad 0)), (1, .int (nI nf))]) cx.1 cx.2.1 dX7_walks_4 rfl hl (by decide) rfl (fun ls hl => ?_)
  refine lv_iconst (v := 0) cx.1 cx.2.1 dX7_walks_5 (by decide) ?_
  refine lv_istore_n (lv' := [(3, .int 0), (2, .int (nI (64 * nf))), (0, .ref (ad 0)), (1, .int (nI nf))]) cx.1 cx.2.1 dX7_walks_6 rfl hl (by decide) rfl (fun ls hl => ?_)
  have lp7 : ∀ (fu i : Nat) (T7 : zS) (hi7 : i ≤ 64) (hacc7 : lp_X7_walks_7 S nf S i = T7)  (_ : 64 - i < fu) (H : Heap) (locs : List Loc) (ls : Array Slot), va_P (dC, dI) vwCl (mw cyI cyZ ad T7) H → va_S (zA ad 14 s.heap.size) s.heap H locs → lv_has ls 8 [(3, .int (nI i)), (2, .int (nI (64 * nf))), (0, .ref (ad 0)), (1, .int (nI nf))] → W p l e (headSpec wsX7_walks ({ frames := 1, cells := 0, slots := 0, locals := 23 } : Room)).room s m args below meth c H locs 0 0 Q (F0 m 7 ls []) := by
    intro fu
    induction fu with
    | zero => intro i T7 hi7 hacc7  hm; exact absurd hm (Nat.not_lt_zero _)
    | succ fu ih7 =>
      intro i T7 hi7 hacc7  hm H locs ls hP hS hl
      refine lv_iload_n cx.1 cx.2.1 dX7_walks_7 rfl (lv_at hl 0 rfl) ?_
      refine lv_bipush (v := 64) cx.1 cx.2.1 dX7_walks_8 (by decide) ?_
      refine lv_icmp_ge (tgt := 28) cx.1 cx.2.1 dX7_walks_10 (by decide) (fun c1 => ?_) (fun c1 => ?_)
      · have nc1 : 64 ≤ i := (nI_leI (a := 64) (b := i) (by first | decide | omega) (by first | decide | omega)).mp c1
        obtain rfl : i = 64 := by omega
        have hz0 : (lp_X7_walks_7 S nf S 64) = T7 := hacc7
        obtain ⟨N2, hN2⟩ : ∃ Z : zS, (lp_X7_walks_7 S nf S 64) = Z := ⟨_, rfl⟩
        rw [hN2] at hz0
        subst hz0
        refine lv_iconst (v := 0) cx.1 cx.2.1 dX7_walks_28 (by decide) ?_
        refine lv_istore_n (lv' := [(3, .int 0), (2, .int (nI (64 * nf))), (0, .ref (ad 0)), (1, .int (nI nf))]) cx.1 cx.2.1 dX7_walks_29 rfl hl (by decide) rfl (fun ls hl => ?_)
        refine lv_iconst (v := 0) cx.1 cx.2.1 dX7_walks_30 (by decide) ?_
        refine lv_istore (lv' := [(4, .int 0), (3, .int 0), (2, .int (nI (64 * nf))), (0, .ref (ad 0)), (1, .int (nI nf))]) cx.1 cx.2.1 dX7_walks_31 hl (by decide) rfl (fun ls hl => ?_)
        refine lv_aload_n cx.1 cx.2.1 dX7_walks_33 rfl (lv_at hl 3 rfl) ?_
        refine zGet (v := .ref (ad 1)) (own := RX7) cx hinX7 hK hP 0 rfl rfl 5 (by decide) (by decide +kernel) rfl rfl dX7_walks_34 ?_
        refine lv_iload_n cx.1 cx.2.1 dX7_walks_37 rfl (lv_at hl 4 rfl) ?_
        refine zIldN cx hK hP 1 0 rfl rfl (nf) (by omega) (by decide) rfl dX7_walks_38 ?_
        refine lv_iconst (v := 1) cx.1 cx.2.1 dX7_walks_39 (by decide) ?_
        refine lv_icmp_ne (tgt := 62) cx.1 cx.2.1 dX7_walks_40 (by decide) (fun c3 => ?_) (fun c3 => ?_)
        · subst hN2
          have lp62 : ∀ (fu i : Nat) (nq : Nat) (T62 : zS) (hi62 : i ≤ 64) (hacc62 : lp_X7_walks_62 S nf (64 - i) i nq T62 = lp_X7_walks_62 S nf 64 0 0 (lp_X7_walks_7 S nf S 64)) (hI62 : nq = 0 ∨ bJ (T62 0) nf (fun a => T62 4 (64 * nf + a)) (T62 5) i nq 0) (_ : 64 - i < fu) (H : Heap) (locs : List Loc) (ls : Array Slot), va_P (dC, dI) vwCl (mw cyI cyZ ad T62) H → va_S (zA ad 14 s.heap.size) s.heap H locs → lv_has ls 8 [(4, .int (nI nq)), (3, .int (nI i)), (2, .int (nI (64 * nf))), (0, .ref (ad 0)), (1, .int (nI nf))] → W p l e (headSpec wsX7_walks ({ frames := 1, cells := 0, slots := 0, locals := 23 } : Room)).room s m args below meth c H locs 0 0 Q (F0 m 62 ls []) := by
            intro fu
            induction fu with
            | zero => intro i nq T62 hi62 hacc62 hI62 hm; exact absurd hm (Nat.not_lt_zero _)
            | succ fu ih62 =>
              intro i nq T62 hi62 hacc62 hI62 hm H locs ls hP hS hl
              have hb62 : nq ≤ 64 := hI62.elim (fun h => by omega) bJ_64
              refine lv_iload_n cx.1 cx.2.1 dX7_walks_62 rfl (lv_at hl 1 rfl) ?_
              refine lv_iload cx.1 cx.2.1 dX7_walks_63 (lv_at hl 0 rfl) ?_
              refine lv_icmp_ge (tgt := 160) cx.1 cx.2.1 dX7_walks_65 (by decide) (fun c4 => ?_) (fun c4 => ?_)
              · have nc4 : nq ≤ i := (nI_leI (a := nq) (b := i) (by first | decide | omega) (by first | decide | omega)).mp c4
                have hx62 : lp_X7_walks_62 S nf 64 0 0 (lp_X7_walks_7 S nf S 64) = (nq, T62) := by
                  rw [← hacc62]
                  cases hn : 64 - i with
                  | zero => rfl
                  | succ q => rw [lp_X7_walks_62]; rw [if_pos c4]
                have hz0 : (lp_X7_walks_62 S nf 64 0 0 (lp_X7_walks_7 S nf S 64)).1 = nq := (congrArg Prod.fst hx62)
                have hz1 : (lp_X7_walks_62 S nf 64 0 0 (lp_X7_walks_7 S nf S 64)).2 = T62 := (congrArg Prod.snd hx62)
                obtain ⟨N10, hN10⟩ : ∃ Z : Nat, (lp_X7_walks_62 S nf 64 0 0 (lp_X7_walks_7 S nf S 64)).1 = Z := ⟨_, rfl⟩
                rw [hN10] at hz0
                obtain ⟨N11, hN11⟩ : ∃ Z : zS, (lp_X7_walks_62 S nf 64 0 0 (lp_X7_walks_7 S nf S 64)).2 = Z := ⟨_, rfl⟩
                rw [hN11] at hz1
                subst hz0
                subst hz1
                subst hN11
                subst hN10
                rw [hQ]
                exact zRetV cx hrt hlk hS hP (by unfold g_X7_walks; rw [if_pos c3]) dX7_walks_160
              · have nc4 : ¬ nq ≤ i := fun z => c4 ((nI_leI (a := nq) (b := i) (by first | decide | omega) (by first | decide | omega)).mpr z)
                have hJ := hI62.resolve_left (by omega)
                obtain ⟨v0, hv0, hqv, hkv, l0, hl0, hdv⟩ := bJ_q hJ (show i < nq by omega)
                have hvi : vp_in (T62 5 i) 64 := by rw [hqv]; exact vp_in_nI hv0 (by decide)
                have hn64 := bJ_64 hJ
                refine lv_aload_n cx.1 cx.2.1 dX7_walks_68 rfl (lv_at hl 3 rfl) ?_
                refine zGet (v := .ref (ad 6)) (own := RX7) cx hinX7 hK hP 0 rfl rfl 10 (by decide) (by decide +kernel) rfl rfl dX7_walks_69 ?_
                refine lv_iload_n cx.1 cx.2.1 dX7_walks_72 rfl (lv_at hl 1 rfl) ?_
                refine zIldN cx hK hP 6 0 rfl rfl (i) (by omega) (by decide) rfl dX7_walks_73 ?_
                refine lv_istore (lv' := [(5, .int (T62 5 i)), (4, .int (nI nq)), (3, .int (nI i)), (2, .int (nI (64 * nf))), (0, .ref (ad 0)), (1, .int (nI nf))]) cx.1 cx.2.1 dX7_walks_74 hl (by decide) rfl (fun ls hl => ?_)
                refine lv_iinc (v := nI (i + 1)) (lv' := [(3, .int (nI (i + 1))), (5, .int (T62 5 i)), (4, .int (nI nq)), (2, .int (nI (64 * nf))), (0, .ref (ad 0)), (1, .int (nI nf))]) cx.1 cx.2.1 dX7_walks_76 hl (k := 2) rfl (nI_1 i) (by decide) rfl (fun ls hl => ?_)
                refine lv_iconst (v := 0) cx.1 cx.2.1 dX7_walks_79 (by decide) ?_
                refine lv_istore (lv' := [(6, .int 0), (3, .int (nI (i + 1))), (5, .int (T62 5 i)), (4, .int (nI nq)), (2, .int (nI (64 * nf))), (0, .ref (ad 0)), (1, .int (nI nf))]) cx.1 cx.2.1 dX7_walks_80 hl (by decide) rfl (fun ls hl => ?_)
                have lp82 : ∀ (fu j : Nat) (mq : Nat) (T82 : zS) (hi82 : j ≤ 4) (hacc82 : lp_X7_walks_82 S nf i nq T62 nq T62 j = (mq, T82)) (hI82 : bJ (T82 0) nf (fun a => T82 4 (64 * nf + a)) (T82 5) i mq j) (hq82 : T82 5 i = T62 5 i ∧ i < mq) (_ : 4 - j < fu) (H : Heap) (locs : List Loc) (ls : Array Slot), va_P (dC, dI) vwCl (mw cyI cyZ ad T82) H → va_S (zA ad 14 s.heap.size) s.heap H locs → lv_has ls 8 [(6, .int (nI j)), (3, .int (nI (i + 1))), (5, .int (T62 5 i)), (4, .int (nI mq)), (2, .int (nI (64 * nf))), (0, .ref (ad 0)), (1, .int (nI nf))] → W p l e (headSpec wsX7_walks ({ frames := 1, cells := 0, slots := 0, locals := 23 } : Room)).room s m args below meth c H locs 0 0 Q (F0 m 82 ls []) := by
                  intro fu
                  induction fu with
                  | zero => intro j mq T82 hi82 hacc82 hI82 hq82 hm; exact absurd hm (Nat.not_lt_zero _)
                  | succ fu ih82 =>
                    intro j mq T82 hi82 hacc82 hI82 hq82 hm H locs ls hP hS hl
                    refine lv_iload cx.1 cx.2.1 dX7_walks_82 (lv_at hl 0 rfl) ?_
                    refine lv_iconst (v := 4) cx.1 cx.2.1 dX7_walks_84 (by decide) ?_
                    refine lv_icmp_ge (tgt := 157) cx.1 cx.2.1 dX7_walks_85 (by decide) (fun c5 => ?_) (fun c5 => ?_)
                    · have nc5 : 4 ≤ j := (nI_leI (a := 4) (b := j) (by first | decide | omega) (by first | decide | omega)).mp c5
                      obtain rfl : j = 4 := by omega
                      have hz0 : (lp_X7_walks_82 S nf i nq T62 nq T62 4).1 = mq := (congrArg Prod.fst hacc82)
                      have hz1 : (lp_X7_walks_82 S nf i nq T62 nq T62 4).2 = T82 := (congrArg Prod.snd hacc82)
                      obtain ⟨N8, hN8⟩ : ∃ Z : Nat, (lp_X7_walks_82 S nf i nq T62 nq T62 4).1 = Z := ⟨_, rfl⟩
                      rw [hN8] at hz0
                      obtain ⟨N9, hN9⟩ : ∃ Z : zS, (lp_X7_walks_82 S nf i nq T62 nq T62 4).2 = Z := ⟨_, rfl⟩
                      rw [hN9] at hz1
                      subst hz0
                      subst hz1
                      refine lv_goto (tgt := 62) cx.1 cx.2.1 dX7_walks_157 (by decide) ?_
                      subst hN9
                      subst hN8
                      have ha62 : lp_X7_walks_62 S nf (64 - (i + 1)) (i + 1) ((lp_X7_walks_82 S nf i nq T62 nq T62 4).1) ((lp_X7_walks_82 S nf i nq T62 nq T62 4).2) = lp_X7_walks_62 S nf 64 0 0 (lp_X7_walks_7 S nf S 64) := by
                        rw [← hacc62, show 64 - i = (64 - (i + 1)) + 1 by omega]
                        conv => rhs; rw [lp_X7_walks_62]
                        rw [if_neg c4]
                      exact ih62 (i + 1) ((lp_X7_walks_82 S nf i nq T62 nq T62 4).1) ((lp_X7_walks_82 S nf i nq T62 nq T62 4).2) (by omega) ha62 (Or.inr (bJ_next hI82)) (by omega) _ _ ls hP hS (lv_sub hl [3, 1, 4, 5, 6] rfl)
                    · have nc5 : ¬ 4 ≤ j := fun z => c5 ((nI_leI (a := 4) (b := j) (by first | decide | omega) (by first | decide | omega)).mpr z)
                      have hto : f_X7_neighbour (T62 5 i) (nI j) = if nb v0 j = 64 then -1 else nI (nb v0 j) := by rw [hqv]; exact nbX7 _ hv0 _ (by omega)
                      have hle := nb_le _ hv0 j (by omega)
                      refine lv_iload cx.1 cx.2.1 dX7_walks_88 (lv_at hl 2 rfl) ?_
                      refine lv_iload cx.1 cx.2.1 dX7_walks_90 (lv_at hl 0 rfl) ?_
                      refine zThenIx (v := f_X7_neighbour (T62 5 i) (nI j)) (S' := T82) hS (zRunS (As := [.int (T62 5 i), .int (nI j)]) (rest := []) _ 2 cx (c_X7_neighbour l dC dI cyI cyZ ad hI T82 (T62 5 i) (nI j)) gX7_walks_X7_neighbour rfl ⟨rfl, rfl⟩ (by decide +kernel) ⟨Nat.le_of_ble_eq_true rfl, Nat.le_of_ble_eq_true rfl⟩ (zX_true) trivial hK hP hS rfl hl.1 rfl (Nat.le_of_ble_eq_true rfl) dX7_walks_92 ⟨Nat.zero_le _, Nat.zero_le _⟩) (fun H locs hP hS => ?_)
                      refine lv_istore (lv' := [(7, .int (f_X7_neighbour (T62 5 i) (nI j))), (6, .int (nI j)), (3, .int (nI (i + 1))), (5, .int (T62 5 i)), (4, .int (nI mq)), (2, .int (nI (64 * nf))), (0, .ref (ad 0)), (1, .int (nI nf))]) cx.1 cx.2.1 dX7_walks_95 hl (by decide) rfl (fun ls hl => ?_)
                      refine lv_aload_n cx.1 cx.2.1 dX7_walks_97 rfl (lv_at hl 6 rfl) ?_
                      refine lv_iload cx.1 cx.2.1 dX7_walks_98 (lv_at hl 0 rfl) ?_
                      refine zThenIx (v := f_X7_isRoad T82 (f_X7_neighbour (T62 5 i) (nI j))) (S' := T82) hS (zRunV (As := [.int (f_X7_neighbour (T62 5 i) (nI j))]) (rest := []) _ 1 cx (c_X7_isRoad l dC dI cyI cyZ ad hI T82 (f_X7_neighbour (T62 5 i) (nI j)) (nbX7_in hto hle)) gX7_walks_X7_isRoad rfl ⟨rfl, rfl⟩ (by decide +kernel) ⟨Nat.le_of_ble_eq_true rfl, Nat.le_of_ble_eq_true rfl⟩ (zX_true) trivial hK hP hS 0 rfl rfl rfl rfl hl.1 rfl (Nat.le_of_ble_eq_true rfl) dX7_walks_100 ⟨Nat.zero_le _, Nat.zero_le _⟩) (fun H locs hP hS => ?_)
                      refine lv_if_eq (tgt := 151) cx.1 cx.2.1 dX7_walks_103 (by decide) (fun c6 => ?_) (fun c6 => ?_)
                      · refine lv_iinc (v := nI (j + 1)) (lv' := [(6, .int (nI (j + 1))), (7, .int (f_X7_neighbour (T62 5 i) (nI j))), (3, .int (nI (i + 1))), (5, .int (T62 5 i)), (4, .int (nI mq)), (2, .int (nI (64 * nf))), (0, .ref (ad 0)), (1, .int (nI nf))]) cx.1 cx.2.1 dX7_walks_151 hl (k := 1) rfl (nI_1 j) (by decide) rfl (fun ls hl => ?_)
                        refine lv_goto (tgt := 82) cx.1 cx.2.1 dX7_walks_154 (by decide) ?_
                        have ha82 : lp_X7_walks_82 S nf i nq T62 nq T62 (j + 1) = (mq, T82) := by
                          show bd_X7_walks_82 S nf i nq T62 j (lp_X7_walks_82 S nf i nq T62 nq T62 j).1 (lp_X7_walks_82 S nf i nq T62 nq T62 j).2 = _
                          rw [hacc82]
                          unfold bd_X7_walks_82
                          rw [if_pos c6]
                        exact ih82 (j + 1) mq T82 (by omega) ha82 (by first | exact walk_push hI82 (by omega) hq82.2 hv0 (hq82.1.trans hqv) hqv hb hte hkr (by assumption) | exact walk_skipA hI82 (by omega) hq82.2 hv0 (hq82.1.trans hqv) hto (by assumption) | exact walk_skipB hI82 (by omega) hq82.2 hv0 (hq82.1.trans hqv) hte hb (by assumption)) (by first | exact hq82 | exact ⟨(pk_un (by omega)).trans hq82.1, by omega⟩) (by omega) _ _ ls hP hS (lv_sub hl [0, 2, 3, 4, 5, 6, 7] rfl)
                      · obtain ⟨hb, hte, hkr⟩ := isRoadX7 hto hle c6
                        have hvt : vp_in (f_X7_neighbour (T62 5 i) (nI j)) 64 := by rw [hte]; exact vp_in_nI hb (by decide)
                        refine lv_aload_n cx.1 cx.2.1 dX7_walks_106 rfl (lv_at hl 6 rfl) ?_
                        refine zGet (v := .ref (ad 5)) (own := RX7) cx hinX7 hK hP 0 rfl rfl 9 (by decide) (by decide +kernel) rfl rfl dX7_walks_107 ?_
                        refine lv_iload_n cx.1 cx.2.1 dX7_walks_110 rfl (lv_at hl 5 rfl) ?_
                        refine lv_iload cx.1 cx.2.1 dX7_walks_111 (lv_at hl 0 rfl) ?_
                        refine lv_iadd cx.1 cx.2.1 dX7_walks_113 ?_
                        refine zIldN cx hK hP 5 0 rfl rfl (64 * nf + (f_X7_neighbour (T62 5 i) (nI j)).toNatClampNeg) (at_b hf hvt) (by decide) (at_ix hvt) dX7_walks_114 ?_
                        refine lv_iconst (v := (-1)) cx.1 cx.2.1 dX7_walks_115 (by decide) ?_
                        refine lv_icmp_ne (tgt := 151) cx.1 cx.2.1 dX7_walks_116 (by decide) (fun c7 => ?_) (fun c7 => ?_)
                        · refine lv_iinc (v := nI (j + 1)) (lv' := [(6, .int (nI (j + 1))), (7, .int (f_X7_neighbour (T62 5 i) (nI j))), (3, .int (nI (i + 1))), (5, .int (T62 5 i)), (4, .int (nI mq)), (2, .int (nI (64 * nf))), (0, .ref (ad 0)), (1, .int (nI nf))]) cx.1 cx.2.1 dX7_walks_151 hl (k := 1) rfl (nI_1 j) (by decide) rfl (fun ls hl => ?_)
                          refine lv_goto (tgt := 82) cx.1 cx.2.1 dX7_walks_154 (by decide) ?_
                          have ha82 : lp_X7_walks_82 S nf i nq T62 nq T62 (j + 1) = (mq, T82) := by
                            show bd_X7_walks_82 S nf i nq T62 j (lp_X7_walks_82 S nf i nq T62 nq T62 j).1 (lp_X7_walks_82 S nf i nq T62 nq T62 j).2 = _
                            rw [hacc82]
                            unfold bd_X7_walks_82
                            rw [if_neg c6, if_pos c7]
                          exact ih82 (j + 1) mq T82 (by omega) ha82 (by first | exact walk_push hI82 (by omega) hq82.2 hv0 (hq82.1.trans hqv) hqv hb hte hkr (by assumption) | exact walk_skipA hI82 (by omega) hq82.2 hv0 (hq82.1.trans hqv) hto (by assumption) | exact walk_skipB hI82 (by omega) hq82.2 hv0 (hq82.1.trans hqv) hte hb (by assumption)) (by first | exact hq82 | exact ⟨(pk_un (by omega)).trans hq82.1, by omega⟩) (by omega) _ _ ls hP hS (lv_sub hl [0, 2, 3, 4, 5, 6, 7] rfl)
                        · have hm64 := walk_lt hI82 hb hte c7
                          refine lv_aload_n cx.1 cx.2.1 dX7_walks_119 rfl (lv_at hl 6 rfl) ?_
                          refine zGet (v := .ref (ad 5)) (own := RX7) cx hinX7 hK hP 0 rfl rfl 9 (by decide) (by decide +kernel) rfl rfl dX7_walks_120 ?_
                          refine lv_iload_n cx.1 cx.2.1 dX7_walks_123 rfl (lv_at hl 5 rfl) ?_
                          refine lv_iload cx.1 cx.2.1 dX7_walks_124 (lv_at hl 0 rfl) ?_
                          refine lv_iadd cx.1 cx.2.1 dX7_walks_126 ?_
                          refine lv_aload_n cx.1 cx.2.1 dX7_walks_127 rfl (lv_at hl 6 rfl) ?_
                          refine zGet (v := .ref (ad 5)) (own := RX7) cx hinX7 hK hP 0 rfl rfl 9 (by decide) (by decide +kernel) rfl rfl dX7_walks_128 ?_
                          refine lv_iload_n cx.1 cx.2.1 dX7_walks_131 rfl (lv_at hl 5 rfl) ?_
                          refine lv_iload cx.1 cx.2.1 dX7_walks_132 (lv_at hl 3 rfl) ?_
                          refine lv_iadd cx.1 cx.2.1 dX7_walks_134 ?_
                          refine zIldN cx hK hP 5 0 rfl rfl (64 * nf + (T62 5 i).toNatClampNeg) (at_b hf hvi) (by decide) (at_ix hvi) dX7_walks_135 ?_
                          refine lv_iconst (v := 1) cx.1 cx.2.1 dX7_walks_136 (by decide) ?_
                          refine lv_iadd cx.1 cx.2.1 dX7_walks_137 ?_
                          refine zIstN cx (mw_W cyI cyZ ad) hI hK hP hS 5 0 rfl rfl (64 * nf + (f_X7_neighbour (T62 5 i) (nI j)).toNatClampNeg) (at_b hf hvt) (by decide) (at_ix hvt) (zUp T82 4 (upd (T82 4) (64 * nf + (f_X7_neighbour (T62 5 i) (nI j)).toNatClampNeg) ((T82 4 (64 * nf + (T62 5 i).toNatClampNeg)) + 1))) rfl dX7_walks_138 (fun H locs hP hS => ?_)
                          refine lv_aload_n cx.1 cx.2.1 dX7_walks_139 rfl (lv_at hl 6 rfl) ?_
                          refine zGet (v := .ref (ad 6)) (own := RX7) cx hinX7 hK hP 0 rfl rfl 10 (by decide) (by decide +kernel) rfl rfl dX7_walks_140 ?_
                          refine lv_iload cx.1 cx.2.1 dX7_walks_143 (lv_at hl 4 rfl) ?_
                          refine lv_iload cx.1 cx.2.1 dX7_walks_145 (lv_at hl 0 rfl) ?_
                          refine zIstN cx (mw_W cyI cyZ ad) hI hK hP hS 6 0 rfl rfl (mq) (by omega) (by decide) rfl (zUp (zUp T82 4 (upd (T82 4) (64 * nf + (f_X7_neighbour (T62 5 i) (nI j)).toNatClampNeg) ((T82 4 (64 * nf + (T62 5 i).toNatClampNeg)) + 1))) 5 (upd (T82 5) mq (f_X7_neighbour (T62 5 i) (nI j)))) rfl dX7_walks_147 (fun H locs hP hS => ?_)
                          refine lv_iinc (v := nI (mq + 1)) (lv' := [(4, .int (nI (mq + 1))), (7, .int (f_X7_neighbour (T62 5 i) (nI j))), (6, .int (nI j)), (3, .int (nI (i + 1))), (5, .int (T62 5 i)), (2, .int (nI (64 * nf))), (0, .ref (ad 0)), (1, .int (nI nf))]) cx.1 cx.2.1 dX7_walks_148 hl (k := 4) rfl (nI_1 mq) (by decide) rfl (fun ls hl => ?_)
                          refine lv_iinc (v := nI (j + 1)) (lv' := [(6, .int (nI (j + 1))), (4, .int (nI (mq + 1))), (7, .int (f_X7_neighbour (T62 5 i) (nI j))), (3, .int (nI (i + 1))), (5, .int (T62 5 i)), (2, .int (nI (64 * nf))), (0, .ref (ad 0)), (1, .int (nI nf))]) cx.1 cx.2.1 dX7_walks_151 hl (k := 2) rfl (nI_1 j) (by decide) rfl (fun ls hl => ?_)
                          refine lv_goto (tgt := 82) cx.1 cx.2.1 dX7_walks_154 (by decide) ?_
                          have ha82 : lp_X7_walks_82 S nf i nq T62 nq T62 (j + 1) = (mq + 1, zUp (zUp T82 4 (upd (T82 4) (64 * nf + (f_X7_neighbour (T62 5 i) (nI j)).toNatClampNeg) ((T82 4 (64 * nf + (T62 5 i).toNatClampNeg)) + 1))) 5 (upd (T82 5) mq (f_X7_neighbour (T62 5 i) (nI j)))) := by
                            show bd_X7_walks_82 S nf i nq T62 j (lp_X7_walks_82 S nf i nq T62 nq T62 j).1 (lp_X7_walks_82 S nf i nq T62 nq T62 j).2 = _
                            rw [hacc82]
                            unfold bd_X7_walks_82
                            rw [if_neg c6, if_neg (not_not_intro c7)]
                          exact ih82 (j + 1) (mq + 1) (zUp (zUp T82 4 (upd (T82 4) (64 * nf + (f_X7_neighbour (T62 5 i) (nI j)).toNatClampNeg) ((T82 4 (64 * nf + (T62 5 i).toNatClampNeg)) + 1))) 5 (upd (T82 5) mq (f_X7_neighbour (T62 5 i) (nI j)))) (by omega) ha82 (by first | exact walk_push hI82 (by omega) hq82.2 hv0 (hq82.1.trans hqv) hqv hb hte hkr (by assumption) | exact walk_skipA hI82 (by omega) hq82.2 hv0 (hq82.1.trans hqv) hto (by assumption) | exact walk_skipB hI82 (by omega) hq82.2 hv0 (hq82.1.trans hqv) hte hb (by assumption)) (by first | exact hq82 | exact ⟨(pk_un (by omega)).trans hq82.1, by omega⟩) (by omega) _ _ ls hP hS (lv_sub hl [0, 3, 4, 1, 5, 6, 7] rfl)
                exact lp82 (4 - 0 + 1) 0 nq T62 (by omega) rfl hJ ⟨rfl, by omega⟩ (Nat.lt_succ_self _) _ _ ls hP hS (lv_sub hl [0, 1, 2, 3, 4, 5, 6] rfl)
          exact lp62 (64 - 0 + 1) 0 0 (lp_X7_walks_7 S nf S 64) (by omega) (by rw [Nat.sub_zero]) (by first | exact Or.inl rfl | exact Or.inr (walk_init hf (by assumption))) (Nat.lt_succ_self _) _ _ ls hP hS (lv_sub hl [0, 1, 2, 3, 4] rfl)
        · refine lv_aload_n cx.1 cx.2.1 dX7_walks_43 rfl (lv_at hl 3 rfl) ?_
          refine zGet (v := .ref (ad 5)) (own := RX7) cx hinX7 hK hP 0 rfl rfl 9 (by decide) (by decide +kernel) rfl rfl dX7_walks_44 ?_
          refine lv_iload_n cx.1 cx.2.1 dX7_walks_47 rfl (lv_at hl 2 rfl) ?_
          refine lv_iload_n cx.1 cx.2.1 dX7_walks_48 rfl (lv_at hl 4 rfl) ?_
          refine zAddN (a := 64 * nf) (b := nf) cx.1 cx.2.1 dX7_walks_49 ?_
          refine lv_iconst (v := 0) cx.1 cx.2.1 dX7_walks_50 (by decide) ?_
          refine zIstN cx (mw_W cyI cyZ ad) hI hK hP hS 5 0 rfl rfl (64 * nf + nf) (by omega) (by decide) rfl (zUp N2 4 (upd (N2 4) (64 * nf + nf) 0)) rfl dX7_walks_51 (fun H locs hP hS => ?_)
          refine lv_aload_n cx.1 cx.2.1 dX7_walks_52 rfl (lv_at hl 3 rfl) ?_
          refine zGet (v := .ref (ad 6)) (own := RX7) cx hinX7 hK hP 0 rfl rfl 10 (by decide) (by decide +kernel) rfl rfl dX7_walks_53 ?_
          refine lv_iconst (v := 0) cx.1 cx.2.1 dX7_walks_56 (by decide) ?_
          refine lv_iload_n cx.1 cx.2.1 dX7_walks_57 rfl (lv_at hl 4 rfl) ?_
          refine zIstN cx (mw_W cyI cyZ ad) hI hK hP hS 6 0 rfl rfl (0) (by omega) (by decide) rfl (zUp (zUp N2 4 (upd (N2 4) (64 * nf + nf) 0)) 5 (upd (N2 5) 0 (nI nf))) rfl dX7_walks_58 (fun H locs hP hS => ?_)
          refine lv_iconst (v := 1) cx.1 cx.2.1 dX7_walks_59 (by decide) ?_
          refine lv_istore (lv' := [(4, .int 1), (3, .int 0), (2, .int (nI (64 * nf))), (0, .ref (ad 0)), (1, .int (nI nf))]) cx.1 cx.2.1 dX7_walks_60 hl (by decide) rfl (fun ls hl => ?_)
          subst hN2
          have lp62 : ∀ (fu i : Nat) (nq : Nat) (T62 : zS) (hi62 : i ≤ 64) (hacc62 : lp_X7_walks_62 S nf (64 - i) i nq T62 = lp_X7_walks_62 S nf 64 0 1 (zUp (zUp (lp_X7_walks_7 S nf S 64) 4 (upd ((lp_X7_walks_7 S nf S 64) 4) (64 * nf + nf) 0)) 5 (upd ((lp_X7_walks_7 S nf S 64) 5) 0 (nI nf)))) (hI62 : nq = 0 ∨ bJ (T62 0) nf (fun a => T62 4 (64 * nf + a)) (T62 5) i nq 0) (_ : 64 - i < fu) (H : Heap) (locs : List Loc) (ls : Array Slot), va_P (dC, dI) vwCl (mw cyI cyZ ad T62) H → va_S (zA ad 14 s.heap.size) s.heap H locs → lv_has ls 8 [(4, .int (nI nq)), (3, .int (nI i)), (2, .int (nI (64 * nf))), (0, .ref (ad 0)), (1, .int (nI nf))] → W p l e (headSpec wsX7_walks ({ frames := 1, cells := 0, slots := 0, locals := 23 } : Room)).room s m args below meth c H locs 0 0 Q (F0 m 62 ls []) := by
            intro fu
            induction fu with
            | zero => intro i nq T62 hi62 hacc62 hI62 hm; exact absurd hm (Nat.not_lt_zero _)
            | succ fu ih62 =>
              intro i nq T62 hi62 hacc62 hI62 hm H locs ls hP hS hl
              have hb62 : nq ≤ 64 := hI62.elim (fun h => by omega) bJ_64
              refine lv_iload_n cx.1 cx.2.1 dX7_walks_62 rfl (lv_at hl 1 rfl) ?_
              refine lv_iload cx.1 cx.2.1 dX7_walks_63 (lv_at hl 0 rfl) ?_
              refine lv_icmp_ge (tgt := 160) cx.1 cx.2.1 dX7_walks_65 (by decide) (fun c12 => ?_) (fun c12 => ?_)
              · have nc12 : nq ≤ i := (nI_leI (a := nq) (b := i) (by first | decide | omega) (by first | decide | omega)).mp c12
                have hx62 : lp_X7_walks_62 S nf 64 0 1 (zUp (zUp (lp_X7_walks_7 S nf S 64) 4 (upd ((lp_X7_walks_7 S nf S 64) 4) (64 * nf + nf) 0)) 5 (upd ((lp_X7_walks_7 S nf S 64) 5) 0 (nI nf))) = (nq, T62) := by
                  rw [← hacc62]
                  cases hn : 64 - i with
                  | zero => rfl
                  | succ q => rw [lp_X7_walks_62]; rw [if_pos c12]
                have hz0 : (lp_X7_walks_62 S nf 64 0 1 (zUp (zUp (lp_X7_walks_7 S nf S 64) 4 (upd ((lp_X7_walks_7 S nf S 64) 4) (64 * nf + nf) 0)) 5 (upd ((lp_X7_walks_7 S nf S 64) 5) 0 (nI nf)))).1 = nq := (congrArg Prod.fst hx62)
                have hz1 : (lp_X7_walks_62 S nf 64 0 1 (zUp (zUp (lp_X7_walks_7 S nf S 64) 4 (upd ((lp_X7_walks_7 S nf S 64) 4) (64 * nf + nf) 0)) 5 (upd ((lp_X7_walks_7 S nf S 64) 5) 0 (nI nf)))).2 = T62 := (congrArg Prod.snd hx62)
                obtain ⟨N18, hN18⟩ : ∃ Z : Nat, (lp_X7_walks_62 S nf 64 0 1 (zUp (zUp (lp_X7_walks_7 S nf S 64) 4 (upd ((lp_X7_walks_7 S nf S 64) 4) (64 * nf + nf) 0)) 5 (upd ((lp_X7_walks_7 S nf S 64) 5) 0 (nI nf)))).1 = Z := ⟨_, rfl⟩
                rw [hN18] at hz0
                obtain ⟨N19, hN19⟩ : ∃ Z : zS, (lp_X7_walks_62 S nf 64 0 1 (zUp (zUp (lp_X7_walks_7 S nf S 64) 4 (upd ((lp_X7_walks_7 S nf S 64) 4) (64 * nf + nf) 0)) 5 (upd ((lp_X7_walks_7 S nf S 64) 5) 0 (nI nf)))).2 = Z := ⟨_, rfl⟩
                rw [hN19] at hz1
                subst hz0
                subst hz1
                subst hN19
                subst hN18
                rw [hQ]
                exact zRetV cx hrt hlk hS hP (by unfold g_X7_walks; rw [if_neg (not_not_intro c3)]) dX7_walks_160
              · have nc12 : ¬ nq ≤ i := fun z => c12 ((nI_leI (a := nq) (b := i) (by first | decide | omega) (by first | decide | omega)).mpr z)
                have hJ := hI62.resolve_left (by omega)
                obtain ⟨v0, hv0, hqv, hkv, l0, hl0, hdv⟩ := bJ_q hJ (show i < nq by omega)
                have hvi : vp_in (T62 5 i) 64 := by rw [hqv]; exact vp_in_nI hv0 (by decide)
                have hn64 := bJ_64 hJ
                refine lv_aload_n cx.1 cx.2.1 dX7_walks_68 rfl (lv_at hl 3 rfl) ?_
                refine zGet (v := .ref (ad 6)) (own := RX7) cx hinX7 hK hP 0 rfl rfl 10 (by decide) (by decide +kernel) rfl rfl dX7_walks_69 ?_
                refine lv_iload_n cx.1 cx.2.1 dX7_walks_72 rfl (lv_at hl 1 rfl) ?_
                refine zIldN cx hK hP 6 0 rfl rfl (i) (by omega) (by decide) rfl dX7_walks_73 ?_
                refine lv_istore (lv' := [(5, .int (T62 5 i)), (4, .int (nI nq)), (3, .int (nI i)), (2, .int (nI (64 * nf))), (0, .ref (ad 0)), (1, .int (nI nf))]) cx.1 cx.2.1 dX7_walks_74 hl (by decide) rfl (fun ls hl => ?_)
                refine lv_iinc (v := nI (i + 1)) (lv' := [(3, .int (nI (i + 1))), (5, .int (T62 5 i)), (4, .int (nI nq)), (2, .int (nI (64 * nf))), (0, .ref (ad 0)), (1, .int (nI nf))]) cx.1 cx.2.1 dX7_walks_76 hl (k := 2) rfl (nI_1 i) (by decide) rfl (fun ls hl => ?_)
                refine lv_iconst (v := 0) cx.1 cx.2.1 dX7_walks_79 (by decide) ?_
                refine lv_istore (lv' := [(6, .int 0), (3, .int (nI (i + 1))), (5, .int (T62 5 i)), (4, .int (nI nq)), (2, .int (nI (64 * nf))), (0, .ref (ad 0)), (1, .int (nI nf))]) cx.1 cx.2.1 dX7_walks_80 hl (by decide) rfl (fun ls hl => ?_)
                have lp82 : ∀ (fu j : Nat) (mq : Nat) (T82 : zS) (hi82 : j ≤ 4) (hacc82 : lp_X7_walks_82 S nf i nq T62 nq T62 j = (mq, T82)) (hI82 : bJ (T82 0) nf (fun a => T82 4 (64 * nf + a)) (T82 5) i mq j) (hq82 : T82 5 i = T62 5 i ∧ i < mq) (_ : 4 - j < fu) (H : Heap) (locs : List Loc) (ls : Array Slot), va_P (dC, dI) vwCl (mw cyI cyZ ad T82) H → va_S (zA ad 14 s.heap.size) s.heap H locs → lv_has ls 8 [(6, .int (nI j)), (3, .int (nI (i + 1))), (5, .int (T62 5 i)), (4, .int (nI mq)), (2, .int (nI (64 * nf))), (0, .ref (ad 0)), (1, .int (nI nf))] → W p l e (headSpec wsX7_walks ({ frames := 1, cells := 0, slots := 0, locals := 23 } : Room)).room s m args below meth c H locs 0 0 Q (F0 m 82 ls []) := by
                  intro fu
                  induction fu with
                  | zero => intro j mq T82 hi82 hacc82 hI82 hq82 hm; exact absurd hm (Nat.not_lt_zero _)
                  | succ fu ih82 =>
                    intro j mq T82 hi82 hacc82 hI82 hq82 hm H locs ls hP hS hl
                    refine lv_iload cx.1 cx.2.1 dX7_walks_82 (lv_at hl 0 rfl) ?_
                    refine lv_iconst (v := 4) cx.1 cx.2.1 dX7_walks_84 (by decide) ?_
                    refine lv_icmp_ge (tgt := 157) cx.1 cx.2.1 dX7_walks_85 (by decide) (fun c13 => ?_) (fun c13 => ?_)
                    · have nc13 : 4 ≤ j := (nI_leI (a := 4) (b := j) (by first | decide | omega) (by first | decide | omega)).mp c13
                      obtain rfl : j = 4 := by omega
                      have hz0 : (lp_X7_walks_82 S nf i nq T62 nq T62 4).1 = mq := (congrArg Prod.fst hacc82)
                      have hz1 : (lp_X7_walks_82 S nf i nq T62 nq T62 4).2 = T82 := (congrArg Prod.snd hacc82)
                      obtain ⟨N16, hN16⟩ : ∃ Z : Nat, (lp_X7_walks_82 S nf i nq T62 nq T62 4).1 = Z := ⟨_, rfl⟩
                      rw [hN16] at hz0
                      obtain ⟨N17, hN17⟩ : ∃ Z : zS, (lp_X7_walks_82 S nf i nq T62 nq T62 4).2 = Z := ⟨_, rfl⟩
                      rw [hN17] at hz1
                      subst hz0
                      subst hz1
                      refine lv_goto (tgt := 62) cx.1 cx.2.1 dX7_walks_157 (by decide) ?_
                      subst hN17
                      subst hN16
                      have ha62 : lp_X7_walks_62 S nf (64 - (i + 1)) (i + 1) ((lp_X7_walks_82 S nf i nq T62 nq T62 4).1) ((lp_X7_walks_82 S nf i nq T62 nq T62 4).2) = lp_X7_walks_62 S nf 64 0 1 (zUp (zUp (lp_X7_walks_7 S nf S 64) 4 (upd ((lp_X7_walks_7 S nf S 64) 4) (64 * nf + nf) 0)) 5 (upd ((lp_X7_walks_7 S nf S 64) 5) 0 (nI nf))) := by
                        rw [← hacc62, show 64 - i = (64 - (i + 1)) + 1 by omega]
                        conv => rhs; rw [lp_X7_walks_62]
                        rw [if_neg c12]
                      exact ih62 (i + 1) ((lp_X7_walks_82 S nf i nq T62 nq T62 4).1) ((lp_X7_walks_82 S nf i nq T62 nq T62 4).2) (by omega) ha62 (Or.inr (bJ_next hI82)) (by omega) _ _ ls hP hS (lv_sub hl [3, 1, 4, 5, 6] rfl)
                    · have nc13 : ¬ 4 ≤ j := fun z => c13 ((nI_leI (a := 4) (b := j) (by first | decide | omega) (by first | decide | omega)).mpr z)
                      have hto : f_X7_neighbour (T62 5 i) (nI j) = if nb v0 j = 64 then -1 else nI (nb v0 j) := by rw [hqv]; exact nbX7 _ hv0 _ (by omega)
                      have hle := nb_le _ hv0 j (by omega)
                      refine lv_iload cx.1 cx.2.1 dX7_walks_88 (lv_at hl 2 rfl) ?_
                      refine lv_iload cx.1 cx.2.1 dX7_walks_90 (lv_at hl 0 rfl) ?_
                      refine zThenIx (v := f_X7_neighbour (T62 5 i) (nI j)) (S' := T82) hS (zRunS (As := [.int (T62 5 i), .int (nI j)]) (rest := []) _ 2 cx (c_X7_neighbour l dC dI cyI cyZ ad hI T82 (T62 5 i) (nI j)) gX7_walks_X7_neighbour rfl ⟨rfl, rfl⟩ (by decide +kernel) ⟨Nat.le_of_ble_eq_true rfl, Nat.le_of_ble_eq_true rfl⟩ (zX_true) trivial hK hP hS rfl hl.1 rfl (Nat.le_of_ble_eq_true rfl) dX7_walks_92 ⟨Nat.zero_le _, Nat.zero_le _⟩) (fun H locs hP hS => ?_)
                      refine lv_istore (lv' := [(7, .int (f_X7_neighbour (T62 5 i) (nI j))), (6, .int (nI j)), (3, .int (nI (i + 1))), (5, .int (T62 5 i)), (4, .int (nI mq)), (2, .int (nI (64 * nf))), (0, .ref (ad 0)), (1, .int (nI nf))]) cx.1 cx.2.1 dX7_walks_95 hl (by decide) rfl (fun ls hl => ?_)
                      refine lv_aload_n cx.1 cx.2.1 dX7_walks_97 rfl (lv_at hl 6 rfl) ?_
                      refine lv_iload cx.1 cx.2.1 dX7_walks_98 (lv_at hl 0 rfl) ?_
                      refine zThenIx (v := f_X7_isRoad T82 (f_X7_neighbour (T62 5 i) (nI j))) (S' := T82) hS (zRunV (As := [.int (f_X7_neighbour (T62 5 i) (nI j))]) (rest := []) _ 1 cx (c_X7_isRoad l dC dI cyI cyZ ad hI T82 (f_X7_neighbour (T62 5 i) (nI j)) (nbX7_in hto hle)) gX7_walks_X7_isRoad rfl ⟨rfl, rfl⟩ (by decide +kernel) ⟨Nat.le_of_ble_eq_true rfl, Nat.le_of_ble_eq_true rfl⟩ (zX_true) trivial hK hP hS 0 rfl rfl rfl rfl hl.1 rfl (Nat.le_of_ble_eq_true rfl) dX7_walks_100 ⟨Nat.zero_le _, Nat.zero_le _⟩) (fun H locs hP hS => ?_)
                      refine lv_if_eq (tgt := 151) cx.1 cx.2.1 dX7_walks_103 (by decide) (fun c14 => ?_) (fun c14 => ?_)
                      · refine lv_iinc (v := nI (j + 1)) (lv' := [(6, .int (nI (j + 1))), (7, .int (f_X7_neighbour (T62 5 i) (nI j))), (3, .int (nI (i + 1))), (5, .int (T62 5 i)), (4, .int (nI mq)), (2, .int (nI (64 * nf))), (0, .ref (ad 0)), (1, .int (nI nf))]) cx.1 cx.2.1 dX7_walks_151 hl (k := 1) rfl (nI_1 j) (by decide) rfl (fun ls hl => ?_)
                        refine lv_goto (tgt := 82) cx.1 cx.2.1 dX7_walks_154 (by decide) ?_
                        have ha82 : lp_X7_walks_82 S nf i nq T62 nq T62 (j + 1) = (mq, T82) := by
                          show bd_X7_walks_82 S nf i nq T62 j (lp_X7_walks_82 S nf i nq T62 nq T62 j).1 (lp_X7_walks_82 S nf i nq T62 nq T62 j).2 = _
                          rw [hacc82]
                          unfold bd_X7_walks_82
                          rw [if_pos c14]
                        exact ih82 (j + 1) mq T82 (by omega) ha82 (by first | exact walk_push hI82 (by omega) hq82.2 hv0 (hq82.1.trans hqv) hqv hb hte hkr (by assumption) | exact walk_skipA hI82 (by omega) hq82.2 hv0 (hq82.1.trans hqv) hto (by assumption) | exact walk_skipB hI82 (by omega) hq82.2 hv0 (hq82.1.trans hqv) hte hb (by assumption)) (by first | exact hq82 | exact ⟨(pk_un (by omega)).trans hq82.1, by omega⟩) (by omega) _ _ ls hP hS (lv_sub hl [0, 2, 3, 4, 5, 6, 7] rfl)
                      · obtain ⟨hb, hte, hkr⟩ := isRoadX7 hto hle c14
                        have hvt : vp_in (f_X7_neighbour (T62 5 i) (nI j)) 64 := by rw [hte]; exact vp_in_nI hb (by decide)
                        refine lv_aload_n cx.1 cx.2.1 dX7_walks_106 rfl (lv_at hl 6 rfl) ?_
                        refine zGet (v := .ref (ad 5)) (own := RX7) cx hinX7 hK hP 0 rfl rfl 9 (by decide) (by decide +kernel) rfl rfl dX7_walks_107 ?_
                        refine lv_iload_n cx.1 cx.2.1 dX7_walks_110 rfl (lv_at hl 5 rfl) ?_
                        refine lv_iload cx.1 cx.2.1 dX7_walks_111 (lv_at hl 0 rfl) ?_
                        refine lv_iadd cx.1 cx.2.1 dX7_walks_113 ?_
                        refine zIldN cx hK hP 5 0 rfl rfl (64 * nf + (f_X7_neighbour (T62 5 i) (nI j)).toNatClampNeg) (at_b hf hvt) (by decide) (at_ix hvt) dX7_walks_114 ?_
                        refine lv_iconst (v := (-1)) cx.1 cx.2.1 dX7_walks_115 (by decide) ?_
                        refine lv_icmp_ne (tgt := 151) cx.1 cx.2.1 dX7_walks_116 (by decide) (fun c15 => ?_) (fun c15 => ?_)
                        · refine lv_iinc (v := nI (j + 1)) (lv' := [(6, .int (nI (j + 1))), (7, .int (f_X7_neighbour (T62 5 i) (nI j))), (3, .int (nI (i + 1))), (5, .int (T62 5 i)), (4, .int (nI mq)), (2, .int (nI (64 * nf))), (0, .ref (ad 0)), (1, .int (nI nf))]) cx.1 cx.2.1 dX7_walks_151 hl (k := 1) rfl (nI_1 j) (by decide) rfl (fun ls hl => ?_)
                          refine lv_goto (tgt := 82) cx.1 cx.2.1 dX7_walks_154 (by decide) ?_
                          have ha82 : lp_X7_walks_82 S nf i nq T62 nq T62 (j + 1) = (mq, T82) := by
                            show bd_X7_walks_82 S nf i nq T62 j (lp_X7_walks_82 S nf i nq T62 nq T62 j).1 (lp_X7_walks_82 S nf i nq T62 nq T62 j).2 = _
                            rw [hacc82]
                            unfold bd_X7_walks_82
                            rw [if_neg c14, if_pos c15]
                          exact ih82 (j + 1) mq T82 (by omega) ha82 (by first | exact walk_push hI82 (by omega) hq82.2 hv0 (hq82.1.trans hqv) hqv hb hte hkr (by assumption) | exact walk_skipA hI82 (by omega) hq82.2 hv0 (hq82.1.trans hqv) hto (by assumption) | exact walk_skipB hI82 (by omega) hq82.2 hv0 (hq82.1.trans hqv) hte hb (by assumption)) (by first | exact hq82 | exact ⟨(pk_un (by omega)).trans hq82.1, by omega⟩) (by omega) _ _ ls hP hS (lv_sub hl [0, 2, 3, 4, 5, 6, 7] rfl)
                        · have hm64 := walk_lt hI82 hb hte c15
                          refine lv_aload_n cx.1 cx.2.1 dX7_walks_119 rfl (lv_at hl 6 rfl) ?_
                          refine zGet (v := .ref (ad 5)) (own := RX7) cx hinX7 hK hP 0 rfl rfl 9 (by decide) (by decide +kernel) rfl rfl dX7_walks_120 ?_
                          refine lv_iload_n cx.1 cx.2.1 dX7_walks_123 rfl (lv_at hl 5 rfl) ?_
                          refine lv_iload cx.1 cx.2.1 dX7_walks_124 (lv_at hl 0 rfl) ?_
                          refine lv_iadd cx.1 cx.2.1 dX7_walks_126 ?_
                          refine lv_aload_n cx.1 cx.2.1 dX7_walks_127 rfl (lv_at hl 6 rfl) ?_
                          refine zGet (v := .ref (ad 5)) (own := RX7) cx hinX7 hK hP 0 rfl rfl 9 (by decide) (by decide +kernel) rfl rfl dX7_walks_128 ?_
                          refine lv_iload_n cx.1 cx.2.1 dX7_walks_131 rfl (lv_at hl 5 rfl) ?_
                          refine lv_iload cx.1 cx.2.1 dX7_walks_132 (lv_at hl 3 rfl) ?_
                          refine lv_iadd cx.1 cx.2.1 dX7_walks_134 ?_
                          refine zIldN cx hK hP 5 0 rfl rfl (64 * nf + (T62 5 i).toNatClampNeg) (at_b hf hvi) (by decide) (at_ix hvi) dX7_walks_135 ?_
                          refine lv_iconst (v := 1) cx.1 cx.2.1 dX7_walks_136 (by decide) ?_
                          refine lv_iadd cx.1 cx.2.1 dX7_walks_137 ?_
                          refine zIstN cx (mw_W cyI cyZ ad) hI hK hP hS 5 0 rfl rfl (64 * nf + (f_X7_neighbour (T62 5 i) (nI j)).toNatClampNeg) (at_b hf hvt) (by decide) (at_ix hvt) (zUp T82 4 (upd (T82 4) (64 * nf + (f_X7_neighbour (T62 5 i) (nI j)).toNatClampNeg) ((T82 4 (64 * nf + (T62 5 i).toNatClampNeg)) + 1))) rfl dX7_walks_138 (fun H locs hP hS => ?_)
                          refine lv_aload_n cx.1 cx.2.1 dX7_walks_139 rfl (lv_at hl 6 rfl) ?_
                          refine zGet (v := .ref (ad 6)) (own := RX7) cx hinX7 hK hP 0 rfl rfl 10 (by decide) (by decide +kernel) rfl rfl dX7_walks_140 ?_
                          refine lv_iload cx.1 cx.2.1 dX7_walks_143 (lv_at hl 4 rfl) ?_
                          refine lv_iload cx.1 cx.2.1 dX7_walks_145 (lv_at hl 0 rfl) ?_
                          refine zIstN cx (mw_W cyI cyZ ad) hI hK hP hS 6 0 rfl rfl (mq) (by omega) (by decide) rfl (zUp (zUp T82 4 (upd (T82 4) (64 * nf + (f_X7_neighbour (T62 5 i) (nI j)).toNatClampNeg) ((T82 4 (64 * nf + (T62 5 i).toNatClampNeg)) + 1))) 5 (upd (T82 5) mq (f_X7_neighbour (T62 5 i) (nI j)))) rfl dX7_walks_147 (fun H locs hP hS => ?_)
                          refine lv_iinc (v := nI (mq + 1)) (lv' := [(4, .int (nI (mq + 1))), (7, .int (f_X7_neighbour (T62 5 i) (nI j))), (6, .int (nI j)), (3, .int (nI (i + 1))), (5, .int (T62 5 i)), (2, .int (nI (64 * nf))), (0, .ref (ad 0)), (1, .int (nI nf))]) cx.1 cx.2.1 dX7_walks_148 hl (k := 4) rfl (nI_1 mq) (by decide) rfl (fun ls hl => ?_)
                          refine lv_iinc (v := nI (j + 1)) (lv' := [(6, .int (nI (j + 1))), (4, .int (nI (mq + 1))), (7, .int (f_X7_neighbour (T62 5 i) (nI j))), (3, .int (nI (i + 1))), (5, .int (T62 5 i)), (2, .int (nI (64 * nf))), (0, .ref (ad 0)), (1, .int (nI nf))]) cx.1 cx.2.1 dX7_walks_151 hl (k := 2) rfl (nI_1 j) (by decide) rfl (fun ls hl => ?_)
                          refine lv_goto (tgt := 82) cx.1 cx.2.1 dX7_walks_154 (by decide) ?_
                          have ha82 : lp_X7_walks_82 S nf i nq T62 nq T62 (j + 1) = (mq + 1, zUp (zUp T82 4 (upd (T82 4) (64 * nf + (f_X7_neighbour (T62 5 i) (nI j)).toNatClampNeg) ((T82 4 (64 * nf + (T62 5 i).toNatClampNeg)) + 1))) 5 (upd (T82 5) mq (f_X7_neighbour (T62 5 i) (nI j)))) := by
                            show bd_X7_walks_82 S nf i nq T62 j (lp_X7_walks_82 S nf i nq T62 nq T62 j).1 (lp_X7_walks_82 S nf i nq T62 nq T62 j).2 = _
                            rw [hacc82]
                            unfold bd_X7_walks_82
                            rw [if_neg c14, if_neg (not_not_intro c15)]
                          exact ih82 (j + 1) (mq + 1) (zUp (zUp T82 4 (upd (T82 4) (64 * nf + (f_X7_neighbour (T62 5 i) (nI j)).toNatClampNeg) ((T82 4 (64 * nf + (T62 5 i).toNatClampNeg)) + 1))) 5 (upd (T82 5) mq (f_X7_neighbour (T62 5 i) (nI j)))) (by omega) ha82 (by first | exact walk_push hI82 (by omega) hq82.2 hv0 (hq82.1.trans hqv) hqv hb hte hkr (by assumption) | exact walk_skipA hI82 (by omega) hq82.2 hv0 (hq82.1.trans hqv) hto (by assumption) | exact walk_skipB hI82 (by omega) hq82.2 hv0 (hq82.1.trans hqv) hte hb (by assumption)) (by first | exact hq82 | exact ⟨(pk_un (by omega)).trans hq82.1, by omega⟩) (by omega) _ _ ls hP hS (lv_sub hl [0, 3, 4, 1, 5, 6, 7] rfl)
                exact lp82 (4 - 0 + 1) 0 nq T62 (by omega) rfl hJ ⟨rfl, by omega⟩ (Nat.lt_succ_self _) _ _ ls hP hS (lv_sub hl [0, 1, 2, 3, 4, 5, 6] rfl)
          exact lp62 (64 - 0 + 1) 0 1 (zUp (zUp (lp_X7_walks_7 S nf S 64) 4 (upd ((lp_X7_walks_7 S nf S 64) 4) (64 * nf + nf) 0)) 5 (upd ((lp_X7_walks_7 S nf S 64) 5) 0 (nI nf))) (by omega) (by rw [Nat.sub_zero]) (by first | exact Or.inl rfl | exact Or.inr (walk_init hf (by assumption))) (Nat.lt_succ_self _) _ _ ls hP hS (lv_sub hl [0, 1, 2, 3, 4] rfl)
      · have nc1 : ¬ 64 ≤ i := fun z => c1 ((nI_leI (a := 64) (b := i) (by first | decide | omega) (by first | decide | omega)).mpr z)
        refine lv_aload_n cx.1 cx.2.1 dX7_walks_13 rfl (lv_at hl 2 rfl) ?_
        refine zGet (v := .ref (ad 5)) (own := RX7) cx hinX7 hK hP 0 rfl rfl 9 (by decide) (by decide +kernel) rfl rfl dX7_walks_14 ?_
        refine lv_iload_n cx.1 cx.2.1 dX7_walks_17 rfl (lv_at hl 1 rfl) ?_
        refine lv_iload_n cx.1 cx.2.1 dX7_walks_18 rfl (lv_at hl 0 rfl) ?_
        refine zAddN (a := 64 * nf) (b := i) cx.1 cx.2.1 dX7_walks_19 ?_
        refine lv_iconst (v := (-1)) cx.1 cx.2.1 dX7_walks_20 (by decide) ?_
        refine zIstN cx (mw_W cyI cyZ ad) hI hK hP hS 5 0 rfl rfl (64 * nf + i) (by omega) (by decide) rfl (zUp T7 4 (upd (T7 4) (64 * nf + i) (-1))) rfl dX7_walks_21 (fun H locs hP hS => ?_)
        refine lv_iinc (v := nI (i + 1)) (lv' := [(3, .int (nI (i + 1))), (2, .int (nI (64 * nf))), (0, .ref (ad 0)), (1, .int (nI nf))]) cx.1 cx.2.1 dX7_walks_22 hl (k := 0) rfl (nI_1 i) (by decide) rfl (fun ls hl => ?_)
        refine lv_goto (tgt := 7) cx.1 cx.2.1 dX7_walks_25 (by decide) ?_
        have ha7 : lp_X7_walks_7 S nf S (i + 1) = zUp T7 4 (upd (T7 4) (64 * nf + i) (-1)) := by
          show bd_X7_walks_7 S nf i (lp_X7_walks_7 S nf S i) = _
          rw [hacc7]
          unfold bd_X7_walks_7
          rfl
        exact ih7 (i + 1) (zUp T7 4 (upd (T7 4) (64 * nf + i) (-1))) (by omega) ha7  (by omega) _ _ ls hP hS (lv_sub hl [0, 1, 2, 3] rfl)
  exact lp7 (64 - 0 + 1) 0 S (by omega) rfl  (Nat.lt_succ_self _) _ _ ls hP hS (lv_sub hl [0, 1, 2, 3] rfl)
