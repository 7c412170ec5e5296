def bd_X7_lives_18 (S : zS) (i : Nat) (sm : Int32) : Int32 := if ¬ (((g_X7_finds S) 0) i) = 2 then (if ¬ (((g_X7_finds S) 0) i) = 3 then (if ¬ (((g_X7_finds S) 0) i) = 1 then (if ¬ (((g_X7_finds S) 0) i) = 4 then (if (((g_X7_finds S) 0) i) = 5 then ((sm + 0) - 10) else (if ¬ (((g_X7_finds S) 0) i) = 6 then ((sm + 0) - 0) else ((sm + 0) - 10))) else ((sm + 0) - 2)) else ((sm + 0) - 1)) else (if ¬ (((g_X7_finds S) 0) i) = 1 then (if ¬ (((g_X7_finds S) 0) i) = 4 then (if (((g_X7_finds S) 0) i) = 5 then ((sm + (((g_X7_finds S) 13 4) * (((g_X7_finds S) 9) i))) - 10) else (if ¬ (((g_X7_finds S) 0) i) = 6 then ((sm + (((g_X7_finds S) 13 4) * (((g_X7_finds S) 9) i))) - 0) else ((sm + (((g_X7_finds S) 13 4) * (((g_X7_finds S) 9) i))) - 10))) else ((sm + (((g_X7_finds S) 13 4) * (((g_X7_finds S) 9) i))) - 2)) else ((sm + (((g_X7_finds S) 13 4) * (((g_X7_finds S) 9) i))) - 1))) else (if ¬ (((g_X7_finds S) 0) i) = 1 then (if ¬ (((g_X7_finds S) 0) i) = 4 then (if (((g_X7_finds S) 0) i) = 5 then ((sm + (((g_X7_finds S) 13 3) * (((g_X7_finds S) 9) i))) - 10) else (if ¬ (((g_X7_finds S) 0) i) = 6 then ((sm + (((g_X7_finds S) 13 3) * (((g_X7_finds S) 9) i))) - 0) else ((sm + (((g_X7_finds S) 13 3) * (((g_X7_finds S) 9) i))) - 10))) else ((sm + (((g_X7_finds S) 13 3) * (((g_X7_finds S) 9) i))) - 2)) else ((sm + (((g_X7_finds S) 13 3) * (((g_X7_finds S) 9) i))) - 1))
def lp_X7_lives_18 (S : zS) (sm0 : Int32) : Nat → Int32
  | 0 => (sm0)
  | q + 1 => bd_X7_lives_18 S q (lp_X7_lives_18 S sm0 q)
def bd_X7_lives_162 (S : zS) (i : Nat) (T162 : zS) : zS := if (f_X7_isZone T162 i) = 0 then (zUp T162 12 (upd (T162 12) i 0)) else (zUp T162 12 (upd (T162 12) i (f_X7_changeOf T162 i)))
def lp_X7_lives_162 (S : zS) (T1620 : zS) : Nat → zS
  | 0 => (T1620)
  | q + 1 => bd_X7_lives_162 S q (lp_X7_lives_162 S T1620 q)
def bd_X7_lives_199 (S : zS) (i : Nat) (T199 : zS) : zS := zUp T199 1 (upd (T199 1) i ((T199 1 i) + (T199 12 i)))
def lp_X7_lives_199 (S : zS) (T1990 : zS) : Nat → zS
  | 0 => (T1990)
  | q + 1 => bd_X7_lives_199 S q (lp_X7_lives_199 S T1990 q)
def g_X7_lives (S : zS)  : zS := (lp_X7_lives_199 S (lp_X7_lives_162 S (zUp (zUp (g_X7_finds S) 13 (upd ((g_X7_finds S) 13) 0 (((g_X7_finds S) 13 0) + (lp_X7_lives_18 S (-((((g_X7_finds S) 13 1) + 99) / 100)) 64)))) 13 (upd (upd ((g_X7_finds S) 13) 0 (((g_X7_finds S) 13 0) + (lp_X7_lives_18 S (-((((g_X7_finds S) 13 1) + 99) / 100)) 64))) 2 ((upd ((g_X7_finds S) 13) 0 (((g_X7_finds S) 13 0) + (lp_X7_lives_18 S (-((((g_X7_finds S) 13 1) + 99) / 100)) 64)) 2) + (lp_X7_lives_18 S (-((((g_X7_finds S) 13 1) + 99) / 100)) 64)))) 64) 64)
theorem fr_bd_X7_lives_199 (S : zS) (i : Nat) (T199 : zS) (r : Nat) (h1 : r ≠ 1) (h10 : r ≠ 10) (h11 : r ≠ 11) (h12 : r ≠ 12) (h13 : r ≠ 13) (h2 : r ≠ 2) (h3 : r ≠ 3) (h4 : r ≠ 4) (h5 : r ≠ 5) (h6 : r ≠ 6) (h7 : r ≠ 7) (h8 : r ≠ 8) (h9 : r ≠ 9) : (bd_X7_lives_199 S i T199) r = T199 r := by
  unfold bd_X7_lives_199
  (repeat' split) <;> simp [zUp, h1, h10, h11, h12, h13, h2, h3, h4, h5, h6, h7, h8, h9, fr_X7_finds]
theorem fr_lp_X7_lives_199 (S : zS) (T1990 : zS) (r : Nat) (h1 : r ≠ 1) (h10 : r ≠ 10) (h11 : r ≠ 11) (h12 : r ≠ 12) (h13 : r ≠ 13) (h2 : r ≠ 2) (h3 : r ≠ 3) (h4 : r ≠ 4) (h5 : r ≠ 5) (h6 : r ≠ 6) (h7 : r ≠ 7) (h8 : r ≠ 8) (h9 : r ≠ 9) : ∀ n, (lp_X7_lives_199 S T1990 n) r = T1990 r
  | 0 => rfl
  | n + 1 => by
    show (bd_X7_lives_199 S n (lp_X7_lives_199 S T1990 n)) r = _
    rw [fr_bd_X7_lives_199 _ _ _ r h1 h10 h11 h12 h13 h2 h3 h4 h5 h6 h7 h8 h9]
    exact fr_lp_X7_lives_199 S T1990 r h1 h10 h11 h12 h13 h2 h3 h4 h5 h6 h7 h8 h9 n
theorem fr_bd_X7_lives_162 (S : zS) (i : Nat) (T162 : zS) (r : Nat) (h1 : r ≠ 1) (h10 : r ≠ 10) (h11 : r ≠ 11) (h12 : r ≠ 12) (h13 : r ≠ 13) (h2 : r ≠ 2) (h3 : r ≠ 3) (h4 : r ≠ 4) (h5 : r ≠ 5) (h6 : r ≠ 6) (h7 : r ≠ 7) (h8 : r ≠ 8) (h9 : r ≠ 9) : (bd_X7_lives_162 S i T162) r = T162 r := by
  unfold bd_X7_lives_162
  (repeat' split) <;> simp [zUp, h1, h10, h11, h12, h13, h2, h3, h4, h5, h6, h7, h8, h9, fr_X7_finds, fr_lp_X7_lives_199]
theorem fr_lp_X7_lives_162 (S : zS) (T1620 : zS) (r : Nat) (h1 : r ≠ 1) (h10 : r ≠ 10) (h11 : r ≠ 11) (h12 : r ≠ 12) (h13 : r ≠ 13) (h2 : r ≠ 2) (h3 : r ≠ 3) (h4 : r ≠ 4) (h5 : r ≠ 5) (h6 : r ≠ 6) (h7 : r ≠ 7) (h8 : r ≠ 8) (h9 : r ≠ 9) : ∀ n, (lp_X7_lives_162 S T1620 n) r = T1620 r
  | 0 => rfl
  | n + 1 => by
    show (bd_X7_lives_162 S n (lp_X7_lives_162 S T1620 n)) r = _
    rw [fr_bd_X7_lives_162 _ _ _ r h1 h10 h11 h12 h13 h2 h3 h4 h5 h6 h7 h8 h9]
    exact fr_lp_X7_lives_162 S T1620 r h1 h10 h11 h12 h13 h2 h3 h4 h5 h6 h7 h8 h9 n
theorem fr_X7_lives (S : zS)  (r : Nat) (h1 : r ≠ 1) (h10 : r ≠ 10) (h11 : r ≠ 11) (h12 : r ≠ 12) (h13 : r ≠ 13) (h2 : r ≠ 2) (h3 : r ≠ 3) (h4 : r ≠ 4) (h5 : r ≠ 5) (h6 : r ≠ 6) (h7 : r ≠ 7) (h8 : r ≠ 8) (h9 : r ≠ 9) : g_X7_lives S  r = S r := by
  unfold g_X7_lives
  (repeat' split) <;> simp [zUp, h1, h10, h11, h12, h13, h2, h3, h4, h5, h6, h7, h8, h9, fr_X7_finds, fr_lp_X7_lives_199, fr_lp_X7_lives_162]
set_option maxHeartbeats 1000000 in
set_option maxRecDepth 100000 in
theorem c_X7_lives (l : Launch) (dC : Nat → ClassId) (dI : Nat → Nat → Nat) (cyI cyZ : ClassId) (ad : Nat → Nat) (hI : zI ad 14) (S : zS)  : zMv l (dC, dI) [(cyI, .int), (cyZ, .boolean)] ad 14 (fun _ _ => True) (mw cyI cyZ ad) yX7_lives wsX7_lives ({ frames := 4, cells := 0, slots := 0, locals := 95 } : Room) [.ref (ad 0)] S (fun T => T = g_X7_lives S) := by
  refine zStartV (by decide) rfl (Nat.le_of_ble_eq_true rfl) ?_
  intro p e s m args below meth c ls cx hrt hlk hP hK hXs hl
  have hl : lv_has ls 3 [(0, .ref (ad 0))] := hl
  have hS : va_S (zA ad 14 s.heap.size) s.heap s.heap [] := va_S.rf
  have hinX7 : ∀ w ∈ u_ws RX7 TX7 19, w ∈ wsX7_lives := by decide +kernel
  obtain ⟨Q, hQ⟩ : ∃ Q, Q = MQ below (zQv (dC, dI) (mw cyI cyZ ad) (fun T => T = g_X7_lives S) (zA ad 14 s.heap.size)) args s 0 0 (zA ad 14 s.heap.size) := ⟨_, rfl⟩
  rw [← hQ]
  refine lv_aload_n cx.1 cx.2.1 dX7_lives_0 rfl (lv_at hl 0 rfl) ?_
  refine zThenVx (S' := g_X7_finds S) hS (zRunV (As := []) (rest := []) _ 0 cx (c_X7_finds l dC dI cyI cyZ ad hI S ) gX7_lives_X7_finds rfl ⟨rfl, rfl⟩ (by decide +kernel) ⟨Nat.le_of_ble_eq_true rfl, Nat.le_of_ble_eq_true rfl⟩ (zX_true) trivial hK hP hS 0 rfl rfl rfl rfl hl.1 rfl (Nat.le_of_ble_eq_true rfl) dX7_lives_1 ⟨Nat.zero_le _, Nat.zero_le _⟩) (fun H locs hP hS => ?_)
  obtain ⟨N1, hN1⟩ : ∃ T : zS, g_X7_finds S = T := ⟨_, rfl⟩
  rw [hN1] at hP
  refine lv_aload_n cx.1 cx.2.1 dX7_lives_4 rfl (lv_at hl 0 rfl) ?_
  refine zGet (v := .int (N1 13 1)) (own := RX7) cx hinX7 hK hP 0 rfl rfl 1 (by decide) (by decide +kernel) rfl rfl dX7_lives_5 ?_
  refine lv_bipush (v := 99) cx.1 cx.2.1 dX7_lives_8 (by decide) ?_
  refine lv_iadd cx.1 cx.2.1 dX7_lives_10 ?_
  refine lv_bipush (v := 100) cx.1 cx.2.1 dX7_lives_11 (by decide) ?_
  refine lv_idiv cx.1 cx.2.1 dX7_lives_13 (by decide) ?_
  refine lv_ineg cx.1 cx.2.1 dX7_lives_14 ?_
  refine lv_istore_n (lv' := [(1, .int (-(((N1 13 1) + 99) / 100))), (0, .ref (ad 0))]) cx.1 cx.2.1 dX7_lives_15 rfl hl (by decide) rfl (fun ls hl => ?_)
  refine lv_iconst (v := 0) cx.1 cx.2.1 dX7_lives_16 (by decide) ?_
  refine lv_istore_n (lv' := [(2, .int 0), (1, .int (-(((N1 13 1) + 99) / 100))), (0, .ref (ad 0))]) cx.1 cx.2.1 dX7_lives_17 rfl hl (by decide) rfl (fun ls hl => ?_)
  subst hN1
  have lp18 : ∀ (fu i : Nat) (sm : Int32) (hi18 : i ≤ 64) (hacc18 : lp_X7_lives_18 S (-((((g_X7_finds S) 13 1) + 99) / 100)) i = sm)  (_ : 64 - i < fu) (H : Heap) (locs : List Loc) (ls : Array Slot), va_P (dC, dI) vwCl (mw cyI cyZ ad (g_X7_finds S)) H → va_S (zA ad 14 s.heap.size) s.heap H locs → lv_has ls 3 [(2, .int (nI i)), (1, .int sm), (0, .ref (ad 0))] → W p l e (headSpec wsX7_lives ({ frames := 4, cells := 0, slots := 0, locals := 95 } : Room)).room s m args below meth c H locs 0 0 Q (F0 m 18 ls []) := by
    intro fu
    induction fu with
    | zero => intro i sm hi18 hacc18  hm; exact absurd hm (Nat.not_lt_zero _)
    | succ fu ih18 =>
      intro i sm hi18 hacc18  hm H locs ls hP hS hl
      refine lv_iload_n cx.1 cx.2.1 dX7_lives_18 rfl (lv_at hl 0 rfl) ?_
      refine lv_bipush (v := 64) cx.1 cx.2.1 dX7_lives_19 (by decide) ?_
      refine lv_icmp_ge (tgt := 140) cx.1 cx.2.1 dX7_lives_21 (by decide) (fun c2 => ?_) (fun c2 => ?_)
      · have nc2 : 64 ≤ i := (nI_leI (a := 64) (b := i) (by first | decide | omega) (by first | decide | omega)).mp c2
        obtain rfl : i = 64 := by omega
        have hz0 : (lp_X7_lives_18 S (-((((g_X7_finds S) 13 1) + 99) / 100)) 64) = sm := hacc18
        obtain ⟨N17, hN17⟩ : ∃ Z : Int32, (lp_X7_lives_18 S (-((((g_X7_finds S) 13 1) + 99) / 100)) 64) = Z := ⟨_, rfl⟩
        rw [hN17] at hz0
        subst hz0
        obtain ⟨N18, hN18⟩ : ∃ T : zS, (g_X7_finds S) = T := ⟨_, rfl⟩
        rw [hN18] at hP
        refine lv_aload_n cx.1 cx.2.1 dX7_lives_140 rfl (lv_at hl 2 rfl) ?_
        refine lv_dup cx.1 cx.2.1 dX7_lives_141 rfl ?_
        refine zGet (v := .int (N18 13 0)) (own := RX7) cx hinX7 hK hP 0 rfl rfl 0 (by decide) (by decide +kernel) rfl rfl dX7_lives_142 ?_
        refine lv_iload_n cx.1 cx.2.1 dX7_lives_145 rfl (lv_at hl 1 rfl) ?_
        refine lv_iadd cx.1 cx.2.1 dX7_lives_146 ?_
        refine zPut (v := .int ((N18 13 0) + N17)) (own := RX7) (ty0 := tyX7) (ty := .int) cx hinX7 tyX7_ok nmX7 (mw_W cyI cyZ ad) hI hK hP hS 0 rfl rfl 0 (by decide) (by decide +kernel) rfl rfl (by decide +kernel) rfl rfl (Nat.le_of_ble_eq_true rfl) (zUp N18 13 (upd (N18 13) 0 ((N18 13 0) + N17))) rfl dX7_lives_147 (fun H locs hP hS => ?_)
        refine lv_aload_n cx.1 cx.2.1 dX7_lives_150 rfl (lv_at hl 2 rfl) ?_
        refine lv_dup cx.1 cx.2.1 dX7_lives_151 rfl ?_
        refine zGet (v := .int (upd (N18 13) 0 ((N18 13 0) + N17) 2)) (own := RX7) cx hinX7 hK hP 0 rfl rfl 2 (by decide) (by decide +kernel) rfl rfl dX7_lives_152 ?_
        refine lv_iload_n cx.1 cx.2.1 dX7_lives_155 rfl (lv_at hl 1 rfl) ?_
        refine lv_iadd cx.1 cx.2.1 dX7_lives_156 ?_
        refine zPut (v := .int ((upd (N18 13) 0 ((N18 13 0) + N17) 2) + N17)) (own := RX7) (ty0 := tyX7) (ty := .int) cx hinX7 tyX7_ok nmX7 (mw_W cyI cyZ ad) hI hK hP hS 0 rfl rfl 2 (by decide) (by decide +kernel) rfl rfl (by decide +kernel) rfl rfl (Nat.le_of_ble_eq_true rfl) (zUp (zUp N18 13 (upd (N18 13) 0 ((N18 13 0) + N17))) 13 (upd (upd (N18 13) 0 ((N18 13 0) + N17)) 2 ((upd (N18 13) 0 ((N18 13 0) + N17) 2) + N17))) rfl dX7_lives_157 (fun H locs hP hS => ?_)
        refine lv_iconst (v := 0) cx.1 cx.2.1 dX7_lives_160 (by decide) ?_
        refine lv_istore_n (lv' := [(2, .int 0), (1, .int N17), (0, .ref (ad 0))]) cx.1 cx.2.1 dX7_lives_161 rfl hl (by decide) rfl (fun ls hl => ?_)
        subst hN18
        subst hN17
        have lp162 : ∀ (fu i : Nat) (T162 : zS) (hi162 : i ≤ 64) (hacc162 : lp_X7_lives_162 S (zUp (zUp (g_X7_finds S) 13 (upd ((g_X7_finds S) 13) 0 (((g_X7_finds S) 13 0) + (lp_X7_lives_18 S (-((((g_X7_finds S) 13 1) + 99) / 100)) 64)))) 13 (upd (upd ((g_X7_finds S) 13) 0 (((g_X7_finds S) 13 0) + (lp_X7_lives_18 S (-((((g_X7_finds S) 13 1) + 99) / 100)) 64))) 2 ((upd ((g_X7_finds S) 13) 0 (((g_X7_finds S) 13 0) + (lp_X7_lives_18 S (-((((g_X7_finds S) 13 1) + 99) / 100)) 64)) 2) + (lp_X7_lives_18 S (-((((g_X7_finds S) 13 1) + 99) / 100)) 64)))) i = T162) (hro162 : ∀ k, k < 64 → rOK (T162 2) k) (_ : 64 - i < fu) (H : Heap) (locs : List Loc) (ls : Array Slot), va_P (dC, dI) vwCl (mw cyI cyZ ad T162) H → va_S (zA ad 14 s.heap.size) s.heap H locs → lv_has ls 3 [(2, .int (nI i)), (0, .ref (ad 0))] → W p l e (headSpec wsX7_lives ({ frames := 4, cells := 0, slots := 0, locals := 95 } : Room)).room s m args below meth c H locs 0 0 Q (F0 m 162 ls []) := by
          intro fu
          induction fu with
          | zero => intro i T162 hi162 hacc162 hro162 hm; exact absurd hm (Nat.not_lt_zero _)
          | succ fu ih162 =>
            intro i T162 hi162 hacc162 hro162 hm H locs ls hP hS hl
            refine lv_iload_n cx.1 cx.2.1 dX7_lives_162 rfl (lv_at hl 0 rfl) ?_
            refine lv_bipush (v := 64) cx.1 cx.2.1 dX7_lives_163 (by decide) ?_
            refine lv_icmp_ge (tgt := 197) cx.1 cx.2.1 dX7_lives_165 (by decide) (fun c19 => ?_) (fun c19 => ?_)
            · have nc19 : 64 ≤ i := (nI_leI (a := 64) (b := i) (by first | decide | omega) (by first | decide | omega)).mp c19
              obtain rfl : i = 64 := by omega
              have hz0 : (lp_X7_lives_162 S (zUp (zUp (g_X7_finds S) 13 (upd ((g_X7_finds S) 13) 0 (((g_X7_finds S) 13 0) + (lp_X7_lives_18 S (-((((g_X7_finds S) 13 1) + 99) / 100)) 64)))) 13 (upd (upd ((g_X7_finds S) 13) 0 (((g_X7_finds S) 13 0) + (lp_X7_lives_18 S (-((((g_X7_finds S) 13 1) + 99) / 100)) 64))) 2 ((upd ((g_X7_finds S) 13) 0 (((g_X7_finds S) 13 0) + (lp_X7_lives_18 S (-((((g_X7_finds S) 13 1) + 99) / 100)) 64)) 2) + (lp_X7_lives_18 S (-((((g_X7_finds S) 13 1) + 99) / 100)) 64)))) 64) = T162 := hacc162
              obtain ⟨N21, hN21⟩ : ∃ Z : zS, (lp_X7_lives_162 S (zUp (zUp (g_X7_finds S) 13 (upd ((g_X7_finds S) 13) 0 (((g_X7_finds S) 13 0) + (lp_X7_lives_18 S (-((((g_X7_finds S) 13 1) + 99) / 100)) 64)))) 13 (upd (upd ((g_X7_finds S) 13) 0 (((g_X7_finds S) 13 0) + (lp_X7_lives_18 S (-((((g_X7_finds S) 13 1) + 99) / 100)) 64))) 2 ((upd ((g_X7_finds S) 13) 0 (((g_X7_finds S) 13 0) + (lp_X7_lives_18 S (-((((g_X7_finds S) 13 1) + 99) / 100)) 64)) 2) + (lp_X7_lives_18 S (-((((g_X7_finds S) 13 1) + 99) / 100)) 64)))) 64) = Z := ⟨_, rfl⟩
              rw [hN21] at hz0
              subst hz0
              refine lv_iconst (v := 0) cx.1 cx.2.1 dX7_lives_197 (by decide) ?_
              refine lv_istore_n (lv' := [(2, .int 0), (0, .ref (ad 0))]) cx.1 cx.2.1 dX7_lives_198 rfl hl (by decide) rfl (fun ls hl => ?_)
              subst hN21
              have lp199 : ∀ (fu i : Nat) (T199 : zS) (hi199 : i ≤ 64) (hacc199 : lp_X7_lives_199 S (lp_X7_lives_162 S (zUp (zUp (g_X7_finds S) 13 (upd ((g_X7_finds S) 13) 0 (((g_X7_finds S) 13 0) + (lp_X7_lives_18 S (-((((g_X7_finds S) 13 1) + 99) / 100)) 64)))) 13 (upd (upd ((g_X7_finds S) 13) 0 (((g_X7_finds S) 13 0) + (lp_X7_lives_18 S (-((((g_X7_finds S) 13 1) + 99) / 100)) 64))) 2 ((upd ((g_X7_finds S) 13) 0 (((g_X7_finds S) 13 0) + (lp_X7_lives_18 S (-((((g_X7_finds S) 13 1) + 99) / 100)) 64)) 2) + (lp_X7_lives_18 S (-((((g_X7_finds S) 13 1) + 99) / 100)) 64)))) 64) i = T199)  (_ : 64 - i < fu) (H : Heap) (locs : List Loc) (ls : Array Slot), va_P (dC, dI) vwCl (mw cyI cyZ ad T199) H → va_S (zA ad 14 s.heap.size) s.heap H locs → lv_has ls 3 [(2, .int (nI i)), (0, .ref (ad 0))] → W p l e (headSpec wsX7_lives ({ frames := 4, cells := 0, slots := 0, locals := 95 } : Room)).room s m args below meth c H locs 0 0 Q (F0 m 199 ls []) := by
                intro fu
                induction fu with
                | zero => intro i T199 hi199 hacc199  hm; exact absurd hm (Nat.not_lt_zero _)
                | succ fu ih199 =>
                  intro i T199 hi199 hacc199  hm H locs ls hP hS hl
                  refine lv_iload_n cx.1 cx.2.1 dX7_lives_199 rfl (lv_at hl 0 rfl) ?_
                  refine lv_bipush (v := 64) cx.1 cx.2.1 dX7_lives_200 (by decide) ?_
                  refine lv_icmp_ge (tgt := 226) cx.1 cx.2.1 dX7_lives_202 (by decide) (fun c22 => ?_) (fun c22 => ?_)
                  · have nc22 : 64 ≤ i := (nI_leI (a := 64) (b := i) (by first | decide | omega) (by first | decide | omega)).mp c22
                    obtain rfl : i = 64 := by omega
                    have hz0 : (lp_X7_lives_199 S (lp_X7_lives_162 S (zUp (zUp (g_X7_finds S) 13 (upd ((g_X7_finds S) 13) 0 (((g_X7_finds S) 13 0) + (lp_X7_lives_18 S (-((((g_X7_finds S) 13 1) + 99) / 100)) 64)))) 13 (upd (upd ((g_X7_finds S) 13) 0 (((g_X7_finds S) 13 0) + (lp_X7_lives_18 S (-((((g_X7_finds S) 13 1) + 99) / 100)) 64))) 2 ((upd ((g_X7_finds S) 13) 0 (((g_X7_finds S) 13 0) + (lp_X7_lives_18 S (-((((g_X7_finds S) 13 1) + 99) / 100)) 64)) 2) + (lp_X7_lives_18 S (-((((g_X7_finds S) 13 1) + 99) / 100)) 64)))) 64) 64) = T199 := hacc199
                    obtain ⟨N23, hN23⟩ : ∃ Z : zS, (lp_X7_lives_199 S (lp_X7_lives_162 S (zUp (zUp (g_X7_finds S) 13 (upd ((g_X7_finds S) 13) 0 (((g_X7_finds S) 13 0) + (lp_X7_lives_18 S (-((((g_X7_finds S) 13 1) + 99) / 100)) 64)))) 13 (upd (upd ((g_X7_finds S) 13) 0 (((g_X7_finds S) 13 0) + (lp_X7_lives_18 S (-((((g_X7_finds S) 13 1) + 99) / 100)) 64))) 2 ((upd ((g_X7_finds S) 13) 0 (((g_X7_finds S) 13 0) + (lp_X7_lives_18 S (-((((g_X7_finds S) 13 1) + 99) / 100)) 64)) 2) + (lp_X7_lives_18 S (-((((g_X7_finds S) 13 1) + 99) / 100)) 64)))) 64) 64) = Z := ⟨_, rfl⟩
                    rw [hN23] at hz0
                    subst hz0
                    subst hN23
                    rw [hQ]
                    exact zRetV cx hrt hlk hS hP (by unfold g_X7_lives; rfl) dX7_lives_226
                  · have nc22 : ¬ 64 ≤ i := fun z => c22 ((nI_leI (a := 64) (b := i) (by first | decide | omega) (by first | decide | omega)).mpr z)
                    refine lv_aload_n cx.1 cx.2.1 dX7_lives_205 rfl (lv_at hl 1 rfl) ?_
                    refine zGet (v := .ref (ad 2)) (own := RX7) cx hinX7 hK hP 0 rfl rfl 6 (by decide) (by decide +kernel) rfl rfl dX7_lives_206 ?_
                    refine lv_iload_n cx.1 cx.2.1 dX7_lives_209 rfl (lv_at hl 0 rfl) ?_
                    refine lv_dup2_11 cx.1 cx.2.1 dX7_lives_210 rfl rfl ?_
                    refine zIldN cx hK hP 2 0 rfl rfl (i) (by omega) (by decide) rfl dX7_lives_211 ?_
                    refine lv_aload_n cx.1 cx.2.1 dX7_lives_212 rfl (lv_at hl 1 rfl) ?_
                    refine zGet (v := .ref (ad 13)) (own := RX7) cx hinX7 hK hP 0 rfl rfl 17 (by decide) (by decide +kernel) rfl rfl dX7_lives_213 ?_
                    refine lv_iload_n cx.1 cx.2.1 dX7_lives_216 rfl (lv_at hl 0 rfl) ?_
                    refine zIldN cx hK hP 13 0 rfl rfl (i) (by omega) (by decide) rfl dX7_lives_217 ?_
                    refine lv_iadd cx.1 cx.2.1 dX7_lives_218 ?_
                    refine zIstN cx (mw_W cyI cyZ ad) hI hK hP hS 2 0 rfl rfl (i) (by omega) (by decide) rfl (zUp T199 1 (upd (T199 1) i ((T199 1 i) + (T199 12 i)))) rfl dX7_lives_219 (fun H locs hP hS => ?_)
                    refine lv_iinc (v := nI (i + 1)) (lv' := [(2, .int (nI (i + 1))), (0, .ref (ad 0))]) cx.1 cx.2.1 dX7_lives_220 hl (k := 0) rfl (nI_1 i) (by decide) rfl (fun ls hl => ?_)
                    refine lv_goto (tgt := 199) cx.1 cx.2.1 dX7_lives_223 (by decide) ?_
                    have ha199 : lp_X7_lives_199 S (lp_X7_lives_162 S (zUp (zUp (g_X7_finds S) 13 (upd ((g_X7_finds S) 13) 0 (((g_X7_finds S) 13 0) + (lp_X7_lives_18 S (-((((g_X7_finds S) 13 1) + 99) / 100)) 64)))) 13 (upd (upd ((g_X7_finds S) 13) 0 (((g_X7_finds S) 13 0) + (lp_X7_lives_18 S (-((((g_X7_finds S) 13 1) + 99) / 100)) 64))) 2 ((upd ((g_X7_finds S) 13) 0 (((g_X7_finds S) 13 0) + (lp_X7_lives_18 S (-((((g_X7_finds S) 13 1) + 99) / 100)) 64)) 2) + (lp_X7_lives_18 S (-((((g_X7_finds S) 13 1) + 99) / 100)) 64)))) 64) (i + 1) = zUp T199 1 (upd (T199 1) i ((T199 1 i) + (T199 12 i))) := by
                      show bd_X7_lives_199 S i (lp_X7_lives_199 S (lp_X7_lives_162 S (zUp (zUp (g_X7_finds S) 13 (upd ((g_X7_finds S) 13) 0 (((g_X7_finds S) 13 0) + (lp_X7_lives_18 S (-((((g_X7_finds S) 13 1) + 99) / 100)) 64)))) 13 (upd (upd ((g_X7_finds S) 13) 0 (((g_X7_finds S) 13 0) + (lp_X7_lives_18 S (-((((g_X7_finds S) 13 1) + 99) / 100)) 64))) 2 ((upd ((g_X7_finds S) 13) 0 (((g_X7_finds S) 13 0) + (lp_X7_lives_18 S (-((((g_X7_finds S) 13 1) + 99) / 100)) 64)) 2) + (lp_X7_lives_18 S (-((((g_X7_finds S) 13 1) + 99) / 100)) 64)))) 64) i) = _
                      rw [hacc199]
                      unfold bd_X7_lives_199
                      rfl
                    exact ih199 (i + 1) (zUp T199 1 (upd (T199 1) i ((T199 1 i) + (T199 12 i)))) (by omega) ha199  (by omega) _ _ ls hP hS (lv_sub hl [0, 1] rfl)
              exact lp199 (64 - 0 + 1) 0 (lp_X7_lives_162 S (zUp (zUp (g_X7_finds S) 13 (upd ((g_X7_finds S) 13) 0 (((g_X7_finds S) 13 0) + (lp_X7_lives_18 S (-((((g_X7_finds S) 13 1) + 99) / 100)) 64)))) 13 (upd (upd ((g_X7_finds S) 13) 0 (((g_X7_finds S) 13 0) + (lp_X7_lives_18 S (-((((g_X7_finds S) 13 1) + 99) / 100)) 64))) 2 ((upd ((g_X7_finds S) 13) 0 (((g_X7_finds S) 13 0) + (lp_X7_lives_18 S (-((((g_X7_finds S) 13 1) + 99) / 100)) 64)) 2) + (lp_X7_lives_18 S (-((((g_X7_finds S) 13 1) + 99) / 100)) 64)))) 64) (by omega) rfl  (Nat.lt_succ_self _) _ _ ls hP hS (lv_sub hl [0, 1] rfl)
            · have nc19 : ¬ 64 ≤ i := fun z => c19 ((nI_leI (a := 64) (b := i) (by first | decide | omega) (by first | decide | omega)).mpr z)
              refine lv_aload_n cx.1 cx.2.1 dX7_lives_168 rfl (lv_at hl 1 rfl) ?_
              refine zGet (v := .ref (ad 13)) (own := RX7) cx hinX7 hK hP 0 rfl rfl 17 (by decide) (by decide +kernel) rfl rfl dX7_lives_169 ?_
              refine lv_iload_n cx.1 cx.2.1 dX7_lives_172 rfl (lv_at hl 0 rfl) ?_
              refine lv_aload_n cx.1 cx.2.1 dX7_lives_173 rfl (lv_at hl 1 rfl) ?_
              refine lv_iload_n cx.1 cx.2.1 dX7_lives_174 rfl (lv_at hl 0 rfl) ?_
              refine zThenIx (v := f_X7_isZone T162 i) (S' := T162) hS (zRunV (As := [.int (nI i)]) (rest := [.int (nI i), .ref (ad 13)]) _ 1 cx (c_X7_isZone l dC dI cyI cyZ ad hI T162 i (by omega)) gX7_lives_X7_isZone rfl ⟨rfl, rfl⟩ (by decide +kernel) ⟨Nat.le_of_ble_eq_true rfl, Nat.le_of_ble_eq_true rfl⟩ (zX_true) trivial hK hP hS 0 rfl rfl rfl rfl hl.1 rfl (Nat.le_of_ble_eq_true rfl) dX7_lives_175 ⟨Nat.zero_le _, Nat.zero_le _⟩) (fun H locs hP hS => ?_)
              refine lv_if_eq (tgt := 189) cx.1 cx.2.1 dX7_lives_178 (by decide) (fun c20 => ?_) (fun c20 => ?_)
              · refine lv_iconst (v := 0) cx.1 cx.2.1 dX7_lives_189 (by decide) ?_
                refine zIstN cx (mw_W cyI cyZ ad) hI hK hP hS 13 0 rfl rfl (i) (by omega) (by decide) rfl (zUp T162 12 (upd (T162 12) i 0)) rfl dX7_lives_190 (fun H locs hP hS => ?_)
                refine lv_iinc (v := nI (i + 1)) (lv' := [(2, .int (nI (i + 1))), (0, .ref (ad 0))]) cx.1 cx.2.1 dX7_lives_191 hl (k := 0) rfl (nI_1 i) (by decide) rfl (fun ls hl => ?_)
                refine lv_goto (tgt := 162) cx.1 cx.2.1 dX7_lives_194 (by decide) ?_
                have ha162 : lp_X7_lives_162 S (zUp (zUp (g_X7_finds S) 13 (upd ((g_X7_finds S) 13) 0 (((g_X7_finds S) 13 0) + (lp_X7_lives_18 S (-((((g_X7_finds S) 13 1) + 99) / 100)) 64)))) 13 (upd (upd ((g_X7_finds S) 13) 0 (((g_X7_finds S) 13 0) + (lp_X7_lives_18 S (-((((g_X7_finds S) 13 1) + 99) / 100)) 64))) 2 ((upd ((g_X7_finds S) 13) 0 (((g_X7_finds S) 13 0) + (lp_X7_lives_18 S (-((((g_X7_finds S) 13 1) + 99) / 100)) 64)) 2) + (lp_X7_lives_18 S (-((((g_X7_finds S) 13 1) + 99) / 100)) 64)))) (i + 1) = zUp T162 12 (upd (T162 12) i 0) := by
                  show bd_X7_lives_162 S i (lp_X7_lives_162 S (zUp (zUp (g_X7_finds S) 13 (upd ((g_X7_finds S) 13) 0 (((g_X7_finds S) 13 0) + (lp_X7_lives_18 S (-((((g_X7_finds S) 13 1) + 99) / 100)) 64)))) 13 (upd (upd ((g_X7_finds S) 13) 0 (((g_X7_finds S) 13 0) + (lp_X7_lives_18 S (-((((g_X7_finds S) 13 1) + 99) / 100)) 64))) 2 ((upd ((g_X7_finds S) 13) 0 (((g_X7_finds S) 13 0) + (lp_X7_lives_18 S (-((((g_X7_finds S) 13 1) + 99) / 100)) 64)) 2) + (lp_X7_lives_18 S (-((((g_X7_finds S) 13 1) + 99) / 100)) 64)))) i) = _
                  rw [hacc162]
                  unfold bd_X7_lives_162
                  rw [if_pos c20]
                exact ih162 (i + 1) (zUp T162 12 (upd (T162 12) i 0)) (by omega) ha162 hro162 (by omega) _ _ ls hP hS (lv_sub hl [0, 1] rfl)
              · refine lv_aload_n cx.1 cx.2.1 dX7_lives_181 rfl (lv_at hl 1 rfl) ?_
                refine lv_iload_n cx.1 cx.2.1 dX7_lives_182 rfl (lv_at hl 0 rfl) ?_
                refine zThenIx (v := f_X7_changeOf T162 i) (S' := T162) hS (zRunV (As := [.int (nI i)]) (rest := [.int (nI i), .ref (ad 13)]) _ 1 cx (c_X7_changeOf l dC dI cyI cyZ ad hI T162 i (by omega) hro162) gX7_lives_X7_changeOf rfl ⟨rfl, rfl⟩ (by decide +kernel) ⟨Nat.le_of_ble_eq_true rfl, Nat.le_of_ble_eq_true rfl⟩ (zX_true) trivial hK hP hS 0 rfl rfl rfl rfl hl.1 rfl (Nat.le_of_ble_eq_true rfl) dX7_lives_183 ⟨Nat.zero_le _, Nat.zero_le _⟩) (fun H locs hP hS => ?_)
                refine lv_goto (tgt := 190) cx.1 cx.2.1 dX7_lives_186 (by decide) ?_
                refine zIstN cx (mw_W cyI cyZ ad) hI hK hP hS 13 0 rfl rfl (i) (by omega) (by decide) rfl (zUp T162 12 (upd (T162 12) i (f_X7_changeOf T162 i))) rfl dX7_lives_190 (fun H locs hP hS => ?_)
                refine lv_iinc (v := nI (i + 1)) (lv' := [(2, .int (nI (i + 1))), (0, .ref (ad 0))]) cx.1 cx.2.1 dX7_lives_191 hl (k := 0) rfl (nI_1 i) (by decide) rfl (fun ls hl => ?_)
                refine lv_goto (tgt := 162) cx.1 cx.2.1 dX7_lives_194 (by decide) ?_
                have ha162 : lp_X7_lives_162 S (zUp (zUp (g_X7_finds S) 13 (upd ((g_X7_finds S) 13) 0 (((g_X7_finds S) 13 0) + (lp_X7_lives_18 S (-((((g_X7_finds S) 13 1) + 99) / 100)) 64)))) 13 (upd (upd ((g_X7_finds S) 13) 0 (((g_X7_finds S) 13 0) + (lp_X7_lives_18 S (-((((g_X7_finds S) 13 1) + 99) / 100)) 64))) 2 ((upd ((g_X7_finds S) 13) 0 (((g_X7_finds S) 13 0) + (lp_X7_lives_18 S (-((((g_X7_finds S) 13 1) + 99) / 100)) 64)) 2) + (lp_X7_lives_18 S (-((((g_X7_finds S) 13 1) + 99) / 100)) 64)))) (i + 1) = zUp T162 12 (upd (T162 12) i (f_X7_changeOf T162 i)) := by
                  show bd_X7_lives_162 S i (lp_X7_lives_162 S (zUp (zUp (g_X7_finds S) 13 (upd ((g_X7_finds S) 13) 0 (((g_X7_finds S) 13 0) + (lp_X7_lives_18 S (-((((g_X7_finds S) 13 1) + 99) / 100)) 64)))) 13 (upd (upd ((g_X7_finds S) 13) 0 (((g_X7_finds S) 13 0) + (lp_X7_lives_18 S (-((((g_X7_finds S) 13 1) + 99) / 100)) 64))) 2 ((upd ((g_X7_finds S) 13) 0 (((g_X7_finds S) 13 0) + (lp_X7_lives_18 S (-((((g_X7_finds S) 13 1) + 99) / 100)) 64)) 2) + (lp_X7_lives_18 S (-((((g_X7_finds S) 13 1) + 99) / 100)) 64)))) i) = _
                  rw [hacc162]
                  unfold bd_X7_lives_162
                  rw [if_neg c20]
                exact ih162 (i + 1) (zUp T162 12 (upd (T162 12) i (f_X7_changeOf T162 i))) (by omega) ha162 hro162 (by omega) _ _ ls hP hS (lv_sub hl [0, 1] rfl)
        exact lp162 (64 - 0 + 1) 0 (zUp (zUp (g_X7_finds S) 13 (upd ((g_X7_finds S) 13) 0 (((g_X7_finds S) 13 0) + (lp_X7_lives_18 S (-((((g_X7_finds S) 13 1) + 99) / 100)) 64)))) 13 (upd (upd ((g_X7_finds S) 13) 0 (((g_X7_finds S) 13 0) + (lp_X7_lives_18 S (-((((g_X7_finds S) 13 1) + 99) / 100)) 64))) 2 ((upd ((g_X7_finds S) 13) 0 (((g_X7_finds S) 13 0) + (lp_X7_lives_18 S (-((((g_X7_finds S) 13 1) + 99) / 100)) 64)) 2) + (lp_X7_lives_18 S (-((((g_X7_finds S) 13 1) + 99) / 100)) 64)))) (by omega) rfl (by rw [zUp_n _ _ (show (2:Nat) ≠ 13 by decide), zUp_n _ _ (show (2:Nat) ≠ 13 by decide)]; exact finds_r S) (Nat.lt_succ_self _) _ _ ls hP hS (lv_sub hl [0, 2] rfl)
      · have nc2 : ¬ 64 ≤ i := fun z => c2 ((nI_leI (a := 64) (b := i) (by first | decide | omega) (by first | decide | omega)).mpr z)
        refine lv_iload_n cx.1 cx.2.1 dX7_lives_24 rfl (lv_at hl 1 rfl) ?_
        refine lv_aload_n cx.1 cx.2.1 dX7_lives_25 rfl (lv_at hl 2 rfl) ?_
        refine zGet (v := .ref (ad 1)) (own := RX7) cx hinX7 hK hP 0 rfl rfl 5 (by decide) (by decide +kernel) rfl rfl dX7_lives_26 ?_
        refine lv_iload_n cx.1 cx.2.1 dX7_lives_29 rfl (lv_at hl 0 rfl) ?_
        refine zIldN cx hK hP 1 0 rfl rfl (i) (by omega) (by decide) rfl dX7_lives_30 ?_
        refine lv_iconst (v := 2) cx.1 cx.2.1 dX7_lives_31 (by decide) ?_
        refine lv_icmp_ne (tgt := 49) cx.1 cx.2.1 dX7_lives_32 (by decide) (fun c3 => ?_) (fun c3 => ?_)
        · refine lv_aload_n cx.1 cx.2.1 dX7_lives_49 rfl (lv_at hl 2 rfl) ?_
          refine zGet (v := .ref (ad 1)) (own := RX7) cx hinX7 hK hP 0 rfl rfl 5 (by decide) (by decide +kernel) rfl rfl dX7_lives_50 ?_
          refine lv_iload_n cx.1 cx.2.1 dX7_lives_53 rfl (lv_at hl 0 rfl) ?_
          refine zIldN cx hK hP 1 0 rfl rfl (i) (by omega) (by decide) rfl dX7_lives_54 ?_
          refine lv_iconst (v := 3) cx.1 cx.2.1 dX7_lives_55 (by decide) ?_
          refine lv_icmp_ne (tgt := 73) cx.1 cx.2.1 dX7_lives_56 (by decide) (fun c4 => ?_) (fun c4 => ?_)
          · refine lv_iconst (v := 0) cx.1 cx.2.1 dX7_lives_73 (by decide) ?_
            refine lv_iadd cx.1 cx.2.1 dX7_lives_74 ?_
            refine lv_istore_n (lv' := [(1, .int (sm + 0)), (2, .int (nI i)), (0, .ref (ad 0))]) cx.1 cx.2.1 dX7_lives_75 rfl hl (by decide) rfl (fun ls hl => ?_)
            refine lv_iload_n cx.1 cx.2.1 dX7_lives_76 rfl (lv_at hl 0 rfl) ?_
            refine lv_aload_n cx.1 cx.2.1 dX7_lives_77 rfl (lv_at hl 2 rfl) ?_
            refine zGet (v := .ref (ad 1)) (own := RX7) cx hinX7 hK hP 0 rfl rfl 5 (by decide) (by decide +kernel) rfl rfl dX7_lives_78 ?_
            refine lv_iload_n cx.1 cx.2.1 dX7_lives_81 rfl (lv_at hl 1 rfl) ?_
            refine zIldN cx hK hP 1 0 rfl rfl (i) (by omega) (by decide) rfl dX7_lives_82 ?_
            refine lv_iconst (v := 1) cx.1 cx.2.1 dX7_lives_83 (by decide) ?_
            refine lv_icmp_ne (tgt := 91) cx.1 cx.2.1 dX7_lives_84 (by decide) (fun c5 => ?_) (fun c5 => ?_)
            · refine lv_aload_n cx.1 cx.2.1 dX7_lives_91 rfl (lv_at hl 2 rfl) ?_
              refine zGet (v := .ref (ad 1)) (own := RX7) cx hinX7 hK hP 0 rfl rfl 5 (by decide) (by decide +kernel) rfl rfl dX7_lives_92 ?_
              refine lv_iload_n cx.1 cx.2.1 dX7_lives_95 rfl (lv_at hl 1 rfl) ?_
              refine zIldN cx hK hP 1 0 rfl rfl (i) (by omega) (by decide) rfl dX7_lives_96 ?_
              refine lv_iconst (v := 4) cx.1 cx.2.1 dX7_lives_97 (by decide) ?_
              refine lv_icmp_ne (tgt := 105) cx.1 cx.2.1 dX7_lives_98 (by decide) (fun c6 => ?_) (fun c6 => ?_)
              · refine lv_aload_n cx.1 cx.2.1 dX7_lives_105 rfl (lv_at hl 2 rfl) ?_
                refine zGet (v := .ref (ad 1)) (own := RX7) cx hinX7 hK hP 0 rfl rfl 5 (by decide) (by decide +kernel) rfl rfl dX7_lives_106 ?_
                refine lv_iload_n cx.1 cx.2.1 dX7_lives_109 rfl (lv_at hl 1 rfl) ?_
                refine zIldN cx hK hP 1 0 rfl rfl (i) (by omega) (by decide) rfl dX7_lives_110 ?_
                refine lv_iconst (v := 5) cx.1 cx.2.1 dX7_lives_111 (by decide) ?_
                refine lv_icmp_eq (tgt := 126) cx.1 cx.2.1 dX7_lives_112 (by decide) (fun c7 => ?_) (fun c7 => ?_)
                · refine lv_bipush (v := 10) cx.1 cx.2.1 dX7_lives_126 (by decide) ?_
                  refine lv_goto (tgt := 132) cx.1 cx.2.1 dX7_lives_128 (by decide) ?_
                  refine lv_isub cx.1 cx.2.1 dX7_lives_132 ?_
                  refine lv_istore_n (lv' := [(1, .int ((sm + 0) - 10)), (2, .int (nI i)), (0, .ref (ad 0))]) cx.1 cx.2.1 dX7_lives_133 rfl hl (by decide) rfl (fun ls hl => ?_)
                  refine lv_iinc (v := nI (i + 1)) (lv' := [(2, .int (nI (i + 1))), (1, .int ((sm + 0) - 10)), (0, .ref (ad 0))]) cx.1 cx.2.1 dX7_lives_134 hl (k := 1) rfl (nI_1 i) (by decide) rfl (fun ls hl => ?_)
                  refine lv_goto (tgt := 18) cx.1 cx.2.1 dX7_lives_137 (by decide) ?_
                  have ha18 : lp_X7_lives_18 S (-((((g_X7_finds S) 13 1) + 99) / 100)) (i + 1) = (sm + 0) - 10 := by
                    show bd_X7_lives_18 S i (lp_X7_lives_18 S (-((((g_X7_finds S) 13 1) + 99) / 100)) i) = _
                    rw [hacc18]
                    unfold bd_X7_lives_18
                    rw [if_pos c3, if_pos c4, if_pos c5, if_pos c6, if_pos c7]
                  exact ih18 (i + 1) ((sm + 0) - 10) (by omega) ha18  (by omega) _ _ ls hP hS (lv_sub hl [0, 1, 2] rfl)
                · refine lv_aload_n cx.1 cx.2.1 dX7_lives_115 rfl (lv_at hl 2 rfl) ?_
                  refine zGet (v := .ref (ad 1)) (own := RX7) cx hinX7 hK hP 0 rfl rfl 5 (by decide) (by decide +kernel) rfl rfl dX7_lives_116 ?_
                  refine lv_iload_n cx.1 cx.2.1 dX7_lives_119 rfl (lv_at hl 1 rfl) ?_
                  refine zIldN cx hK hP 1 0 rfl rfl (i) (by omega) (by decide) rfl dX7_lives_120 ?_
                  refine lv_bipush (v := 6) cx.1 cx.2.1 dX7_lives_121 (by decide) ?_
                  refine lv_icmp_ne (tgt := 131) cx.1 cx.2.1 dX7_lives_123 (by decide) (fun c8 => ?_) (fun c8 => ?_)
                  · refine lv_iconst (v := 0) cx.1 cx.2.1 dX7_lives_131 (by decide) ?_
                    refine lv_isub cx.1 cx.2.1 dX7_lives_132 ?_
                    refine lv_istore_n (lv' := [(1, .int ((sm + 0) - 0)), (2, .int (nI i)), (0, .ref (ad 0))]) cx.1 cx.2.1 dX7_lives_133 rfl hl (by decide) rfl (fun ls hl => ?_)
                    refine lv_iinc (v := nI (i + 1)) (lv' := [(2, .int (nI (i + 1))), (1, .int ((sm + 0) - 0)), (0, .ref (ad 0))]) cx.1 cx.2.1 dX7_lives_134 hl (k := 1) rfl (nI_1 i) (by decide) rfl (fun ls hl => ?_)
                    refine lv_goto (tgt := 18) cx.1 cx.2.1 dX7_lives_137 (by decide) ?_
                    have ha18 : lp_X7_lives_18 S (-((((g_X7_finds S) 13 1) + 99) / 100)) (i + 1) = (sm + 0) - 0 := by
                      show bd_X7_lives_18 S i (lp_X7_lives_18 S (-((((g_X7_finds S) 13 1) + 99) / 100)) i) = _
                      rw [hacc18]
                      unfold bd_X7_lives_18
                      rw [if_pos c3, if_pos c4, if_pos c5, if_pos c6, if_neg c7, if_pos c8]
                    exact ih18 (i + 1) ((sm + 0) - 0) (by omega) ha18  (by omega) _ _ ls hP hS (lv_sub hl [0, 1, 2] rfl)
                  · refine lv_bipush (v := 10) cx.1 cx.2.1 dX7_lives_126 (by decide) ?_
                    refine lv_goto (tgt := 132) cx.1 cx.2.1 dX7_lives_128 (by decide) ?_
                    refine lv_isub cx.1 cx.2.1 dX7_lives_132 ?_
                    refine lv_istore_n (lv' := [(1, .int ((sm + 0) - 10)), (2, .int (nI i)), (0, .ref (ad 0))]) cx.1 cx.2.1 dX7_lives_133 rfl hl (by decide) rfl (fun ls hl => ?_)
                    refine lv_iinc (v := nI (i + 1)) (lv' := [(2, .int (nI (i + 1))), (1, .int ((sm + 0) - 10)), (0, .ref (ad 0))]) cx.1 cx.2.1 dX7_lives_134 hl (k := 1) rfl (nI_1 i) (by decide) rfl (fun ls hl => ?_)
                    refine lv_goto (tgt := 18) cx.1 cx.2.1 dX7_lives_137 (by decide) ?_
                    have ha18 : lp_X7_lives_18 S (-((((g_X7_finds S) 13 1) + 99) / 100)) (i + 1) = (sm + 0) - 10 := by
                      show bd_X7_lives_18 S i (lp_X7_lives_18 S (-((((g_X7_finds S) 13 1) + 99) / 100)) i) = _
                      rw [hacc18]
                      unfold bd_X7_lives_18
                      rw [if_pos c3, if_pos c4, if_pos c5, if_pos c6, if_neg c7, if_neg (not_not_intro c8)]
                    exact ih18 (i + 1) ((sm + 0) - 10) (by omega) ha18  (by omega) _ _ ls hP hS (lv_sub hl [0, 1, 2] rfl)
              · refine lv_iconst (v := 2) cx.1 cx.2.1 dX7_lives_101 (by decide) ?_
                refine lv_goto (tgt := 132) cx.1 cx.2.1 dX7_lives_102 (by decide) ?_
                refine lv_isub cx.1 cx.2.1 dX7_lives_132 ?_
                refine lv_istore_n (lv' := [(1, .int ((sm + 0) - 2)), (2, .int (nI i)), (0, .ref (ad 0))]) cx.1 cx.2.1 dX7_lives_133 rfl hl (by decide) rfl (fun ls hl => ?_)
                refine lv_iinc (v := nI (i + 1)) (lv' := [(2, .int (nI (i + 1))), (1, .int ((sm + 0) - 2)), (0, .ref (ad 0))]) cx.1 cx.2.1 dX7_lives_134 hl (k := 1) rfl (nI_1 i) (by decide) rfl (fun ls hl => ?_)
                refine lv_goto (tgt := 18) cx.1 cx.2.1 dX7_lives_137 (by decide) ?_
                have ha18 : lp_X7_lives_18 S (-((((g_X7_finds S) 13 1) + 99) / 100)) (i + 1) = (sm + 0) - 2 := by
                  show bd_X7_lives_18 S i (lp_X7_lives_18 S (-((((g_X7_finds S) 13 1) + 99) / 100)) i) = _
                  rw [hacc18]
                  unfold bd_X7_lives_18
                  rw [if_pos c3, if_pos c4, if_pos c5, if_neg (not_not_intro c6)]
                exact ih18 (i + 1) ((sm + 0) - 2) (by omega) ha18  (by omega) _ _ ls hP hS (lv_sub hl [0, 1, 2] rfl)
            · refine lv_iconst (v := 1) cx.1 cx.2.1 dX7_lives_87 (by decide) ?_
              refine lv_goto (tgt := 132) cx.1 cx.2.1 dX7_lives_88 (by decide) ?_
              refine lv_isub cx.1 cx.2.1 dX7_lives_132 ?_
              refine lv_istore_n (lv' := [(1, .int ((sm + 0) - 1)), (2, .int (nI i)), (0, .ref (ad 0))]) cx.1 cx.2.1 dX7_lives_133 rfl hl (by decide) rfl (fun ls hl => ?_)
              refine lv_iinc (v := nI (i + 1)) (lv' := [(2, .int (nI (i + 1))), (1, .int ((sm + 0) - 1)), (0, .ref (ad 0))]) cx.1 cx.2.1 dX7_lives_134 hl (k := 1) rfl (nI_1 i) (by decide) rfl (fun ls hl => ?_)
              refine lv_goto (tgt := 18) cx.1 cx.2.1 dX7_lives_137 (by decide) ?_
              have ha18 : lp_X7_lives_18 S (-((((g_X7_finds S) 13 1) + 99) / 100)) (i + 1) = (sm + 0) - 1 := by
                show bd_X7_lives_18 S i (lp_X7_lives_18 S (-((((g_X7_finds S) 13 1) + 99) / 100)) i) = _
                rw [hacc18]
                unfold bd_X7_lives_18
                rw [if_pos c3, if_pos c4, if_neg (not_not_intro c5)]
              exact ih18 (i + 1) ((sm + 0) - 1) (by omega) ha18  (by omega) _ _ ls hP hS (lv_sub hl [0, 1, 2] rfl)
          · refine lv_aload_n cx.1 cx.2.1 dX7_lives_59 rfl (lv_at hl 2 rfl) ?_
            refine zGet (v := .int ((g_X7_finds S) 13 4)) (own := RX7) cx hinX7 hK hP 0 rfl rfl 4 (by decide) (by decide +kernel) rfl rfl dX7_lives_60 ?_
            refine lv_aload_n cx.1 cx.2.1 dX7_lives_63 rfl (lv_at hl 2 rfl) ?_
            refine zGet (v := .ref (ad 10)) (own := RX7) cx hinX7 hK hP 0 rfl rfl 14 (by decide) (by decide +kernel) rfl rfl dX7_lives_64 ?_
            refine lv_iload_n cx.1 cx.2.1 dX7_lives_67 rfl (lv_at hl 0 rfl) ?_
            refine zIldN cx hK hP 10 0 rfl rfl (i) (by omega) (by decide) rfl dX7_lives_68 ?_
            refine lv_imul cx.1 cx.2.1 dX7_lives_69 ?_
            refine lv_goto (tgt := 74) cx.1 cx.2.1 dX7_lives_70 (by decide) ?_
            refine lv_iadd cx.1 cx.2.1 dX7_lives_74 ?_
            refine lv_istore_n (lv' := [(1, .int (sm + (((g_X7_finds S) 13 4) * (((g_X7_finds S) 9) i)))), (2, .int (nI i)), (0, .ref (ad 0))]) cx.1 cx.2.1 dX7_lives_75 rfl hl (by decide) rfl (fun ls hl => ?_)
            refine lv_iload_n cx.1 cx.2.1 dX7_lives_76 rfl (lv_at hl 0 rfl) ?_
            refine lv_aload_n cx.1 cx.2.1 dX7_lives_77 rfl (lv_at hl 2 rfl) ?_
            refine zGet (v := .ref (ad 1)) (own := RX7) cx hinX7 hK hP 0 rfl rfl 5 (by decide) (by decide +kernel) rfl rfl dX7_lives_78 ?_
            refine lv_iload_n cx.1 cx.2.1 dX7_lives_81 rfl (lv_at hl 1 rfl) ?_
            refine zIldN cx hK hP 1 0 rfl rfl (i) (by omega) (by decide) rfl dX7_lives_82 ?_
            refine lv_iconst (v := 1) cx.1 cx.2.1 dX7_lives_83 (by decide) ?_
            refine lv_icmp_ne (tgt := 91) cx.1 cx.2.1 dX7_lives_84 (by decide) (fun c9 => ?_) (fun c9 => ?_)
            · refine lv_aload_n cx.1 cx.2.1 dX7_lives_91 rfl (lv_at hl 2 rfl) ?_
              refine zGet (v := .ref (ad 1)) (own := RX7) cx hinX7 hK hP 0 rfl rfl 5 (by decide) (by decide +kernel) rfl rfl dX7_lives_92 ?_
              refine lv_iload_n cx.1 cx.2.1 dX7_lives_95 rfl (lv_at hl 1 rfl) ?_
              refine zIldN cx hK hP 1 0 rfl rfl (i) (by omega) (by decide) rfl dX7_lives_96 ?_
              refine lv_iconst (v := 4) cx.1 cx.2.1 dX7_lives_97 (by decide) ?_
              refine lv_icmp_ne (tgt := 105) cx.1 cx.2.1 dX7_lives_98 (by decide) (fun c10 => ?_) (fun c10 => ?_)
              · refine lv_aload_n cx.1 cx.2.1 dX7_lives_105 rfl (lv_at hl 2 rfl) ?_
                refine zGet (v := .ref (ad 1)) (own := RX7) cx hinX7 hK hP 0 rfl rfl 5 (by decide) (by decide +kernel) rfl rfl dX7_lives_106 ?_
                refine lv_iload_n cx.1 cx.2.1 dX7_lives_109 rfl (lv_at hl 1 rfl) ?_
                refine zIldN cx hK hP 1 0 rfl rfl (i) (by omega) (by decide) rfl dX7_lives_110 ?_
                refine lv_iconst (v := 5) cx.1 cx.2.1 dX7_lives_111 (by decide) ?_
                refine lv_icmp_eq (tgt := 126) cx.1 cx.2.1 dX7_lives_112 (by decide) (fun c11 => ?_) (fun c11 => ?_)
                · refine lv_bipush (v := 10) cx.1 cx.2.1 dX7_lives_126 (by decide) ?_
                  refine lv_goto (tgt := 132) cx.1 cx.2.1 dX7_lives_128 (by decide) ?_
                  refine lv_isub cx.1 cx.2.1 dX7_lives_132 ?_
                  refine lv_istore_n (lv' := [(1, .int ((sm + (((g_X7_finds S) 13 4) * (((g_X7_finds S) 9) i))) - 10)), (2, .int (nI i)), (0, .ref (ad 0))]) cx.1 cx.2.1 dX7_lives_133 rfl hl (by decide) rfl (fun ls hl => ?_)
                  refine lv_iinc (v := nI (i + 1)) (lv' := [(2, .int (nI (i + 1))), (1, .int ((sm + (((g_X7_finds S) 13 4) * (((g_X7_finds S) 9) i))) - 10)), (0, .ref (ad 0))]) cx.1 cx.2.1 dX7_lives_134 hl (k := 1) rfl (nI_1 i) (by decide) rfl (fun ls hl => ?_)
                  refine lv_goto (tgt := 18) cx.1 cx.2.1 dX7_lives_137 (by decide) ?_
                  have ha18 : lp_X7_lives_18 S (-((((g_X7_finds S) 13 1) + 99) / 100)) (i + 1) = (sm + (((g_X7_finds S) 13 4) * (((g_X7_finds S) 9) i))) - 10 := by
                    show bd_X7_lives_18 S i (lp_X7_lives_18 S (-((((g_X7_finds S) 13 1) + 99) / 100)) i) = _
                    rw [hacc18]
                    unfold bd_X7_lives_18
                    rw [if_pos c3, if_neg (not_not_intro c4), if_pos c9, if_pos c10, if_pos c11]
                  exact ih18 (i + 1) ((sm + (((g_X7_finds S) 13 4) * (((g_X7_finds S) 9) i))) - 10) (by omega) ha18  (by omega) _ _ ls hP hS (lv_sub hl [0, 1, 2] rfl)
                · refine lv_aload_n cx.1 cx.2.1 dX7_lives_115 rfl (lv_at hl 2 rfl) ?_
                  refine zGet (v := .ref (ad 1)) (own := RX7) cx hinX7 hK hP 0 rfl rfl 5 (by decide) (by decide +kernel) rfl rfl dX7_lives_116 ?_
                  refine lv_iload_n cx.1 cx.2.1 dX7_lives_119 rfl (lv_at hl 1 rfl) ?_
                  refine zIldN cx hK hP 1 0 rfl rfl (i) (by omega) (by decide) rfl dX7_lives_120 ?_
                  refine lv_bipush (v := 6) cx.1 cx.2.1 dX7_lives_121 (by decide) ?_
                  refine lv_icmp_ne (tgt := 131) cx.1 cx.2.1 dX7_lives_123 (by decide) (fun c12 => ?_) (fun c12 => ?_)
                  · refine lv_iconst (v := 0) cx.1 cx.2.1 dX7_lives_131 (by decide) ?_
                    refine lv_isub cx.1 cx.2.1 dX7_lives_132 ?_
                    refine lv_istore_n (lv' := [(1, .int ((sm + (((g_X7_finds S) 13 4) * (((g_X7_finds S) 9) i))) - 0)), (2, .int (nI i)), (0, .ref (ad 0))]) cx.1 cx.2.1 dX7_lives_133 rfl hl (by decide) rfl (fun ls hl => ?_)
                    refine lv_iinc (v := nI (i + 1)) (lv' := [(2, .int (nI (i + 1))), (1, .int ((sm + (((g_X7_finds S) 13 4) * (((g_X7_finds S) 9) i))) - 0)), (0, .ref (ad 0))]) cx.1 cx.2.1 dX7_lives_134 hl (k := 1) rfl (nI_1 i) (by decide) rfl (fun ls hl => ?_)
                    refine lv_goto (tgt := 18) cx.1 cx.2.1 dX7_lives_137 (by decide) ?_
                    have ha18 : lp_X7_lives_18 S (-((((g_X7_finds S) 13 1) + 99) / 100)) (i + 1) = (sm + (((g_X7_finds S) 13 4) * (((g_X7_finds S) 9) i))) - 0 := by
                      show bd_X7_lives_18 S i (lp_X7_lives_18 S (-((((g_X7_finds S) 13 1) + 99) / 100)) i) = _
                      rw [hacc18]
                      unfold bd_X7_lives_18
                      rw [if_pos c3, if_neg (not_not_intro c4), if_pos c9, if_pos c10, if_neg c11, if_pos c12]
                    exact ih18 (i + 1) ((sm + (((g_X7_finds S) 13 4) * (((g_X7_finds S) 9) i))) - 0) (by omega) ha18  (by omega) _ _ ls hP hS (lv_sub hl [0, 1, 2] rfl)
                  · refine lv_bipush (v := 10) cx.1 cx.2.1 dX7_lives_126 (by decide) ?_
                    refine lv_goto (tgt := 132) cx.1 cx.2.1 dX7_lives_128 (by decide) ?_
                    refine lv_isub cx.1 cx.2.1 dX7_lives_132 ?_
                    refine lv_istore_n (lv' := [(1, .int ((sm + (((g_X7_finds S) 13 4) * (((g_X7_finds S) 9) i))) - 10)), (2, .int (nI i)), (0, .ref (ad 0))]) cx.1 cx.2.1 dX7_lives_133 rfl hl (by decide) rfl (fun ls hl => ?_)
                    refine lv_iinc (v := nI (i + 1)) (lv' := [(2, .int (nI (i + 1))), (1, .int ((sm + (((g_X7_finds S) 13 4) * (((g_X7_finds S) 9) i))) - 10)), (0, .ref (ad 0))]) cx.1 cx.2.1 dX7_lives_134 hl (k := 1) rfl (nI_1 i) (by decide) rfl (fun ls hl => ?_)
                    refine lv_goto (tgt := 18) cx.1 cx.2.1 dX7_lives_137 (by decide) ?_
                    have ha18 : lp_X7_lives_18 S (-((((g_X7_finds S) 13 1) + 99) / 100)) (i + 1) = (sm + (((g_X7_finds S) 13 4) * (((g_X7_finds S) 9) i))) - 10 := by
                      show bd_X7_lives_18 S i (lp_X7_lives_18 S (-((((g_X7_finds S) 13 1) + 99) / 100)) i) = _
                      rw [hacc18]
                      unfold bd_X7_lives_18
                      rw [if_pos c3, if_neg (not_not_intro c4), if_pos c9, if_pos c10, if_neg c11, if_neg (not_not_intro c12)]
                    exact ih18 (i + 1) ((sm + (((g_X7_finds S) 13 4) * (((g_X7_finds S) 9) i))) - 10) (by omega) ha18  (by omega) _ _ ls hP hS (lv_sub hl [0, 1, 2] rfl)
              · refine lv_iconst (v := 2) cx.1 cx.2.1 dX7_lives_101 (by decide) ?_
                refine lv_goto (tgt := 132) cx.1 cx.2.1 dX7_lives_102 (by decide) ?_
                refine lv_isub cx.1 cx.2.1 dX7_lives_132 ?_
                refine lv_istore_n (lv' := [(1, .int ((sm + (((g_X7_finds S) 13 4) * (((g_X7_finds S) 9) i))) - 2)), (2, .int (nI i)), (0, .ref (ad 0))]) cx.1 cx.2.1 dX7_lives_133 rfl hl (by decide) rfl (fun ls hl => ?_)
                refine lv_iinc (v := nI (i + 1)) (lv' := [(2, .int (nI (i + 1))), (1, .int ((sm + (((g_X7_finds S) 13 4) * (((g_X7_finds S) 9) i))) - 2)), (0, .ref (ad 0))]) cx.1 cx.2.1 dX7_lives_134 hl (k := 1) rfl (nI_1 i) (by decide) rfl (fun ls hl => ?_)
                refine lv_goto (tgt := 18) cx.1 cx.2.1 dX7_lives_137 (by decide) ?_
                have ha18 : lp_X7_lives_18 S (-((((g_X7_finds S) 13 1) + 99) / 100)) (i + 1) = (sm + (((g_X7_finds S) 13 4) * (((g_X7_finds S) 9) i))) - 2 := by
                  show bd_X7_lives_18 S i (lp_X7_lives_18 S (-((((g_X7_finds S) 13 1) + 99) / 100)) i) = _
                  rw [hacc18]
                  unfold bd_X7_lives_18
                  rw [if_pos c3, if_neg (not_not_intro c4), if_pos c9, if_neg (not_not_intro c10)]
                exact ih18 (i + 1) ((sm + (((g_X7_finds S) 13 4) * (((g_X7_finds S) 9) i))) - 2) (by omega) ha18  (by omega) _ _ ls hP hS (lv_sub hl [0, 1, 2] rfl)
            · refine lv_iconst (v := 1) cx.1 cx.2.1 dX7_lives_87 (by decide) ?_
              refine lv_goto (tgt := 132) cx.1 cx.2.1 dX7_lives_88 (by decide) ?_
              refine lv_isub cx.1 cx.2.1 dX7_lives_132 ?_
              refine lv_istore_n (lv' := [(1, .int ((sm + (((g_X7_finds S) 13 4) * (((g_X7_finds S) 9) i))) - 1)), (2, .int (nI i)), (0, .ref (ad 0))]) cx.1 cx.2.1 dX7_lives_133 rfl hl (by decide) rfl (fun ls hl => ?_)
              refine lv_iinc (v := nI (i + 1)) (lv' := [(2, .int (nI (i + 1))), (1, .int ((sm + (((g_X7_finds S) 13 4) * (((g_X7_finds S) 9) i))) - 1)), (0, .ref (ad 0))]) cx.1 cx.2.1 dX7_lives_134 hl (k := 1) rfl (nI_1 i) (by decide) rfl (fun ls hl => ?_)
              refine lv_goto (tgt := 18) cx.1 cx.2.1 dX7_lives_137 (by decide) ?_
              have ha18 : lp_X7_lives_18 S (-((((g_X7_finds S) 13 1) + 99) / 100)) (i + 1) = (sm + (((g_X7_finds S) 13 4) * (((g_X7_finds S) 9) i))) - 1 := by
                show bd_X7_lives_18 S i (lp_X7_lives_18 S (-((((g_X7_finds S) 13 1) + 99) / 100)) i) = _
                rw [hacc18]
                unfold bd_X7_lives_18
                rw [if_pos c3, if_neg (not_not_intro c4), if_neg (not_not_intro c9)]
              exact ih18 (i + 1) ((sm + (((g_X7_finds S) 13 4) * (((g_X7_finds S) 9) i))) - 1) (by omega) ha18  (by omega) _ _ ls hP hS (lv_sub hl [0, 1, 2] rfl)
        · refine lv_aload_n cx.1 cx.2.1 dX7_lives_35 rfl (lv_at hl 2 rfl) ?_
          refine zGet (v := .int ((g_X7_finds S) 13 3)) (own := RX7) cx hinX7 hK hP 0 rfl rfl 3 (by decide) (by decide +kernel) rfl rfl dX7_lives_36 ?_
          refine lv_aload_n cx.1 cx.2.1 dX7_lives_39 rfl (lv_at hl 2 rfl) ?_
          refine zGet (v := .ref (ad 10)) (own := RX7) cx hinX7 hK hP 0 rfl rfl 14 (by decide) (by decide +kernel) rfl rfl dX7_lives_40 ?_
          refine lv_iload_n cx.1 cx.2.1 dX7_lives_43 rfl (lv_at hl 0 rfl) ?_
          refine zIldN cx hK hP 10 0 rfl rfl (i) (by omega) (by decide) rfl dX7_lives_44 ?_
          refine lv_imul cx.1 cx.2.1 dX7_lives_45 ?_
          refine lv_goto (tgt := 74) cx.1 cx.2.1 dX7_lives_46 (by decide) ?_
          refine lv_iadd cx.1 cx.2.1 dX7_lives_74 ?_
          refine lv_istore_n (lv' := [(1, .int (sm + (((g_X7_finds S) 13 3) * (((g_X7_finds S) 9) i)))), (2, .int (nI i)), (0, .ref (ad 0))]) cx.1 cx.2.1 dX7_lives_75 rfl hl (by decide) rfl (fun ls hl => ?_)
          refine lv_iload_n cx.1 cx.2.1 dX7_lives_76 rfl (lv_at hl 0 rfl) ?_
          refine lv_aload_n cx.1 cx.2.1 dX7_lives_77 rfl (lv_at hl 2 rfl) ?_
          refine zGet (v := .ref (ad 1)) (own := RX7) cx hinX7 hK hP 0 rfl rfl 5 (by decide) (by decide +kernel) rfl rfl dX7_lives_78 ?_
          refine lv_iload_n cx.1 cx.2.1 dX7_lives_81 rfl (lv_at hl 1 rfl) ?_
          refine zIldN cx hK hP 1 0 rfl rfl (i) (by omega) (by decide) rfl dX7_lives_82 ?_
          refine lv_iconst (v := 1) cx.1 cx.2.1 dX7_lives_83 (by decide) ?_
          refine lv_icmp_ne (tgt := 91) cx.1 cx.2.1 dX7_lives_84 (by decide) (fun c13 => ?_) (fun c13 => ?_)
          · refine lv_aload_n cx.1 cx.2.1 dX7_lives_91 rfl (lv_at hl 2 rfl) ?_
            refine zGet (v := .ref (ad 1)) (own := RX7) cx hinX7 hK hP 0 rfl rfl 5 (by decide) (by decide +kernel) rfl rfl dX7_lives_92 ?_
            refine lv_iload_n cx.1 cx.2.1 dX7_lives_95 rfl (lv_at hl 1 rfl) ?_
            refine zIldN cx hK hP 1 0 rfl rfl (i) (by omega) (by decide) rfl dX7_lives_96 ?_
            refine lv_iconst (v := 4) cx.1 cx.2.1 dX7_lives_97 (by decide) ?_
            refine lv_icmp_ne (tgt := 105) cx.1 cx.2.1 dX7_lives_98 (by decide) (fun c14 => ?_) (fun c14 => ?_)
            · refine lv_aload_n cx.1 cx.2.1 dX7_lives_105 rfl (lv_at hl 2 rfl) ?_
              refine zGet (v := .ref (ad 1)) (own := RX7) cx hinX7 hK hP 0 rfl rfl 5 (by decide) (by decide +kernel) rfl rfl dX7_lives_106 ?_
              refine lv_iload_n cx.1 cx.2.1 dX7_lives_109 rfl (lv_at hl 1 rfl) ?_
              refine zIldN cx hK hP 1 0 rfl rfl (i) (by omega) (by decide) rfl dX7_lives_110 ?_
              refine lv_iconst (v := 5) cx.1 cx.2.1 dX7_lives_111 (by decide) ?_
              refine lv_icmp_eq (tgt := 126) cx.1 cx.2.1 dX7_lives_112 (by decide) (fun c15 => ?_) (fun c15 => ?_)
              · refine lv_bipush (v := 10) cx.1 cx.2.1 dX7_lives_126 (by decide) ?_
                refine lv_goto (tgt := 132) cx.1 cx.2.1 dX7_lives_128 (by decide) ?_
                refine lv_isub cx.1 cx.2.1 dX7_lives_132 ?_
                refine lv_istore_n (lv' := [(1, .int ((sm + (((g_X7_finds S) 13 3) * (((g_X7_finds S) 9) i))) - 10)), (2, .int (nI i)), (0, .ref (ad 0))]) cx.1 cx.2.1 dX7_lives_133 rfl hl (by decide) rfl (fun ls hl => ?_)
                refine lv_iinc (v := nI (i + 1)) (lv' := [(2, .int (nI (i + 1))), (1, .int ((sm + (((g_X7_finds S) 13 3) * (((g_X7_finds S) 9) i))) - 10)), (0, .ref (ad 0))]) cx.1 cx.2.1 dX7_lives_134 hl (k := 1) rfl (nI_1 i) (by decide) rfl (fun ls hl => ?_)
                refine lv_goto (tgt := 18) cx.1 cx.2.1 dX7_lives_137 (by decide) ?_
                have ha18 : lp_X7_lives_18 S (-((((g_X7_finds S) 13 1) + 99) / 100)) (i + 1) = (sm + (((g_X7_finds S) 13 3) * (((g_X7_finds S) 9) i))) - 10 := by
                  show bd_X7_lives_18 S i (lp_X7_lives_18 S (-((((g_X7_finds S) 13 1) + 99) / 100)) i) = _
                  rw [hacc18]
                  unfold bd_X7_lives_18
                  rw [if_neg (not_not_intro c3), if_pos c13, if_pos c14, if_pos c15]
                exact ih18 (i + 1) ((sm + (((g_X7_finds S) 13 3) * (((g_X7_finds S) 9) i))) - 10) (by omega) ha18  (by omega) _ _ ls hP hS (lv_sub hl [0, 1, 2] rfl)
              · refine lv_aload_n cx.1 cx.2.1 dX7_lives_115 rfl (lv_at hl 2 rfl) ?_
                refine zGet (v := .ref (ad 1)) (own := RX7) cx hinX7 hK hP 0 rfl rfl 5 (by decide) (by decide +kernel) rfl rfl dX7_lives_116 ?_
                refine lv_iload_n cx.1 cx.2.1 dX7_lives_119 rfl (lv_at hl 1 rfl) ?_
                refine zIldN cx hK hP 1 0 rfl rfl (i) (by omega) (by decide) rfl dX7_lives_120 ?_
                refine lv_bipush (v := 6) cx.1 cx.2.1 dX7_lives_121 (by decide) ?_
                refine lv_icmp_ne (tgt := 131) cx.1 cx.2.1 dX7_lives_123 (by decide) (fun c16 => ?_) (fun c16 => ?_)
                · refine lv_iconst (v := 0) cx.1 cx.2.1 dX7_lives_131 (by decide) ?_
                  refine lv_isub cx.1 cx.2.1 dX7_lives_132 ?_
                  refine lv_istore_n (lv' := [(1, .int ((sm + (((g_X7_finds S) 13 3) * (((g_X7_finds S) 9) i))) - 0)), (2, .int (nI i)), (0, .ref (ad 0))]) cx.1 cx.2.1 dX7_lives_133 rfl hl (by decide) rfl (fun ls hl => ?_)
                  refine lv_iinc (v := nI (i + 1)) (lv' := [(2, .int (nI (i + 1))), (1, .int ((sm + (((g_X7_finds S) 13 3) * (((g_X7_finds S) 9) i))) - 0)), (0, .ref (ad 0))]) cx.1 cx.2.1 dX7_lives_134 hl (k := 1) rfl (nI_1 i) (by decide) rfl (fun ls hl => ?_)
                  refine lv_goto (tgt := 18) cx.1 cx.2.1 dX7_lives_137 (by decide) ?_
                  have ha18 : lp_X7_lives_18 S (-((((g_X7_finds S) 13 1) + 99) / 100)) (i + 1) = (sm + (((g_X7_finds S) 13 3) * (((g_X7_finds S) 9) i))) - 0 := by
                    show bd_X7_lives_18 S i (lp_X7_lives_18 S (-((((g_X7_finds S) 13 1) + 99) / 100)) i) = _
                    rw [hacc18]
                    unfold bd_X7_lives_18
                    rw [if_neg (not_not_intro c3), if_pos c13, if_pos c14, if_neg c15, if_pos c16]
                  exact ih18 (i + 1) ((sm + (((g_X7_finds S) 13 3) * (((g_X7_finds S) 9) i))) - 0) (by omega) ha18  (by omega) _ _ ls hP hS (lv_sub hl [0, 1, 2] rfl)
                · refine lv_bipush (v := 10) cx.1 cx.2.1 dX7_lives_126 (by decide) ?_
                  refine lv_goto (tgt := 132) cx.1 cx.2.1 dX7_lives_128 (by decide) ?_
                  refine lv_isub cx.1 cx.2.1 dX7_lives_132 ?_
                  refine lv_istore_n (lv' := [(1, .int ((sm + (((g_X7_finds S) 13 3) * (((g_X7_finds S) 9) i))) - 10)), (2, .int (nI i)), (0, .ref (ad 0))]) cx.1 cx.2.1 dX7_lives_133 rfl hl (by decide) rfl (fun ls hl => ?_)
                  refine lv_iinc (v := nI (i + 1)) (lv' := [(2, .int (nI (i + 1))), (1, .int ((sm + (((g_X7_finds S) 13 3) * (((g_X7_finds S) 9) i))) - 10)), (0, .ref (ad 0))]) cx.1 cx.2.1 dX7_lives_134 hl (k := 1) rfl (nI_1 i) (by decide) rfl (fun ls hl => ?_)
                  refine lv_goto (tgt := 18) cx.1 cx.2.1 dX7_lives_137 (by decide) ?_
                  have ha18 : lp_X7_lives_18 S (-((((g_X7_finds S) 13 1) + 99) / 100)) (i + 1) = (sm + (((g_X7_finds S) 13 3) * (((g_X7_finds S) 9) i))) - 10 := by
                    show bd_X7_lives_18 S i (lp_X7_lives_18 S (-((((g_X7_finds S) 13 1) + 99) / 100)) i) = _
                    rw [hacc18]
                    unfold bd_X7_lives_18
                    rw [if_neg (not_not_intro c3), if_pos c13, if_pos c14, if_neg c15, if_neg (not_not_intro c16)]
                  exact ih18 (i + 1) ((sm + (((g_X7_finds S) 13 3) * (((g_X7_finds S) 9) i))) - 10) (by omega) ha18  (by omega) _ _ ls hP hS (lv_sub hl [0, 1, 2] rfl)
            · refine lv_iconst (v := 2) cx.1 cx.2.1 dX7_lives_101 (by decide) ?_
              refine lv_goto (tgt := 132) cx.1 cx.2.1 dX7_lives_102 (by decide) ?_
              refine lv_isub cx.1 cx.2.1 dX7_lives_132 ?_
              refine lv_istore_n (lv' := [(1, .int ((sm + (((g_X7_finds S) 13 3) * (((g_X7_finds S) 9) i))) - 2)), (2, .int (nI i)), (0, .ref (ad 0))]) cx.1 cx.2.1 dX7_lives_133 rfl hl (by decide) rfl (fun ls hl => ?_)
              refine lv_iinc (v := nI (i + 1)) (lv' := [(2, .int (nI (i + 1))), (1, .int ((sm + (((g_X7_finds S) 13 3) * (((g_X7_finds S) 9) i))) - 2)), (0, .ref (ad 0))]) cx.1 cx.2.1 dX7_lives_134 hl (k := 1) rfl (nI_1 i) (by decide) rfl (fun ls hl => ?_)
              refine lv_goto (tgt := 18) cx.1 cx.2.1 dX7_lives_137 (by decide) ?_
              have ha18 : lp_X7_lives_18 S (-((((g_X7_finds S) 13 1) + 99) / 100)) (i + 1) = (sm + (((g_X7_finds S) 13 3) * (((g_X7_finds S) 9) i))) - 2 := by
                show bd_X7_lives_18 S i (lp_X7_lives_18 S (-((((g_X7_finds S) 13 1) + 99) / 100)) i) = _
                rw [hacc18]
                unfold bd_X7_lives_18
                rw [if_neg (not_not_intro c3), if_pos c13, if_neg (not_not_intro c14)]
              exact ih18 (i + 1) ((sm + (((g_X7_finds S) 13 3) * (((g_X7_finds S) 9) i))) - 2) (by omega) ha18  (by omega) _ _ ls hP hS (lv_sub hl [0, 1, 2] rfl)
          · refine lv_iconst (v := 1) cx.1 cx.2.1 dX7_lives_87 (by decide) ?_
            refine lv_goto (tgt := 132) cx.1 cx.2.1 dX7_lives_88 (by decide) ?_
            refine lv_isub cx.1 cx.2.1 dX7_lives_132 ?_
            refine lv_istore_n (lv' := [(1, .int ((sm + (((g_X7_finds S) 13 3) * (((g_X7_finds S) 9) i))) - 1)), (2, .int (nI i)), (0, .ref (ad 0))]) cx.1 cx.2.1 dX7_lives_133 rfl hl (by decide) rfl (fun ls hl => ?_)
            refine lv_iinc (v := nI (i + 1)) (lv' := [(2, .int (nI (i + 1))), (1, .int ((sm + (((g_X7_finds S) 13 3) * (((g_X7_finds S) 9) i))) - 1)), (0, .ref (ad 0))]) cx.1 cx.2.1 dX7_lives_134 hl (k := 1) rfl (nI_1 i) (by decide) rfl (fun ls hl => ?_)
            refine lv_goto (tgt := 18) cx.1 cx.2.1 dX7_lives_137 (by decide) ?_
            have ha18 : lp_X7_lives_18 S (-((((g_X7_finds S) 13 1) + 99) / 100)) (i + 1) = (sm + (((g_X7_finds S) 13 3) * (((g_X7_finds S) 9) i))) - 1 := by
              show bd_X7_lives_18 S i (lp_X7_lives_18 S (-((((g_X7_finds S) 13 1) + 99) / 100)) i) = _
              rw [hacc18]
              unfold bd_X7_lives_18
              rw [if_neg (not_not_intro c3), if_neg (not_not_intro c13)]
            exact ih18 (i + 1) ((sm + (((g_X7_finds S) 13 3) * (((g_X7_finds S) 9) i))) - 1) (by omega) ha18  (by omega) _ _ ls hP hS (lv_sub hl [0, 1, 2] rfl)
  exact lp18 (64 - 0 + 1) 0 (-((((g_X7_finds S) 13 1) + 99) / 100)) (by omega) rfl  (Nat.lt_succ_self _) _ _ ls hP hS (lv_sub hl [0, 1, 2] rfl)

def bd_X7_pass_31 (S : zS) (xm : Int32) (i : Nat) (T31 : zS) : zS := (g_X7_lives T31)
def lp_X7_pass_31 (S : zS) (xm : Int32) (T310 : zS) : Nat → zS
  | 0 => (T310)
  | q + 1 => bd_X7_pass_31 S xm q (lp_X7_pass_31 S xm T310 q)
def f_X7_pass (S : zS) (xm : Int32) : Int32 := if (f_X7_isIn xm 1 12) = 0 then 0 else (((lp_X7_pass_31 S xm (zUp S 13 (upd (S 13) 5 0)) xm.toNatClampNeg) 13 0) - (upd (S 13) 5 0 0))
def g_X7_pass (S : zS) (xm : Int32) : zS := if (f_X7_isIn xm 1 12) = 0 then zUp S 13 (upd (S 13) 5 1) else ((lp_X7_pass_31 S xm (zUp S 13 (upd (S 13) 5 0)) xm.toNatClampNeg))
theorem fr_bd_X7_pass_31 (S : zS) (xm : Int32) (i : Nat) (T31 : zS) (r : Nat) (h1 : r ≠ 1) (h10 : r ≠ 10) (h11 : r ≠ 11) (h12 : r ≠ 12) (h13 : r ≠ 13) (h2 : r ≠ 2) (h3 : r ≠ 3) (h4 : r ≠ 4) (h5 : r ≠ 5) (h6 : r ≠ 6) (h7 : r ≠ 7) (h8 : r ≠ 8) (h9 : r ≠ 9) : (bd_X7_pass_31 S xm i T31) r = T31 r := by
  unfold bd_X7_pass_31
  (repeat' split) <;> simp [zUp, h1, h10, h11, h12, h13, h2, h3, h4, h5, h6, h7, h8, h9, fr_X7_lives]
theorem fr_lp_X7_pass_31 (S : zS) (xm : Int32) (T310 : zS) (r : Nat) (h1 : r ≠ 1) (h10 : r ≠ 10) (h11 : r ≠ 11) (h12 : r ≠ 12) (h13 : r ≠ 13) (h2 : r ≠ 2) (h3 : r ≠ 3) (h4 : r ≠ 4) (h5 : r ≠ 5) (h6 : r ≠ 6) (h7 : r ≠ 7) (h8 : r ≠ 8) (h9 : r ≠ 9) : ∀ n, (lp_X7_pass_31 S xm T310 n) r = T310 r
  | 0 => rfl
  | n + 1 => by
    show (bd_X7_pass_31 S xm n (lp_X7_pass_31 S xm T310 n)) r = _
    rw [fr_bd_X7_pass_31 _ _ _ _ r h1 h10 h11 h12 h13 h2 h3 h4 h5 h6 h7 h8 h9]
    exact fr_lp_X7_pass_31 S xm T310 r h1 h10 h11 h12 h13 h2 h3 h4 h5 h6 h7 h8 h9 n
theorem fr_X7_pass (S : zS) (xm : Int32) (r : Nat) (h1 : r ≠ 1) (h10 : r ≠ 10) (h11 : r ≠ 11) (h12 : r ≠ 12) (h13 : r ≠ 13) (h2 : r ≠ 2) (h3 : r ≠ 3) (h4 : r ≠ 4) (h5 : r ≠ 5) (h6 : r ≠ 6) (h7 : r ≠ 7) (h8 : r ≠ 8) (h9 : r ≠ 9) : g_X7_pass S xm r = S r := by
  unfold g_X7_pass
  (repeat' split) <;> simp [zUp, h1, h10, h11, h12, h13, h2, h3, h4, h5, h6, h7, h8, h9, fr_X7_lives, fr_lp_X7_pass_31]
set_option maxHeartbeats 1000000 in
set_option maxRecDepth 100000 in
theorem c_X7_pass (l : Launch) (dC : Nat → ClassId) (dI : Nat → Nat → Nat) (cyI cyZ : ClassId) (ad : Nat → Nat) (hI : zI ad 14) (S : zS) (xm : Int32) : zMi l (dC, dI) [(cyI, .int), (cyZ, .boolean)] ad 14 (fun _ _ => True) (mw cyI cyZ ad) yX7_pass wsX7_pass ({ frames := 5, cells := 0, slots := 0, locals := 117 } : Room) [.ref (ad 0), .int xm] S (fun v T => v = f_X7_pass S xm ∧ T = g_X7_pass S xm) := by
  refine zStartI (by decide) rfl (Nat.le_of_ble_eq_true rfl) ?_
  intro p e s m args below meth c ls cx hrt hlk hP hK hXs hl
  have hl : lv_has ls 4 [(0, .ref (ad 0)), (1, .int xm)] := hl
  have hS : va_S (zA ad 14 s.heap.size) s.heap s.heap [] := va_S.rf
  have hinX7 : ∀ w ∈ u_ws RX7 TX7 19, w ∈ wsX7_pass := by decide +kernel
  obtain ⟨Q, hQ⟩ : ∃ Q, Q = MQ below (zQi (dC, dI) (mw cyI cyZ ad) (fun v T => v = f_X7_pass S xm ∧ T = g_X7_pass S xm) (zA ad 14 s.heap.size)) args s 0 0 (zA ad 14 s.heap.size) := ⟨_, rfl⟩
  rw [← hQ]
  refine lv_aload_n cx.1 cx.2.1 dX7_pass_0 rfl (lv_at hl 0 rfl) ?_
  refine lv_iload_n cx.1 cx.2.1 dX7_pass_1 rfl (lv_at hl 1 rfl) ?_
  refine lv_iconst (v := 1) cx.1 cx.2.1 dX7_pass_2 (by decide) ?_
  refine lv_bipush (v := 12) cx.1 cx.2.1 dX7_pass_3 (by decide) ?_
  refine zThenIx (v := f_X7_isIn xm 1 12) (S' := S) hS (zRunS (As := [.int xm, .int 1, .int 12]) (rest := [.ref (ad 0)]) _ 3 cx (c_X7_isIn l dC dI cyI cyZ ad hI S xm 1 12) gX7_pass_X7_isIn rfl ⟨rfl, rfl⟩ (by decide +kernel) ⟨Nat.le_of_ble_eq_true rfl, Nat.le_of_ble_eq_true rfl⟩ (zX_true) trivial hK hP hS rfl hl.1 rfl (Nat.le_of_ble_eq_true rfl) dX7_pass_5 ⟨Nat.zero_le _, Nat.zero_le _⟩) (fun H locs hP hS => ?_)
  refine lv_if_eq (tgt := 15) cx.1 cx.2.1 dX7_pass_8 (by decide) (fun c1 => ?_) (fun c1 => ?_)
  · refine lv_iconst (v := 1) cx.1 cx.2.1 dX7_pass_15 (by decide) ?_
    refine zThenIx (v := f_X7_fails S 1) (S' := zUp S 13 (upd (S 13) 5 1)) hS (zRunV (As := [.int 1]) (rest := []) _ 1 cx (c_X7_fails l dC dI cyI cyZ ad hI S 1) gX7_pass_X7_fails rfl ⟨rfl, rfl⟩ (by decide +kernel) ⟨Nat.le_of_ble_eq_true rfl, Nat.le_of_ble_eq_true rfl⟩ (zX_true) trivial hK hP hS 0 rfl rfl rfl rfl hl.1 rfl (Nat.le_of_ble_eq_true rfl) dX7_pass_16 ⟨Nat.zero_le _, Nat.zero_le _⟩) (fun H locs hP hS => ?_)
    rw [fails_1]
    refine lv_if_eq (tgt := 24) cx.1 cx.2.1 dX7_pass_19 (by decide) (fun c2 => ?_) (fun c2 => ?_)
    · exact absurd c2 (by decide)
    refine lv_iconst (v := 0) cx.1 cx.2.1 dX7_pass_22 (by decide) ?_
    rw [hQ]
    exact zRetI (v := 0) cx hrt hlk rfl hS hP ⟨(by unfold f_X7_pass; rw [if_pos c1]), (by unfold g_X7_pass; rw [if_pos c1])⟩ dX7_pass_23
  · refine lv_iconst (v := 0) cx.1 cx.2.1 dX7_pass_11 (by decide) ?_
    refine lv_goto (tgt := 16) cx.1 cx.2.1 dX7_pass_12 (by decide) ?_
    refine zThenIx (v := f_X7_fails S 0) (S' := zUp S 13 (upd (S 13) 5 0)) hS (zRunV (As := [.int 0]) (rest := []) _ 1 cx (c_X7_fails l dC dI cyI cyZ ad hI S 0) gX7_pass_X7_fails rfl ⟨rfl, rfl⟩ (by decide +kernel) ⟨Nat.le_of_ble_eq_true rfl, Nat.le_of_ble_eq_true rfl⟩ (zX_true) trivial hK hP hS 0 rfl rfl rfl rfl hl.1 rfl (Nat.le_of_ble_eq_true rfl) dX7_pass_16 ⟨Nat.zero_le _, Nat.zero_le _⟩) (fun H locs hP hS => ?_)
    rw [fails_0]
    refine lv_if_eq (tgt := 24) cx.1 cx.2.1 dX7_pass_19 (by decide) (fun c3 => ?_) (fun c3 => ?_)
    rotate_left
    · exact absurd c3 (by decide)
    refine lv_aload_n cx.1 cx.2.1 dX7_pass_24 rfl (lv_at hl 0 rfl) ?_
    refine zGet (v := .int (upd (S 13) 5 0 0)) (own := RX7) cx hinX7 hK hP 0 rfl rfl 0 (by decide) (by decide +kernel) rfl rfl dX7_pass_25 ?_
    refine lv_istore_n (lv' := [(2, .int (upd (S 13) 5 0 0)), (0, .ref (ad 0)), (1, .int xm)]) cx.1 cx.2.1 dX7_pass_28 rfl hl (by decide) rfl (fun ls hl => ?_)
    refine lv_iconst (v := 0) cx.1 cx.2.1 dX7_pass_29 (by decide) ?_
    refine lv_istore_n (lv' := [(3, .int 0), (2, .int (upd (S 13) 5 0 0)), (0, .ref (ad 0)), (1, .int xm)]) cx.1 cx.2.1 dX7_pass_30 rfl hl (by decide) rfl (fun ls hl => ?_)
    have hbm : xm.toNatClampNeg < 2 ^ 31 := clamp_lt _
    have lp31 : ∀ (fu i : Nat) (T31 : zS) (hi31 : i ≤ xm.toNatClampNeg) (hacc31 : lp_X7_pass_31 S xm (zUp S 13 (upd (S 13) 5 0)) i = T31)  (_ : xm.toNatClampNeg - i < fu) (H : Heap) (locs : List Loc) (ls : Array Slot), va_P (dC, dI) vwCl (mw cyI cyZ ad T31) H → va_S (zA ad 14 s.heap.size) s.heap H locs → lv_has ls 4 [(3, .int (nI i)), (2, .int (upd (S 13) 5 0 0)), (0, .ref (ad 0)), (1, .int xm)] → W p l e (headSpec wsX7_pass ({ frames := 5, cells := 0, slots := 0, locals := 117 } : Room)).room s m args below meth c H locs 0 0 Q (F0 m 31 ls []) := by
      intro fu
      induction fu with
      | zero => intro i T31 hi31 hacc31  hm; exact absurd hm (Nat.not_lt_zero _)
      | succ fu ih31 =>
        intro i T31 hi31 hacc31  hm H locs ls hP hS hl
        refine lv_iload_n cx.1 cx.2.1 dX7_pass_31 rfl (lv_at hl 0 rfl) ?_
        refine lv_iload_n cx.1 cx.2.1 dX7_pass_32 rfl (lv_at hl 3 rfl) ?_
        refine lv_icmp_ge (tgt := 46) cx.1 cx.2.1 dX7_pass_33 (by decide) (fun c4 => ?_) (fun c4 => ?_)
        · have nc4 : xm.toNatClampNeg ≤ i := (nI_leC (x := xm) (i := i) (by omega)).mp c4
          obtain rfl : i = xm.toNatClampNeg := by omega
          have hz0 : (lp_X7_pass_31 S xm (zUp S 13 (upd (S 13) 5 0)) xm.toNatClampNeg) = T31 := hacc31
          obtain ⟨N6, hN6⟩ : ∃ Z : zS, (lp_X7_pass_31 S xm (zUp S 13 (upd (S 13) 5 0)) xm.toNatClampNeg) = Z := ⟨_, rfl⟩
          rw [hN6] at hz0
          subst hz0
          refine lv_aload_n cx.1 cx.2.1 dX7_pass_46 rfl (lv_at hl 2 rfl) ?_
          refine zGet (v := .int (N6 13 0)) (own := RX7) cx hinX7 hK hP 0 rfl rfl 0 (by decide) (by decide +kernel) rfl rfl dX7_pass_47 ?_
          refine lv_iload_n cx.1 cx.2.1 dX7_pass_50 rfl (lv_at hl 1 rfl) ?_
          refine lv_isub cx.1 cx.2.1 dX7_pass_51 ?_
          subst hN6
          rw [hQ]
          exact zRetI (v := ((lp_X7_pass_31 S xm (zUp S 13 (upd (S 13) 5 0)) xm.toNatClampNeg) 13 0) - (upd (S 13) 5 0 0)) cx hrt hlk rfl hS hP ⟨(by unfold f_X7_pass; rw [if_neg c1]), (by unfold g_X7_pass; rw [if_neg c1])⟩ dX7_pass_52
        · have nc4 : ¬ xm.toNatClampNeg ≤ i := fun z => c4 ((nI_leC (x := xm) (i := i) (by omega)).mpr z)
          refine lv_aload_n cx.1 cx.2.1 dX7_pass_36 rfl (lv_at hl 2 rfl) ?_
          refine zThenVx (S' := g_X7_lives T31) hS (zRunV (As := []) (rest := []) _ 0 cx (c_X7_lives l dC dI cyI cyZ ad hI T31 ) gX7_pass_X7_lives rfl ⟨rfl, rfl⟩ (by decide +kernel) ⟨Nat.le_of_ble_eq_true rfl, Nat.le_of_ble_eq_true rfl⟩ (zX_true) trivial hK hP hS 0 rfl rfl rfl rfl hl.1 rfl (Nat.le_of_ble_eq_true rfl) dX7_pass_37 ⟨Nat.zero_le _, Nat.zero_le _⟩) (fun H locs hP hS => ?_)
          obtain ⟨N5, hN5⟩ : ∃ T : zS, g_X7_lives T31 = T := ⟨_, rfl⟩
          rw [hN5] at hP
          refine lv_iinc (v := nI (i + 1)) (lv' := [(3, .int (nI (i + 1))), (2, .int (upd (S 13) 5 0 0)), (0, .ref (ad 0)), (1, .int xm)]) cx.1 cx.2.1 dX7_pass_40 hl (k := 0) rfl (nI_1 i) (by decide) rfl (fun ls hl => ?_)
          refine lv_goto (tgt := 31) cx.1 cx.2.1 dX7_pass_43 (by decide) ?_
          subst hN5
          have ha31 : lp_X7_pass_31 S xm (zUp S 13 (upd (S 13) 5 0)) (i + 1) = (g_X7_lives T31) := by
            show bd_X7_pass_31 S xm i (lp_X7_pass_31 S xm (zUp S 13 (upd (S 13) 5 0)) i) = _
            rw [hacc31]
            unfold bd_X7_pass_31
            rfl
          exact ih31 (i + 1) (g_X7_lives T31) (by omega) ha31  (by omega) _ _ ls hP hS (lv_sub hl [0, 1, 2, 3] rfl)
    exact lp31 (xm.toNatClampNeg - 0 + 1) 0 (zUp S 13 (upd (S 13) 5 0)) (by omega) rfl  (Nat.lt_succ_self _) _ _ ls hP hS (lv_sub hl [0, 1, 2, 3] rfl)

def f_X7_misses (S : zS) (xi : Int32) : Int32 := if (f_X7_isCell xi) = 0 then (if (f_X7_isCell xi) = 0 then 1 else (0)) else (if (f_X7_isCell xi) = 0 then 1 else (0))
def g_X7_misses (S : zS) (xi : Int32) : zS := if (f_X7_isCell xi) = 0 then (if (f_X7_isCell xi) = 0 then zUp S 13 (upd (S 13) 5 1) else (zUp S 13 (upd (S 13) 5 0))) else (if (f_X7_isCell xi) = 0 then zUp (g_X7_finds S) 13 (upd ((g_X7_finds S) 13) 5 1) else (zUp (g_X7_finds S) 13 (upd ((g_X7_finds S) 13) 5 0)))
theorem fr_X7_misses (S : zS) (xi : Int32) (r : Nat) (h10 : r ≠ 10) (h11 : r ≠ 11) (h13 : r ≠ 13) (h2 : r ≠ 2) (h3 : r ≠ 3) (h4 : r ≠ 4) (h5 : r ≠ 5) (h6 : r ≠ 6) (h7 : r ≠ 7) (h8 : r ≠ 8) (h9 : r ≠ 9) : g_X7_misses S xi r = S r := by
  unfold g_X7_misses
  (repeat' split) <;> simp [zUp, h10, h11, h13, h2, h3, h4, h5, h6, h7, h8, h9, fr_X7_finds]
set_option maxHeartbeats 1000000 in
set_option maxRecDepth 100000 in
theorem c_X7_misses (l : Launch) (dC : Nat → ClassId) (dI : Nat → Nat → Nat) (cyI cyZ : ClassId) (ad : Nat → Nat) (hI : zI ad 14) (S : zS) (xi : Int32) : zMi l (dC, dI) [(cyI, .int), (cyZ, .boolean)] ad 14 (fun _ _ => True) (mw cyI cyZ ad) yX7_misses wsX7_misses ({ frames := 4, cells := 0, slots := 0, locals := 95 } : Room) [.ref (ad 0), .int xi] S (fun v T => v = f_X7_misses S xi ∧ T = g_X7_misses S xi) := by
  refine zStartI (by decide) rfl (Nat.le_of_ble_eq_true rfl) ?_
  intro p e s m args below meth c ls cx hrt hlk hP hK hXs hl
  have hl : lv_has ls 3 [(0, .ref (ad 0)), (1, .int xi)] := hl
  have hS : va_S (zA ad 14 s.heap.size) s.heap s.heap [] := va_S.rf
  refine lv_iload_n cx.1 cx.2.1 dX7_misses_0 rfl (lv_at hl 1 rfl) ?_
  refine zThenIx (v := f_X7_isCell xi) (S' := S) hS (zRunS (As := [.int xi]) (rest := []) _ 1 cx (c_X7_isCell l dC dI cyI cyZ ad hI S xi) gX7_misses_X7_isCell rfl ⟨rfl, rfl⟩ (by decide +kernel) ⟨Nat.le_of_ble_eq_true rfl, Nat.le_of_ble_eq_true rfl⟩ (zX_true) trivial hK hP hS rfl hl.1 rfl (Nat.le_of_ble_eq_true rfl) dX7_misses_1 ⟨Nat.zero_le _, Nat.zero_le _⟩) (fun H locs hP hS => ?_)
  refine lv_istore_n (lv' := [(2, .int (f_X7_isCell xi)), (0, .ref (ad 0)), (1, .int xi)]) cx.1 cx.2.1 dX7_misses_4 rfl hl (by decide) rfl (fun ls hl => ?_)
  refine lv_iload_n cx.1 cx.2.1 dX7_misses_5 rfl (lv_at hl 0 rfl) ?_
  refine lv_if_eq (tgt := 13) cx.1 cx.2.1 dX7_misses_6 (by decide) (fun c1 => ?_) (fun c1 => ?_)
  · refine lv_aload_n cx.1 cx.2.1 dX7_misses_13 rfl (lv_at hl 1 rfl) ?_
    refine lv_iload_n cx.1 cx.2.1 dX7_misses_14 rfl (lv_at hl 0 rfl) ?_
    refine lv_if_eq (tgt := 22) cx.1 cx.2.1 dX7_misses_15 (by decide) (fun c2 => ?_) (fun c2 => ?_)
    · refine lv_iconst (v := 1) cx.1 cx.2.1 dX7_misses_22 (by decide) ?_
      refine zThenIx (v := f_X7_fails S 1) (S' := zUp S 13 (upd (S 13) 5 1)) hS (zRunV (As := [.int 1]) (rest := []) _ 1 cx (c_X7_fails l dC dI cyI cyZ ad hI S 1) gX7_misses_X7_fails rfl ⟨rfl, rfl⟩ (by decide +kernel) ⟨Nat.le_of_ble_eq_true rfl, Nat.le_of_ble_eq_true rfl⟩ (zX_true) trivial hK hP hS 0 rfl rfl rfl rfl hl.1 rfl (Nat.le_of_ble_eq_true rfl) dX7_misses_23 ⟨Nat.zero_le _, Nat.zero_le _⟩) (fun H locs hP hS => ?_)
      rw [fails_1]
      exact zRetI (v := 1) cx hrt hlk (by first | rfl | (unfold f_X7_fails; (repeat' split) <;> rfl)) hS hP ⟨(by unfold f_X7_misses; rw [if_pos c1, if_pos c2]), (by unfold g_X7_misses; rw [if_pos c1, if_pos c2])⟩ dX7_misses_26
    · refine lv_iconst (v := 0) cx.1 cx.2.1 dX7_misses_18 (by decide) ?_
      refine lv_goto (tgt := 23) cx.1 cx.2.1 dX7_misses_19 (by decide) ?_
      refine zThenIx (v := f_X7_fails S 0) (S' := zUp S 13 (upd (S 13) 5 0)) hS (zRunV (As := [.int 0]) (rest := []) _ 1 cx (c_X7_fails l dC dI cyI cyZ ad hI S 0) gX7_misses_X7_fails rfl ⟨rfl, rfl⟩ (by decide +kernel) ⟨Nat.le_of_ble_eq_true rfl, Nat.le_of_ble_eq_true rfl⟩ (zX_true) trivial hK hP hS 0 rfl rfl rfl rfl hl.1 rfl (Nat.le_of_ble_eq_true rfl) dX7_misses_23 ⟨Nat.zero_le _, Nat.zero_le _⟩) (fun H locs hP hS => ?_)
      rw [fails_0]
      exact zRetI (v := 0) cx hrt hlk (by first | rfl | (unfold f_X7_fails; (repeat' split) <;> rfl)) hS hP ⟨(by unfold f_X7_misses; rw [if_pos c1, if_neg c2]), (by unfold g_X7_misses; rw [if_pos c1, if_neg c2])⟩ dX7_misses_26
  · refine lv_aload_n cx.1 cx.2.1 dX7_misses_9 rfl (lv_at hl 1 rfl) ?_
    refine zThenVx (S' := g_X7_finds S) hS (zRunV (As := []) (rest := []) _ 0 cx (c_X7_finds l dC dI cyI cyZ ad hI S ) gX7_misses_X7_finds rfl ⟨rfl, rfl⟩ (by decide +kernel) ⟨Nat.le_of_ble_eq_true rfl, Nat.le_of_ble_eq_true rfl⟩ (zX_true) trivial hK hP hS 0 rfl rfl rfl rfl hl.1 rfl (Nat.le_of_ble_eq_true rfl) dX7_misses_10 ⟨Nat.zero_le _, Nat.zero_le _⟩) (fun H locs hP hS => ?_)
    obtain ⟨N3, hN3⟩ : ∃ T : zS, g_X7_finds S = T := ⟨_, rfl⟩
    rw [hN3] at hP
    refine lv_aload_n cx.1 cx.2.1 dX7_misses_13 rfl (lv_at hl 1 rfl) ?_
    refine lv_iload_n cx.1 cx.2.1 dX7_misses_14 rfl (lv_at hl 0 rfl) ?_
    refine lv_if_eq (tgt := 22) cx.1 cx.2.1 dX7_misses_15 (by decide) (fun c4 => ?_) (fun c4 => ?_)
    · refine lv_iconst (v := 1) cx.1 cx.2.1 dX7_misses_22 (by decide) ?_
      refine zThenIx (v := f_X7_fails N3 1) (S' := zUp N3 13 (upd (N3 13) 5 1)) hS (zRunV (As := [.int 1]) (rest := []) _ 1 cx (c_X7_fails l dC dI cyI cyZ ad hI N3 1) gX7_misses_X7_fails rfl ⟨rfl, rfl⟩ (by decide +kernel) ⟨Nat.le_of_ble_eq_true rfl, Nat.le_of_ble_eq_true rfl⟩ (zX_true) trivial hK hP hS 0 rfl rfl rfl rfl hl.1 rfl (Nat.le_of_ble_eq_true rfl) dX7_misses_23 ⟨Nat.zero_le _, Nat.zero_le _⟩) (fun H locs hP hS => ?_)
      rw [fails_1]
      subst hN3
      exact zRetI (v := 1) cx hrt hlk (by first | rfl | (unfold f_X7_fails; (repeat' split) <;> rfl)) hS hP ⟨(by unfold f_X7_misses; rw [if_neg c1, if_pos c4]), (by unfold g_X7_misses; rw [if_neg c1, if_pos c4])⟩ dX7_misses_26
    · refine lv_iconst (v := 0) cx.1 cx.2.1 dX7_misses_18 (by decide) ?_
      refine lv_goto (tgt := 23) cx.1 cx.2.1 dX7_misses_19 (by decide) ?_
      refine zThenIx (v := f_X7_fails N3 0) (S' := zUp N3 13 (upd (N3 13) 5 0)) hS (zRunV (As := [.int 0]) (rest := []) _ 1 cx (c_X7_fails l dC dI cyI cyZ ad hI N3 0) gX7_misses_X7_fails rfl ⟨rfl, rfl⟩ (by decide +kernel) ⟨Nat.le_of_ble_eq_true rfl, Nat.le_of_ble_eq_true rfl⟩ (zX_true) trivial hK hP hS 0 rfl rfl rfl rfl hl.1 rfl (Nat.le_of_ble_eq_true rfl) dX7_misses_23 ⟨Nat.zero_le _, Nat.zero_le _⟩) (fun H locs hP hS => ?_)
      rw [fails_0]
      subst hN3
      exact zRetI (v := 0) cx hrt hlk (by first | rfl | (unfold f_X7_fails; (repeat' split) <;> rfl)) hS hP ⟨(by unfold f_X7_misses; rw [if_neg c1, if_neg c4]), (by unfold g_X7_misses; rw [if_neg c1, if_neg c4])⟩ dX7_misses_26

def f_X7_build (S : zS) (xi : Int32) (xw : Int32) : Int32 := if ¬ (f_X7_isCell xi) = 0 then (if ¬ (f_X7_isIn xw 1 6) = 0 then (if ¬ (S 0 xi.toNatClampNeg) = 0 then 0 else (if (f_X7_costOf xw) ≤ (S 13 0) then upd ((zUp (zUp (zUp S 13 (upd (S 13) 5 0)) 0 (upd (S 0) xi.toNatClampNeg xw)) 1 (upd (S 1) xi.toNatClampNeg 0)) 13) 0 (((zUp (zUp (zUp S 13 (upd (S 13) 5 0)) 0 (upd (S 0) xi.toNatClampNeg xw)) 1 (upd (S 1) xi.toNatClampNeg 0)) 13 0) - (f_X7_costOf xw)) 0 else (0))) else (0)) else (0)
def g_X7_build (S : zS) (xi : Int32) (xw : Int32) : zS := if ¬ (f_X7_isCell xi) = 0 then (if ¬ (f_X7_isIn xw 1 6) = 0 then (if ¬ (S 0 xi.toNatClampNeg) = 0 then zUp S 13 (upd (S 13) 5 3) else (if (f_X7_costOf xw) ≤ (S 13 0) then zUp (zUp (zUp (zUp S 13 (upd (S 13) 5 0)) 0 (upd (S 0) xi.toNatClampNeg xw)) 1 (upd (S 1) xi.toNatClampNeg 0)) 13 (upd ((zUp (zUp (zUp S 13 (upd (S 13) 5 0)) 0 (upd (S 0) xi.toNatClampNeg xw)) 1 (upd (S 1) xi.toNatClampNeg 0)) 13) 0 (((zUp (zUp (zUp S 13 (upd (S 13) 5 0)) 0 (upd (S 0) xi.toNatClampNeg xw)) 1 (upd (S 1) xi.toNatClampNeg 0)) 13 0) - (f_X7_costOf xw))) else (zUp S 13 (upd (S 13) 5 3)))) else (zUp S 13 (upd (S 13) 5 2))) else (zUp S 13 (upd (S 13) 5 1))
theorem fr_X7_build (S : zS) (xi : Int32) (xw : Int32) (r : Nat) (h0 : r ≠ 0) (h1 : r ≠ 1) (h13 : r ≠ 13) : g_X7_build S xi xw r = S r := by
  unfold g_X7_build
  (repeat' split) <;> simp [zUp, h0, h1, h13]
set_option maxHeartbeats 1000000 in
set_option maxRecDepth 100000 in
theorem c_X7_build (l : Launch) (dC : Nat → ClassId) (dI : Nat → Nat → Nat) (cyI cyZ : ClassId) (ad : Nat → Nat) (hI : zI ad 14) (S : zS) (xi : Int32) (xw : Int32) : zMi l (dC, dI) [(cyI, .int), (cyZ, .boolean)] ad 14 (fun _ _ => True) (mw cyI cyZ ad) yX7_build wsX7_build ({ frames := 2, cells := 0, slots := 0, locals := 42 } : Room) [.ref (ad 0), .int xi, .int xw] S (fun v T => v = f_X7_build S xi xw ∧ T = g_X7_build S xi xw) := by
  refine zStartI (by decide) rfl (Nat.le_of_ble_eq_true rfl) ?_
  intro p e s m args below meth c ls cx hrt hlk hP hK hXs hl
  have hl : lv_has ls 5 [(0, .ref (ad 0)), (1, .int xi), (2, .int xw)] := hl
  have hS : va_S (zA ad 14 s.heap.size) s.heap s.heap [] := va_S.rf
  have hinX7 : ∀ w ∈ u_ws RX7 TX7 19, w ∈ wsX7_build := by decide +kernel
  refine lv_iload_n cx.1 cx.2.1 dX7_build_0 rfl (lv_at hl 1 rfl) ?_
  refine zThenIx (v := f_X7_isCell xi) (S' := S) hS (zRunS (As := [.int xi]) (rest := []) _ 1 cx (c_X7_isCell l dC dI cyI cyZ ad hI S xi) gX7_build_X7_isCell rfl ⟨rfl, rfl⟩ (by decide +kernel) ⟨Nat.le_of_ble_eq_true rfl, Nat.le_of_ble_eq_true rfl⟩ (zX_true) trivial hK hP hS rfl hl.1 rfl (Nat.le_of_ble_eq_true rfl) dX7_build_1 ⟨Nat.zero_le _, Nat.zero_le _⟩) (fun H locs hP hS => ?_)
  refine lv_istore_n (lv' := [(3, .int (f_X7_isCell xi)), (0, .ref (ad 0)), (1, .int xi), (2, .int xw)]) cx.1 cx.2.1 dX7_build_4 rfl hl (by decide) rfl (fun ls hl => ?_)
  refine lv_iload_n cx.1 cx.2.1 dX7_build_5 rfl (lv_at hl 3 rfl) ?_
  refine lv_iconst (v := 1) cx.1 cx.2.1 dX7_build_6 (by decide) ?_
  refine lv_bipush (v := 6) cx.1 cx.2.1 dX7_build_7 (by decide) ?_
  refine zThenIx (v := f_X7_isIn xw 1 6) (S' := S) hS (zRunS (As := [.int xw, .int 1, .int 6]) (rest := []) _ 3 cx (c_X7_isIn l dC dI cyI cyZ ad hI S xw 1 6) gX7_build_X7_isIn rfl ⟨rfl, rfl⟩ (by decide +kernel) ⟨Nat.le_of_ble_eq_true rfl, Nat.le_of_ble_eq_true rfl⟩ (zX_true) trivial hK hP hS rfl hl.1 rfl (Nat.le_of_ble_eq_true rfl) dX7_build_9 ⟨Nat.zero_le _, Nat.zero_le _⟩) (fun H locs hP hS => ?_)
  refine lv_istore (lv' := [(4, .int (f_X7_isIn xw 1 6)), (3, .int (f_X7_isCell xi)), (0, .ref (ad 0)), (1, .int xi), (2, .int xw)]) cx.1 cx.2.1 dX7_build_12 hl (by decide) rfl (fun ls hl => ?_)
  refine lv_aload_n cx.1 cx.2.1 dX7_build_14 rfl (lv_at hl 2 rfl) ?_
  refine lv_iload_n cx.1 cx.2.1 dX7_build_15 rfl (lv_at hl 1 rfl) ?_
  refine lv_if_ne (tgt := 23) cx.1 cx.2.1 dX7_build_16 (by decide) (fun c1 => ?_) (fun c1 => ?_)
  · refine lv_iload cx.1 cx.2.1 dX7_build_23 (lv_at hl 0 rfl) ?_
    refine lv_if_ne (tgt := 32) cx.1 cx.2.1 dX7_build_25 (by decide) (fun c2 => ?_) (fun c2 => ?_)
    · refine lv_aload_n cx.1 cx.2.1 dX7_build_32 rfl (lv_at hl 2 rfl) ?_
      refine zGet (v := .ref (ad 1)) (own := RX7) cx hinX7 hK hP 0 rfl rfl 5 (by decide) (by decide +kernel) rfl rfl dX7_build_33 ?_
      refine lv_iload_n cx.1 cx.2.1 dX7_build_36 rfl (lv_at hl 3 rfl) ?_
      refine zIld cx hK hP 1 0 rfl rfl (cell_in (by assumption)) dX7_build_37 ?_
      refine lv_if_ne (tgt := 52) cx.1 cx.2.1 dX7_build_38 (by decide) (fun c3 => ?_) (fun c3 => ?_)
      · refine lv_iconst (v := 3) cx.1 cx.2.1 dX7_build_52 (by decide) ?_
        refine lv_goto (tgt := 57) cx.1 cx.2.1 dX7_build_53 (by decide) ?_
        refine zThenIx (v := f_X7_fails S 3) (S' := zUp S 13 (upd (S 13) 5 3)) hS (zRunV (As := [.int 3]) (rest := []) _ 1 cx (c_X7_fails l dC dI cyI cyZ ad hI S 3) gX7_build_X7_fails rfl ⟨rfl, rfl⟩ (by decide +kernel) ⟨Nat.le_of_ble_eq_true rfl, Nat.le_of_ble_eq_true rfl⟩ (zX_true) trivial hK hP hS 0 rfl rfl rfl rfl hl.1 rfl (Nat.le_of_ble_eq_true rfl) dX7_build_57 ⟨Nat.zero_le _, Nat.zero_le _⟩) (fun H locs hP hS => ?_)
        rw [fails_3]
        refine lv_if_eq (tgt := 65) cx.1 cx.2.1 dX7_build_60 (by decide) (fun c4 => ?_) (fun c4 => ?_)
        · exact absurd c4 (by decide)
        refine lv_iconst (v := 0) cx.1 cx.2.1 dX7_build_63 (by decide) ?_
        exact zRetI (v := 0) cx hrt hlk rfl hS hP ⟨(by unfold f_X7_build; rw [if_pos c1, if_pos c2, if_pos c3]), (by unfold g_X7_build; rw [if_pos c1, if_pos c2, if_pos c3])⟩ dX7_build_64
      · refine lv_aload_n cx.1 cx.2.1 dX7_build_41 rfl (lv_at hl 2 rfl) ?_
        refine zGet (v := .int (S 13 0)) (own := RX7) cx hinX7 hK hP 0 rfl rfl 0 (by decide) (by decide +kernel) rfl rfl dX7_build_42 ?_
        refine lv_iload_n cx.1 cx.2.1 dX7_build_45 rfl (lv_at hl 4 rfl) ?_
        refine zThenIx (v := f_X7_costOf xw) (S' := S) hS (zRunS (As := [.int xw]) (rest := [.int (S 13 0), .ref (ad 0)]) _ 1 cx (c_X7_costOf l dC dI cyI cyZ ad hI S xw) gX7_build_X7_costOf rfl ⟨rfl, rfl⟩ (by decide +kernel) ⟨Nat.le_of_ble_eq_true rfl, Nat.le_of_ble_eq_true rfl⟩ (zX_true) trivial hK hP hS rfl hl.1 rfl (Nat.le_of_ble_eq_true rfl) dX7_build_46 ⟨Nat.zero_le _, Nat.zero_le _⟩) (fun H locs hP hS => ?_)
        refine lv_icmp_ge (tgt := 56) cx.1 cx.2.1 dX7_build_49 (by decide) (fun c5 => ?_) (fun c5 => ?_)
        · refine lv_iconst (v := 0) cx.1 cx.2.1 dX7_build_56 (by decide) ?_
          refine zThenIx (v := f_X7_fails S 0) (S' := zUp S 13 (upd (S 13) 5 0)) hS (zRunV (As := [.int 0]) (rest := []) _ 1 cx (c_X7_fails l dC dI cyI cyZ ad hI S 0) gX7_build_X7_fails rfl ⟨rfl, rfl⟩ (by decide +kernel) ⟨Nat.le_of_ble_eq_true rfl, Nat.le_of_ble_eq_true rfl⟩ (zX_true) trivial hK hP hS 0 rfl rfl rfl rfl hl.1 rfl (Nat.le_of_ble_eq_true rfl) dX7_build_57 ⟨Nat.zero_le _, Nat.zero_le _⟩) (fun H locs hP hS => ?_)
          rw [fails_0]
          refine lv_if_eq (tgt := 65) cx.1 cx.2.1 dX7_build_60 (by decide) (fun c6 => ?_) (fun c6 => ?_)
          rotate_left
          · exact absurd c6 (by decide)
          refine lv_aload_n cx.1 cx.2.1 dX7_build_65 rfl (lv_at hl 2 rfl) ?_
          refine zGet (v := .ref (ad 1)) (own := RX7) cx hinX7 hK hP 0 rfl rfl 5 (by decide) (by decide +kernel) rfl rfl dX7_build_66 ?_
          refine lv_iload_n cx.1 cx.2.1 dX7_build_69 rfl (lv_at hl 3 rfl) ?_
          refine lv_iload_n cx.1 cx.2.1 dX7_build_70 rfl (lv_at hl 4 rfl) ?_
          refine zIst cx (mw_W cyI cyZ ad) hI hK hP hS 1 0 rfl rfl (cell_in (by assumption)) (zUp (zUp S 13 (upd (S 13) 5 0)) 0 (upd (S 0) xi.toNatClampNeg xw)) rfl dX7_build_71 (fun H locs hP hS => ?_)
          refine lv_aload_n cx.1 cx.2.1 dX7_build_72 rfl (lv_at hl 2 rfl) ?_
          refine zGet (v := .ref (ad 2)) (own := RX7) cx hinX7 hK hP 0 rfl rfl 6 (by decide) (by decide +kernel) rfl rfl dX7_build_73 ?_
          refine lv_iload_n cx.1 cx.2.1 dX7_build_76 rfl (lv_at hl 3 rfl) ?_
          refine lv_iconst (v := 0) cx.1 cx.2.1 dX7_build_77 (by decide) ?_
          refine zIst cx (mw_W cyI cyZ ad) hI hK hP hS 2 0 rfl rfl (cell_in (by assumption)) (zUp (zUp (zUp S 13 (upd (S 13) 5 0)) 0 (upd (S 0) xi.toNatClampNeg xw)) 1 (upd (S 1) xi.toNatClampNeg 0)) rfl dX7_build_78 (fun H locs hP hS => ?_)
          obtain ⟨N7, hN7⟩ : ∃ T : zS, zUp (zUp (zUp S 13 (upd (S 13) 5 0)) 0 (upd (S 0) xi.toNatClampNeg xw)) 1 (upd (S 1) xi.toNatClampNeg 0) = T := ⟨_, rfl⟩
          rw [hN7] at hP
          refine lv_aload_n cx.1 cx.2.1 dX7_build_79 rfl (lv_at hl 2 rfl) ?_
          refine lv_dup cx.1 cx.2.1 dX7_build_80 rfl ?_
          refine zGet (v := .int (N7 13 0)) (own := RX7) cx hinX7 hK hP 0 rfl rfl 0 (by decide) (by decide +kernel) rfl rfl dX7_build_81 ?_
          refine lv_iload_n cx.1 cx.2.1 dX7_build_84 rfl (lv_at hl 4 rfl) ?_
          refine zThenIx (v := f_X7_costOf xw) (S' := N7) hS (zRunS (As := [.int xw]) (rest := [.int (N7 13 0), .ref (ad 0)]) _ 1 cx (c_X7_costOf l dC dI cyI cyZ ad hI N7 xw) gX7_build_X7_costOf rfl ⟨rfl, rfl⟩ (by decide +kernel) ⟨Nat.le_of_ble_eq_true rfl, Nat.le_of_ble_eq_true rfl⟩ (zX_true) trivial hK hP hS rfl hl.1 rfl (Nat.le_of_ble_eq_true rfl) dX7_build_85 ⟨Nat.zero_le _, Nat.zero_le _⟩) (fun H locs hP hS => ?_)
          refine lv_isub cx.1 cx.2.1 dX7_build_88 ?_
          refine zPut (v := .int ((N7 13 0) - (f_X7_costOf xw))) (own := RX7) (ty0 := tyX7) (ty := .int) cx hinX7 tyX7_ok nmX7 (mw_W cyI cyZ ad) hI hK hP hS 0 rfl rfl 0 (by decide) (by decide +kernel) rfl rfl (by decide +kernel) rfl rfl (Nat.le_of_ble_eq_true rfl) (zUp N7 13 (upd (N7 13) 0 ((N7 13 0) - (f_X7_costOf xw)))) rfl dX7_build_89 (fun H locs hP hS => ?_)
          refine lv_aload_n cx.1 cx.2.1 dX7_build_92 rfl (lv_at hl 2 rfl) ?_
          refine zGet (v := .int (upd (N7 13) 0 ((N7 13 0) - (f_X7_costOf xw)) 0)) (own := RX7) cx hinX7 hK hP 0 rfl rfl 0 (by decide) (by decide +kernel) rfl rfl dX7_build_93 ?_
          subst hN7
          exact zRetI (v := upd ((zUp (zUp (zUp S 13 (upd (S 13) 5 0)) 0 (upd (S 0) xi.toNatClampNeg xw)) 1 (upd (S 1) xi.toNatClampNeg 0)) 13) 0 (((zUp (zUp (zUp S 13 (upd (S 13) 5 0)) 0 (upd (S 0) xi.toNatClampNeg xw)) 1 (upd (S 1) xi.toNatClampNeg 0)) 13 0) - (f_X7_costOf xw)) 0) cx hrt hlk rfl hS hP ⟨(by unfold f_X7_build; rw [if_pos c1, if_pos c2, if_neg (not_not_intro c3), if_pos c5]), (by unfold g_X7_build; rw [if_pos c1, if_pos c2, if_neg (not_not_intro c3), if_pos c5])⟩ dX7_build_96
        · refine lv_iconst (v := 3) cx.1 cx.2.1 dX7_build_52 (by decide) ?_
          refine lv_goto (tgt := 57) cx.1 cx.2.1 dX7_build_53 (by decide) ?_
          refine zThenIx (v := f_X7_fails S 3) (S' := zUp S 13 (upd (S 13) 5 3)) hS (zRunV (As := [.int 3]) (rest := []) _ 1 cx (c_X7_fails l dC dI cyI cyZ ad hI S 3) gX7_build_X7_fails rfl ⟨rfl, rfl⟩ (by decide +kernel) ⟨Nat.le_of_ble_eq_true rfl, Nat.le_of_ble_eq_true rfl⟩ (zX_true) trivial hK hP hS 0 rfl rfl rfl rfl hl.1 rfl (Nat.le_of_ble_eq_true rfl) dX7_build_57 ⟨Nat.zero_le _, Nat.zero_le _⟩) (fun H locs hP hS => ?_)
          rw [fails_3]
          refine lv_if_eq (tgt := 65) cx.1 cx.2.1 dX7_build_60 (by decide) (fun c8 => ?_) (fun c8 => ?_)
          · exact absurd c8 (by decide)
          refine lv_iconst (v := 0) cx.1 cx.2.1 dX7_build_63 (by decide) ?_
          exact zRetI (v := 0) cx hrt hlk rfl hS hP ⟨(by unfold f_X7_build; rw [if_pos c1, if_pos c2, if_neg (not_not_intro c3), if_neg c5]), (by unfold g_X7_build; rw [if_pos c1, if_pos c2, if_neg (not_not_intro c3), if_neg c5])⟩ dX7_build_64
    · refine lv_iconst (v := 2) cx.1 cx.2.1 dX7_build_28 (by decide) ?_
      refine lv_goto (tgt := 57) cx.1 cx.2.1 dX7_build_29 (by decide) ?_
      refine zThenIx (v := f_X7_fails S 2) (S' := zUp S 13 (upd (S 13) 5 2)) hS (zRunV (As := [.int 2]) (rest := []) _ 1 cx (c_X7_fails l dC dI cyI cyZ ad hI S 2) gX7_build_X7_fails rfl ⟨rfl, rfl⟩ (by decide +kernel) ⟨Nat.le_of_ble_eq_true rfl, Nat.le_of_ble_eq_true rfl⟩ (zX_true) trivial hK hP hS 0 rfl rfl rfl rfl hl.1 rfl (Nat.le_of_ble_eq_true rfl) dX7_build_57 ⟨Nat.zero_le _, Nat.zero_le _⟩) (fun H locs hP hS => ?_)
      rw [fails_2]
      refine lv_if_eq (tgt := 65) cx.1 cx.2.1 dX7_build_60 (by decide) (fun c9 => ?_) (fun c9 => ?_)
      · exact absurd c9 (by decide)
      refine lv_iconst (v := 0) cx.1 cx.2.1 dX7_build_63 (by decide) ?_
      exact zRetI (v := 0) cx hrt hlk rfl hS hP ⟨(by unfold f_X7_build; rw [if_pos c1, if_neg (not_not_intro c2)]), (by unfold g_X7_build; rw [if_pos c1, if_neg (not_not_intro c2)])⟩ dX7_build_64
  · refine lv_iconst (v := 1) cx.1 cx.2.1 dX7_build_19 (by decide) ?_
    refine lv_goto (tgt := 57) cx.1 cx.2.1 dX7_build_20 (by decide) ?_
    refine zThenIx (v := f_X7_fails S 1) (S' := zUp S 13 (upd (S 13) 5 1)) hS (zRunV (As := [.int 1]) (rest := []) _ 1 cx (c_X7_fails l dC dI cyI cyZ ad hI S 1) gX7_build_X7_fails rfl ⟨rfl, rfl⟩ (by decide +kernel) ⟨Nat.le_of_ble_eq_true rfl, Nat.le_of_ble_eq_true rfl⟩ (zX_true) trivial hK hP hS 0 rfl rfl rfl rfl hl.1 rfl (Nat.le_of_ble_eq_true rfl) dX7_build_57 ⟨Nat.zero_le _, Nat.zero_le _⟩) (fun H locs hP hS => ?_)
    rw [fails_1]
    refine lv_if_eq (tgt := 65) cx.1 cx.2.1 dX7_build_60 (by decide) (fun c10 => ?_) (fun c10 => ?_)
    · exact absurd c10 (by decide)
    refine lv_iconst (v := 0) cx.1 cx.2.1 dX7_build_63 (by decide) ?_
    exact zRetI (v := 0) cx hrt hlk rfl hS hP ⟨(by unfold f_X7_build; rw [if_neg (not_not_intro c1)]), (by unfold g_X7_build; rw [if_neg (not_not_intro c1)])⟩ dX7_build_64

def f_X7_tear (S : zS) (xi : Int32) : Int32 := if ¬ (f_X7_isCell xi) = 0 then (if (S 0 xi.toNatClampNeg) = 0 then 0 else (if 5 ≤ (S 13 0) then S 0 xi.toNatClampNeg else (0))) else (0)
def g_X7_tear (S : zS) (xi : Int32) : zS := if ¬ (f_X7_isCell xi) = 0 then (if (S 0 xi.toNatClampNeg) = 0 then zUp S 13 (upd (S 13) 5 2) else (if 5 ≤ (S 13 0) then zUp (zUp (zUp (zUp S 13 (upd (S 13) 5 0)) 0 (upd (S 0) xi.toNatClampNeg 0)) 1 (upd (S 1) xi.toNatClampNeg 0)) 13 (upd ((zUp (zUp (zUp S 13 (upd (S 13) 5 0)) 0 (upd (S 0) xi.toNatClampNeg 0)) 1 (upd (S 1) xi.toNatClampNeg 0)) 13) 0 (((zUp (zUp (zUp S 13 (upd (S 13) 5 0)) 0 (upd (S 0) xi.toNatClampNeg 0)) 1 (upd (S 1) xi.toNatClampNeg 0)) 13 0) - 5)) else (zUp S 13 (upd (S 13) 5 2)))) else (zUp S 13 (upd (S 13) 5 1))
theorem fr_X7_tear (S : zS) (xi : Int32) (r : Nat) (h0 : r ≠ 0) (h1 : r ≠ 1) (h13 : r ≠ 13) : g_X7_tear S xi r = S r := by
  unfold g_X7_tear
  (repeat' split) <;> simp [zUp, h0, h1, h13]
set_option maxHeartbeats 1000000 in
set_option maxRecDepth 100000 in
theorem c_X7_tear (l : Launch) (dC : Nat → ClassId) (dI : Nat → Nat → Nat) (cyI cyZ : ClassId) (ad : Nat → Nat) (hI : zI ad 14) (S : zS) (xi : Int32) : zMi l (dC, dI) [(cyI, .int), (cyZ, .boolean)] ad 14 (fun _ _ => True) (mw cyI cyZ ad) yX7_tear wsX7_tear ({ frames := 2, cells := 0, slots := 0, locals := 42 } : Room) [.ref (ad 0), .int xi] S (fun v T => v = f_X7_tear S xi ∧ T = g_X7_tear S xi) := by
  refine zStartI (by decide) rfl (Nat.le_of_ble_eq_true rfl) ?_
  intro p e s m args below meth c ls cx hrt hlk hP hK hXs hl
  have hl : lv_has ls 4 [(0, .ref (ad 0)), (1, .int xi)] := hl
  have hS : va_S (zA ad 14 s.heap.size) s.heap s.heap [] := va_S.rf
  have hinX7 : ∀ w ∈ u_ws RX7 TX7 19, w ∈ wsX7_tear := by decide +kernel
  refine lv_iload_n cx.1 cx.2.1 dX7_tear_0 rfl (lv_at hl 1 rfl) ?_
  refine zThenIx (v := f_X7_isCell xi) (S' := S) hS (zRunS (As := [.int xi]) (rest := []) _ 1 cx (c_X7_isCell l dC dI cyI cyZ ad hI S xi) gX7_tear_X7_isCell rfl ⟨rfl, rfl⟩ (by decide +kernel) ⟨Nat.le_of_ble_eq_true rfl, Nat.le_of_ble_eq_true rfl⟩ (zX_true) trivial hK hP hS rfl hl.1 rfl (Nat.le_of_ble_eq_true rfl) dX7_tear_1 ⟨Nat.zero_le _, Nat.zero_le _⟩) (fun H locs hP hS => ?_)
  refine lv_istore_n (lv' := [(2, .int (f_X7_isCell xi)), (0, .ref (ad 0)), (1, .int xi)]) cx.1 cx.2.1 dX7_tear_4 rfl hl (by decide) rfl (fun ls hl => ?_)
  refine lv_aload_n cx.1 cx.2.1 dX7_tear_5 rfl (lv_at hl 1 rfl) ?_
  refine lv_iload_n cx.1 cx.2.1 dX7_tear_6 rfl (lv_at hl 0 rfl) ?_
  refine lv_if_ne (tgt := 14) cx.1 cx.2.1 dX7_tear_7 (by decide) (fun c1 => ?_) (fun c1 => ?_)
  · refine lv_aload_n cx.1 cx.2.1 dX7_tear_14 rfl (lv_at hl 1 rfl) ?_
    refine zGet (v := .ref (ad 1)) (own := RX7) cx hinX7 hK hP 0 rfl rfl 5 (by decide) (by decide +kernel) rfl rfl dX7_tear_15 ?_
    refine lv_iload_n cx.1 cx.2.1 dX7_tear_18 rfl (lv_at hl 2 rfl) ?_
    refine zIld cx hK hP 1 0 rfl rfl (cell_in (by assumption)) dX7_tear_19 ?_
    refine lv_if_eq (tgt := 31) cx.1 cx.2.1 dX7_tear_20 (by decide) (fun c2 => ?_) (fun c2 => ?_)
    · refine lv_iconst (v := 2) cx.1 cx.2.1 dX7_tear_31 (by decide) ?_
      refine lv_goto (tgt := 36) cx.1 cx.2.1 dX7_tear_32 (by decide) ?_
      refine zThenIx (v := f_X7_fails S 2) (S' := zUp S 13 (upd (S 13) 5 2)) hS (zRunV (As := [.int 2]) (rest := []) _ 1 cx (c_X7_fails l dC dI cyI cyZ ad hI S 2) gX7_tear_X7_fails rfl ⟨rfl, rfl⟩ (by decide +kernel) ⟨Nat.le_of_ble_eq_true rfl, Nat.le_of_ble_eq_true rfl⟩ (zX_true) trivial hK hP hS 0 rfl rfl rfl rfl hl.1 rfl (Nat.le_of_ble_eq_true rfl) dX7_tear_36 ⟨Nat.zero_le _, Nat.zero_le _⟩) (fun H locs hP hS => ?_)
      rw [fails_2]
      refine lv_if_eq (tgt := 44) cx.1 cx.2.1 dX7_tear_39 (by decide) (fun c3 => ?_) (fun c3 => ?_)
      · exact absurd c3 (by decide)
      refine lv_iconst (v := 0) cx.1 cx.2.1 dX7_tear_42 (by decide) ?_
      exact zRetI (v := 0) cx hrt hlk rfl hS hP ⟨(by unfold f_X7_tear; rw [if_pos c1, if_pos c2]), (by unfold g_X7_tear; rw [if_pos c1, if_pos c2])⟩ dX7_tear_43
    · refine lv_aload_n cx.1 cx.2.1 dX7_tear_23 rfl (lv_at hl 1 rfl) ?_
      refine zGet (v := .int (S 13 0)) (own := RX7) cx hinX7 hK hP 0 rfl rfl 0 (by decide) (by decide +kernel) rfl rfl dX7_tear_24 ?_
      refine lv_iconst (v := 5) cx.1 cx.2.1 dX7_tear_27 (by decide) ?_
      refine lv_icmp_ge (tgt := 35) cx.1 cx.2.1 dX7_tear_28 (by decide) (fun c4 => ?_) (fun c4 => ?_)
      · refine lv_iconst (v := 0) cx.1 cx.2.1 dX7_tear_35 (by decide) ?_
        refine zThenIx (v := f_X7_fails S 0) (S' := zUp S 13 (upd (S 13) 5 0)) hS (zRunV (As := [.int 0]) (rest := []) _ 1 cx (c_X7_fails l dC dI cyI cyZ ad hI S 0) gX7_tear_X7_fails rfl ⟨rfl, rfl⟩ (by decide +kernel) ⟨Nat.le_of_ble_eq_true rfl, Nat.le_of_ble_eq_true rfl⟩ (zX_true) trivial hK hP hS 0 rfl rfl rfl rfl hl.1 rfl (Nat.le_of_ble_eq_true rfl) dX7_tear_36 ⟨Nat.zero_le _, Nat.zero_le _⟩) (fun H locs hP hS => ?_)
        rw [fails_0]
        refine lv_if_eq (tgt := 44) cx.1 cx.2.1 dX7_tear_39 (by decide) (fun c5 => ?_) (fun c5 => ?_)
        rotate_left
        · exact absurd c5 (by decide)
        refine lv_aload_n cx.1 cx.2.1 dX7_tear_44 rfl (lv_at hl 1 rfl) ?_
        refine zGet (v := .ref (ad 1)) (own := RX7) cx hinX7 hK hP 0 rfl rfl 5 (by decide) (by decide +kernel) rfl rfl dX7_tear_45 ?_
        refine lv_iload_n cx.1 cx.2.1 dX7_tear_48 rfl (lv_at hl 2 rfl) ?_
        refine zIld cx hK hP 1 0 rfl rfl (cell_in (by assumption)) dX7_tear_49 ?_
        refine lv_istore_n (lv' := [(3, .int (S 0 xi.toNatClampNeg)), (2, .int (f_X7_isCell xi)), (0, .ref (ad 0)), (1, .int xi)]) cx.1 cx.2.1 dX7_tear_50 rfl hl (by decide) rfl (fun ls hl => ?_)
        refine lv_aload_n cx.1 cx.2.1 dX7_tear_51 rfl (lv_at hl 2 rfl) ?_
        refine zGet (v := .ref (ad 1)) (own := RX7) cx hinX7 hK hP 0 rfl rfl 5 (by decide) (by decide +kernel) rfl rfl dX7_tear_52 ?_
        refine lv_iload_n cx.1 cx.2.1 dX7_tear_55 rfl (lv_at hl 3 rfl) ?_
        refine lv_iconst (v := 0) cx.1 cx.2.1 dX7_tear_56 (by decide) ?_
        refine zIst cx (mw_W cyI cyZ ad) hI hK hP hS 1 0 rfl rfl (cell_in (by assumption)) (zUp (zUp S 13 (upd (S 13) 5 0)) 0 (upd (S 0) xi.toNatClampNeg 0)) rfl dX7_tear_57 (fun H locs hP hS => ?_)
        refine lv_aload_n cx.1 cx.2.1 dX7_tear_58 rfl (lv_at hl 2 rfl) ?_
        refine zGet (v := .ref (ad 2)) (own := RX7) cx hinX7 hK hP 0 rfl rfl 6 (by decide) (by decide +kernel) rfl rfl dX7_tear_59 ?_
        refine lv_iload_n cx.1 cx.2.1 dX7_tear_62 rfl (lv_at hl 3 rfl) ?_
        refine lv_iconst (v := 0) cx.1 cx.2.1 dX7_tear_63 (by decide) ?_
        refine zIst cx (mw_W cyI cyZ ad) hI hK hP hS 2 0 rfl rfl (cell_in (by assumption)) (zUp (zUp (zUp S 13 (upd (S 13) 5 0)) 0 (upd (S 0) xi.toNatClampNeg 0)) 1 (upd (S 1) xi.toNatClampNeg 0)) rfl dX7_tear_64 (fun H locs hP hS => ?_)
        obtain ⟨N6, hN6⟩ : ∃ T : zS, zUp (zUp (zUp S 13 (upd (S 13) 5 0)) 0 (upd (S 0) xi.toNatClampNeg 0)) 1 (upd (S 1) xi.toNatClampNeg 0) = T := ⟨_, rfl⟩
        rw [hN6] at hP
        refine lv_aload_n cx.1 cx.2.1 dX7_tear_65 rfl (lv_at hl 2 rfl) ?_
        refine lv_dup cx.1 cx.2.1 dX7_tear_66 rfl ?_
        refine zGet (v := .int (N6 13 0)) (own := RX7) cx hinX7 hK hP 0 rfl rfl 0 (by decide) (by decide +kernel) rfl rfl dX7_tear_67 ?_
        refine lv_iconst (v := 5) cx.1 cx.2.1 dX7_tear_70 (by decide) ?_
        refine lv_isub cx.1 cx.2.1 dX7_tear_71 ?_
        refine zPut (v := .int ((N6 13 0) - 5)) (own := RX7) (ty0 := tyX7) (ty := .int) cx hinX7 tyX7_ok nmX7 (mw_W cyI cyZ ad) hI hK hP hS 0 rfl rfl 0 (by decide) (by decide +kernel) rfl rfl (by decide +kernel) rfl rfl (Nat.le_of_ble_eq_true rfl) (zUp N6 13 (upd (N6 13) 0 ((N6 13 0) - 5))) rfl dX7_tear_72 (fun H locs hP hS => ?_)
        refine lv_iload_n cx.1 cx.2.1 dX7_tear_75 rfl (lv_at hl 0 rfl) ?_
        subst hN6
        exact zRetI (v := S 0 xi.toNatClampNeg) cx hrt hlk rfl hS hP ⟨(by unfold f_X7_tear; rw [if_pos c1, if_neg c2, if_pos c4]), (by unfold g_X7_tear; rw [if_pos c1, if_neg c2, if_pos c4])⟩ dX7_tear_76
      · refine lv_iconst (v := 2) cx.1 cx.2.1 dX7_tear_31 (by decide) ?_
        refine lv_goto (tgt := 36) cx.1 cx.2.1 dX7_tear_32 (by decide) ?_
        refine zThenIx (v := f_X7_fails S 2) (S' := zUp S 13 (upd (S 13) 5 2)) hS (zRunV (As := [.int 2]) (rest := []) _ 1 cx (c_X7_fails l dC dI cyI cyZ ad hI S 2) gX7_tear_X7_fails rfl ⟨rfl, rfl⟩ (by decide +kernel) ⟨Nat.le_of_ble_eq_true rfl, Nat.le_of_ble_eq_true rfl⟩ (zX_true) trivial hK hP hS 0 rfl rfl rfl rfl hl.1 rfl (Nat.le_of_ble_eq_true rfl) dX7_tear_36 ⟨Nat.zero_le _, Nat.zero_le _⟩) (fun H locs hP hS => ?_)
        rw [fails_2]
        refine lv_if_eq (tgt := 44) cx.1 cx.2.1 dX7_tear_39 (by decide) (fun c7 => ?_) (fun c7 => ?_)
        · exact absurd c7 (by decide)
        refine lv_iconst (v := 0) cx.1 cx.2.1 dX7_tear_42 (by decide) ?_
        exact zRetI (v := 0) cx hrt hlk rfl hS hP ⟨(by unfold f_X7_tear; rw [if_pos c1, if_neg c2, if_neg c4]), (by unfold g_X7_tear; rw [if_pos c1, if_neg c2, if_neg c4])⟩ dX7_tear_43
  · refine lv_iconst (v := 1) cx.1 cx.2.1 dX7_tear_10 (by decide) ?_
    refine lv_goto (tgt := 36) cx.1 cx.2.1 dX7_tear_11 (by decide) ?_
    refine zThenIx (v := f_X7_fails S 1) (S' := zUp S 13 (upd (S 13) 5 1)) hS (zRunV (As := [.int 1]) (rest := []) _ 1 cx (c_X7_fails l dC dI cyI cyZ ad hI S 1) gX7_tear_X7_fails rfl ⟨rfl, rfl⟩ (by decide +kernel) ⟨Nat.le_of_ble_eq_true rfl, Nat.le_of_ble_eq_true rfl⟩ (zX_true) trivial hK hP hS 0 rfl rfl rfl rfl hl.1 rfl (Nat.le_of_ble_eq_true rfl) dX7_tear_36 ⟨Nat.zero_le _, Nat.zero_le _⟩) (fun H locs hP hS => ?_)
    rw [fails_1]
    refine lv_if_eq (tgt := 44) cx.1 cx.2.1 dX7_tear_39 (by decide) (fun c8 => ?_) (fun c8 => ?_)
    · exact absurd c8 (by decide)
    refine lv_iconst (v := 0) cx.1 cx.2.1 dX7_tear_42 (by decide) ?_
    exact zRetI (v := 0) cx hrt hlk rfl hS hP ⟨(by unfold f_X7_tear; rw [if_neg (not_not_intro c1)]), (by unfold g_X7_tear; rw [if_neg (not_not_intro c1)])⟩ dX7_tear_43

def f_X7_setTax (S : zS) (xt : Int32) (xv : Int32) : Int32 := if (f_X7_isIn xv 0 20) = 0 then 0 else (if xt = 0 then (if xt = 0 then upd (S 13) 5 0 3 else (upd (S 13) 5 0 3)) else (if xt = 0 then upd (S 13) 5 0 4 else (upd (S 13) 5 0 4)))
def g_X7_setTax (S : zS) (xt : Int32) (xv : Int32) : zS := if (f_X7_isIn xv 0 20) = 0 then zUp S 13 (upd (S 13) 5 1) else (if xt = 0 then (if xt = 0 then zUp (zUp S 13 (upd (S 13) 5 0)) 13 (upd (upd (S 13) 5 0) 3 xv) else (zUp (zUp S 13 (upd (S 13) 5 0)) 13 (upd (upd (S 13) 5 0) 4 xv))) else (if xt = 0 then zUp (zUp S 13 (upd (S 13) 5 0)) 13 (upd (upd (S 13) 5 0) 3 xv) else (zUp (zUp S 13 (upd (S 13) 5 0)) 13 (upd (upd (S 13) 5 0) 4 xv))))
theorem fr_X7_setTax (S : zS) (xt : Int32) (xv : Int32) (r : Nat) (h13 : r ≠ 13) : g_X7_setTax S xt xv r = S r := by
  unfold g_X7_setTax
  (repeat' split) <;> simp [zUp, h13]
set_option maxHeartbeats 1000000 in
set_option maxRecDepth 100000 in
theorem c_X7_setTax (l : Launch) (dC : Nat → ClassId) (dI : Nat → Nat → Nat) (cyI cyZ : ClassId) (ad : Nat → Nat) (hI : zI ad 14) (S : zS) (xt : Int32) (xv : Int32) : zMi l (dC, dI) [(cyI, .int), (cyZ, .boolean)] ad 14 (fun _ _ => True) (mw cyI cyZ ad) yX7_setTax wsX7_setTax ({ frames := 1, cells := 0, slots := 0, locals := 22 } : Room) [.ref (ad 0), .int xt, .int xv] S (fun v T => v = f_X7_setTax S xt xv ∧ T = g_X7_setTax S xt xv) := by
  refine zStartI (by decide) rfl (Nat.le_of_ble_eq_true rfl) ?_
  intro p e s m args below meth c ls cx hrt hlk hP hK hXs hl
  have hl : lv_has ls 4 [(0, .ref (ad 0)), (1, .int xt), (2, .int xv)] := hl
  have hS : va_S (zA ad 14 s.heap.size) s.heap s.heap [] := va_S.rf
  have hinX7 : ∀ w ∈ u_ws RX7 TX7 19, w ∈ wsX7_setTax := by decide +kernel
  refine lv_aload_n cx.1 cx.2.1 dX7_setTax_0 rfl (lv_at hl 0 rfl) ?_
  refine lv_iload_n cx.1 cx.2.1 dX7_setTax_1 rfl (lv_at hl 2 rfl) ?_
  refine lv_iconst (v := 0) cx.1 cx.2.1 dX7_setTax_2 (by decide) ?_
  refine lv_bipush (v := 20) cx.1 cx.2.1 dX7_setTax_3 (by decide) ?_
  refine zThenIx (v := f_X7_isIn xv 0 20) (S' := S) hS (zRunS (As := [.int xv, .int 0, .int 20]) (rest := [.ref (ad 0)]) _ 3 cx (c_X7_isIn l dC dI cyI cyZ ad hI S xv 0 20) gX7_setTax_X7_isIn rfl ⟨rfl, rfl⟩ (by decide +kernel) ⟨Nat.le_of_ble_eq_true rfl, Nat.le_of_ble_eq_true rfl⟩ (zX_true) trivial hK hP hS rfl hl.1 rfl (Nat.le_of_ble_eq_true rfl) dX7_setTax_5 ⟨Nat.zero_le _, Nat.zero_le _⟩) (fun H locs hP hS => ?_)
  refine lv_if_eq (tgt := 15) cx.1 cx.2.1 dX7_setTax_8 (by decide) (fun c1 => ?_) (fun c1 => ?_)
  · refine lv_iconst (v := 1) cx.1 cx.2.1 dX7_setTax_15 (by decide) ?_
    refine zThenIx (v := f_X7_fails S 1) (S' := zUp S 13 (upd (S 13) 5 1)) hS (zRunV (As := [.int 1]) (rest := []) _ 1 cx (c_X7_fails l dC dI cyI cyZ ad hI S 1) gX7_setTax_X7_fails rfl ⟨rfl, rfl⟩ (by decide +kernel) ⟨Nat.le_of_ble_eq_true rfl, Nat.le_of_ble_eq_true rfl⟩ (zX_true) trivial hK hP hS 0 rfl rfl rfl rfl hl.1 rfl (Nat.le_of_ble_eq_true rfl) dX7_setTax_16 ⟨Nat.zero_le _, Nat.zero_le _⟩) (fun H locs hP hS => ?_)
    rw [fails_1]
    refine lv_if_eq (tgt := 24) cx.1 cx.2.1 dX7_setTax_19 (by decide) (fun c2 => ?_) (fun c2 => ?_)
    · exact absurd c2 (by decide)
    refine lv_iconst (v := 0) cx.1 cx.2.1 dX7_setTax_22 (by decide) ?_
    exact zRetI (v := 0) cx hrt hlk rfl hS hP ⟨(by unfold f_X7_setTax; rw [if_pos c1]), (by unfold g_X7_setTax; rw [if_pos c1])⟩ dX7_setTax_23
  · refine lv_iconst (v := 0) cx.1 cx.2.1 dX7_setTax_11 (by decide) ?_
    refine lv_goto (tgt := 16) cx.1 cx.2.1 dX7_setTax_12 (by decide) ?_
    refine zThenIx (v := f_X7_fails S 0) (S' := zUp S 13 (upd (S 13) 5 0)) hS (zRunV (As := [.int 0]) (rest := []) _ 1 cx (c_X7_fails l dC dI cyI cyZ ad hI S 0) gX7_setTax_X7_fails rfl ⟨rfl, rfl⟩ (by decide +kernel) ⟨Nat.le_of_ble_eq_true rfl, Nat.le_of_ble_eq_true rfl⟩ (zX_true) trivial hK hP hS 0 rfl rfl rfl rfl hl.1 rfl (Nat.le_of_ble_eq_true rfl) dX7_setTax_16 ⟨Nat.zero_le _, Nat.zero_le _⟩) (fun H locs hP hS => ?_)
    rw [fails_0]
    refine lv_if_eq (tgt := 24) cx.1 cx.2.1 dX7_setTax_19 (by decide) (fun c3 => ?_) (fun c3 => ?_)
    rotate_left
    · exact absurd c3 (by decide)
    refine lv_iload_n cx.1 cx.2.1 dX7_setTax_24 rfl (lv_at hl 1 rfl) ?_
    refine lv_if_eq (tgt := 35) cx.1 cx.2.1 dX7_setTax_25 (by decide) (fun c4 => ?_) (fun c4 => ?_)
    · have c4 : xt = 0 := c4
      refine lv_aload_n cx.1 cx.2.1 dX7_setTax_35 rfl (lv_at hl 0 rfl) ?_
      refine zGet (v := .int (upd (S 13) 5 0 3)) (own := RX7) cx hinX7 hK hP 0 rfl rfl 3 (by decide) (by decide +kernel) rfl rfl dX7_setTax_36 ?_
      refine lv_istore_n (lv' := [(3, .int (upd (S 13) 5 0 3)), (0, .ref (ad 0)), (1, .int xt), (2, .int xv)]) cx.1 cx.2.1 dX7_setTax_39 rfl hl (by decide) rfl (fun ls hl => ?_)
      refine lv_iload_n cx.1 cx.2.1 dX7_setTax_40 rfl (lv_at hl 2 rfl) ?_
      refine lv_if_eq (tgt := 52) cx.1 cx.2.1 dX7_setTax_41 (by decide) (fun c5 => ?_) (fun c5 => ?_)
      · have c5 : xt = 0 := c5
        refine lv_aload_n cx.1 cx.2.1 dX7_setTax_52 rfl (lv_at hl 1 rfl) ?_
        refine lv_iload_n cx.1 cx.2.1 dX7_setTax_53 rfl (lv_at hl 3 rfl) ?_
        refine zPut (v := .int xv) (own := RX7) (ty0 := tyX7) (ty := .int) cx hinX7 tyX7_ok nmX7 (mw_W cyI cyZ ad) hI hK hP hS 0 rfl rfl 3 (by decide) (by decide +kernel) rfl rfl (by decide +kernel) rfl rfl (Nat.le_of_ble_eq_true rfl) (zUp (zUp S 13 (upd (S 13) 5 0)) 13 (upd (upd (S 13) 5 0) 3 xv)) rfl dX7_setTax_54 (fun H locs hP hS => ?_)
        refine lv_iload_n cx.1 cx.2.1 dX7_setTax_57 rfl (lv_at hl 0 rfl) ?_
        exact zRetI (v := upd (S 13) 5 0 3) cx hrt hlk rfl hS hP ⟨(by unfold f_X7_setTax; rw [if_neg c1, if_pos c4, if_pos c5]), (by unfold g_X7_setTax; rw [if_neg c1, if_pos c4, if_pos c5])⟩ dX7_setTax_58
      · have c5 : ¬ xt = 0 := c5
        refine lv_aload_n cx.1 cx.2.1 dX7_setTax_44 rfl (lv_at hl 1 rfl) ?_
        refine lv_iload_n cx.1 cx.2.1 dX7_setTax_45 rfl (lv_at hl 3 rfl) ?_
        refine zPut (v := .int xv) (own := RX7) (ty0 := tyX7) (ty := .int) cx hinX7 tyX7_ok nmX7 (mw_W cyI cyZ ad) hI hK hP hS 0 rfl rfl 4 (by decide) (by decide +kernel) rfl rfl (by decide +kernel) rfl rfl (Nat.le_of_ble_eq_true rfl) (zUp (zUp S 13 (upd (S 13) 5 0)) 13 (upd (upd (S 13) 5 0) 4 xv)) rfl dX7_setTax_46 (fun H locs hP hS => ?_)
        refine lv_goto (tgt := 57) cx.1 cx.2.1 dX7_setTax_49 (by decide) ?_
        refine lv_iload_n cx.1 cx.2.1 dX7_setTax_57 rfl (lv_at hl 0 rfl) ?_
        exact zRetI (v := upd (S 13) 5 0 3) cx hrt hlk rfl hS hP ⟨(by unfold f_X7_setTax; rw [if_neg c1, if_pos c4, if_neg c5]), (by unfold g_X7_setTax; rw [if_neg c1, if_pos c4, if_neg c5])⟩ dX7_setTax_58
    · have c4 : ¬ xt = 0 := c4
      refine lv_aload_n cx.1 cx.2.1 dX7_setTax_28 rfl (lv_at hl 0 rfl) ?_
      refine zGet (v := .int (upd (S 13) 5 0 4)) (own := RX7) cx hinX7 hK hP 0 rfl rfl 4 (by decide) (by decide +kernel) rfl rfl dX7_setTax_29 ?_
      refine lv_goto (tgt := 39) cx.1 cx.2.1 dX7_setTax_32 (by decide) ?_
      refine lv_istore_n (lv' := [(3, .int (upd (S 13) 5 0 4)), (0, .ref (ad 0)), (1, .int xt), (2, .int xv)]) cx.1 cx.2.1 dX7_setTax_39 rfl hl (by decide) rfl (fun ls hl => ?_)
      refine lv_iload_n cx.1 cx.2.1 dX7_setTax_40 rfl (lv_at hl 2 rfl) ?_
      refine lv_if_eq (tgt := 52) cx.1 cx.2.1 dX7_setTax_41 (by decide) (fun c6 => ?_) (fun c6 => ?_)
      · have c6 : xt = 0 := c6
        refine lv_aload_n cx.1 cx.2.1 dX7_setTax_52 rfl (lv_at hl 1 rfl) ?_
        refine lv_iload_n cx.1 cx.2.1 dX7_setTax_53 rfl (lv_at hl 3 rfl) ?_
        refine zPut (v := .int xv) (own := RX7) (ty0 := tyX7) (ty := .int) cx hinX7 tyX7_ok nmX7 (mw_W cyI cyZ ad) hI hK hP hS 0 rfl rfl 3 (by decide) (by decide +kernel) rfl rfl (by decide +kernel) rfl rfl (Nat.le_of_ble_eq_true rfl) (zUp (zUp S 13 (upd (S 13) 5 0)) 13 (upd (upd (S 13) 5 0) 3 xv)) rfl dX7_setTax_54 (fun H locs hP hS => ?_)
        refine lv_iload_n cx.1 cx.2.1 dX7_setTax_57 rfl (lv_at hl 0 rfl) ?_
        exact zRetI (v := upd (S 13) 5 0 4) cx hrt hlk rfl hS hP ⟨(by unfold f_X7_setTax; rw [if_neg c1, if_neg c4, if_pos c6]), (by unfold g_X7_setTax; rw [if_neg c1, if_neg c4, if_pos c6])⟩ dX7_setTax_58
      · have c6 : ¬ xt = 0 := c6
        refine lv_aload_n cx.1 cx.2.1 dX7_setTax_44 rfl (lv_at hl 1 rfl) ?_
        refine lv_iload_n cx.1 cx.2.1 dX7_setTax_45 rfl (lv_at hl 3 rfl) ?_
        refine zPut (v := .int xv) (own := RX7) (ty0 := tyX7) (ty := .int) cx hinX7 tyX7_ok nmX7 (mw_W cyI cyZ ad) hI hK hP hS 0 rfl rfl 4 (by decide) (by decide +kernel) rfl rfl (by decide +kernel) rfl rfl (Nat.le_of_ble_eq_true rfl) (zUp (zUp S 13 (upd (S 13) 5 0)) 13 (upd (upd (S 13) 5 0) 4 xv)) rfl dX7_setTax_46 (fun H locs hP hS => ?_)
        refine lv_goto (tgt := 57) cx.1 cx.2.1 dX7_setTax_49 (by decide) ?_
        refine lv_iload_n cx.1 cx.2.1 dX7_setTax_57 rfl (lv_at hl 0 rfl) ?_
        exact zRetI (v := upd (S 13) 5 0 4) cx hrt hlk rfl hS hP ⟨(by unfold f_X7_setTax; rw [if_neg c1, if_neg c4, if_neg c6]), (by unfold g_X7_setTax; rw [if_neg c1, if_neg c4, if_neg c6])⟩ dX7_setTax_58

def f_X7_borrow (S : zS) (xa : Int32) : Int32 := if ¬ (f_X7_isIn xa 1 1000) = 0 then (if ((S 13 1) + xa) ≤ 5000 then (zUp (zUp (zUp S 13 (upd (S 13) 5 0)) 13 (upd (upd (S 13) 5 0) 1 ((upd (S 13) 5 0 1) + xa))) 13 (upd (upd (upd (S 13) 5 0) 1 ((upd (S 13) 5 0 1) + xa)) 0 ((upd (upd (S 13) 5 0) 1 ((upd (S 13) 5 0 1) + xa) 0) + xa))) 13 1 else (0)) else (0)
def g_X7_borrow (S : zS) (xa : Int32) : zS := if ¬ (f_X7_isIn xa 1 1000) = 0 then (if ((S 13 1) + xa) ≤ 5000 then (zUp (zUp (zUp S 13 (upd (S 13) 5 0)) 13 (upd (upd (S 13) 5 0) 1 ((upd (S 13) 5 0 1) + xa))) 13 (upd (upd (upd (S 13) 5 0) 1 ((upd (S 13) 5 0 1) + xa)) 0 ((upd (upd (S 13) 5 0) 1 ((upd (S 13) 5 0 1) + xa) 0) + xa))) else (zUp S 13 (upd (S 13) 5 2))) else (zUp S 13 (upd (S 13) 5 1))
theorem fr_X7_borrow (S : zS) (xa : Int32) (r : Nat) (h13 : r ≠ 13) : g_X7_borrow S xa r = S r := by
  unfold g_X7_borrow
  (repeat' split) <;> simp [zUp, h13]
set_option maxHeartbeats 1000000 in
set_option maxRecDepth 100000 in
theorem c_X7_borrow (l : Launch) (dC : Nat → ClassId) (dI : Nat → Nat → Nat) (cyI cyZ : ClassId) (ad : Nat → Nat) (hI : zI ad 14) (S : zS) (xa : Int32) : zMi l (dC, dI) [(cyI, .int), (cyZ, .boolean)] ad 14 (fun _ _ => True) (mw cyI cyZ ad) yX7_borrow wsX7_borrow ({ frames := 1, cells := 0, slots := 0, locals := 22 } : Room) [.ref (ad 0), .int xa] S (fun v T => v = f_X7_borrow S xa ∧ T = g_X7_borrow S xa) := by
  refine zStartI (by decide) rfl (Nat.le_of_ble_eq_true rfl) ?_
  intro p e s m args below meth c ls cx hrt hlk hP hK hXs hl
  have hl : lv_has ls 2 [(0, .ref (ad 0)), (1, .int xa)] := hl
  have hS : va_S (zA ad 14 s.heap.size) s.heap s.heap [] := va_S.rf
  have hinX7 : ∀ w ∈ u_ws RX7 TX7 19, w ∈ wsX7_borrow := by decide +kernel
  refine lv_aload_n cx.1 cx.2.1 dX7_borrow_0 rfl (lv_at hl 0 rfl) ?_
  refine lv_iload_n cx.1 cx.2.1 dX7_borrow_1 rfl (lv_at hl 1 rfl) ?_
  refine lv_iconst (v := 1) cx.1 cx.2.1 dX7_borrow_2 (by decide) ?_
  refine lv_sipush (v := 1000) cx.1 cx.2.1 dX7_borrow_3 (by decide) ?_
  refine zThenIx (v := f_X7_isIn xa 1 1000) (S' := S) hS (zRunS (As := [.int xa, .int 1, .int 1000]) (rest := [.ref (ad 0)]) _ 3 cx (c_X7_isIn l dC dI cyI cyZ ad hI S xa 1 1000) gX7_borrow_X7_isIn rfl ⟨rfl, rfl⟩ (by decide +kernel) ⟨Nat.le_of_ble_eq_true rfl, Nat.le_of_ble_eq_true rfl⟩ (zX_true) trivial hK hP hS rfl hl.1 rfl (Nat.le_of_ble_eq_true rfl) dX7_borrow_6 ⟨Nat.zero_le _, Nat.zero_le _⟩) (fun H locs hP hS => ?_)
  refine lv_if_ne (tgt := 16) cx.1 cx.2.1 dX7_borrow_9 (by decide) (fun c1 => ?_) (fun c1 => ?_)
  · refine lv_aload_n cx.1 cx.2.1 dX7_borrow_16 rfl (lv_at hl 0 rfl) ?_
    refine zGet (v := .int (S 13 1)) (own := RX7) cx hinX7 hK hP 0 rfl rfl 1 (by decide) (by decide +kernel) rfl rfl dX7_borrow_17 ?_
    refine lv_iload_n cx.1 cx.2.1 dX7_borrow_20 rfl (lv_at hl 1 rfl) ?_
    refine lv_iadd cx.1 cx.2.1 dX7_borrow_21 ?_
    refine lv_sipush (v := 5000) cx.1 cx.2.1 dX7_borrow_22 (by decide) ?_
    refine lv_icmp_le (tgt := 32) cx.1 cx.2.1 dX7_borrow_25 (by decide) (fun c2 => ?_) (fun c2 => ?_)
    · refine lv_iconst (v := 0) cx.1 cx.2.1 dX7_borrow_32 (by decide) ?_
      refine zThenIx (v := f_X7_fails S 0) (S' := zUp S 13 (upd (S 13) 5 0)) hS (zRunV (As := [.int 0]) (rest := []) _ 1 cx (c_X7_fails l dC dI cyI cyZ ad hI S 0) gX7_borrow_X7_fails rfl ⟨rfl, rfl⟩ (by decide +kernel) ⟨Nat.le_of_ble_eq_true rfl, Nat.le_of_ble_eq_true rfl⟩ (zX_true) trivial hK hP hS 0 rfl rfl rfl rfl hl.1 rfl (Nat.le_of_ble_eq_true rfl) dX7_borrow_33 ⟨Nat.zero_le _, Nat.zero_le _⟩) (fun H locs hP hS => ?_)
      rw [fails_0]
      refine lv_if_eq (tgt := 41) cx.1 cx.2.1 dX7_borrow_36 (by decide) (fun c3 => ?_) (fun c3 => ?_)
      rotate_left
      · exact absurd c3 (by decide)
      refine lv_aload_n cx.1 cx.2.1 dX7_borrow_41 rfl (lv_at hl 0 rfl) ?_
      refine lv_dup cx.1 cx.2.1 dX7_borrow_42 rfl ?_
      refine zGet (v := .int (upd (S 13) 5 0 1)) (own := RX7) cx hinX7 hK hP 0 rfl rfl 1 (by decide) (by decide +kernel) rfl rfl dX7_borrow_43 ?_
      refine lv_iload_n cx.1 cx.2.1 dX7_borrow_46 rfl (lv_at hl 1 rfl) ?_
      refine lv_iadd cx.1 cx.2.1 dX7_borrow_47 ?_
      refine zPut (v := .int ((upd (S 13) 5 0 1) + xa)) (own := RX7) (ty0 := tyX7) (ty := .int) cx hinX7 tyX7_ok nmX7 (mw_W cyI cyZ ad) hI hK hP hS 0 rfl rfl 1 (by decide) (by decide +kernel) rfl rfl (by decide +kernel) rfl rfl (Nat.le_of_ble_eq_true rfl) (zUp (zUp S 13 (upd (S 13) 5 0)) 13 (upd (upd (S 13) 5 0) 1 ((upd (S 13) 5 0 1) + xa))) rfl dX7_borrow_48 (fun H locs hP hS => ?_)
      refine lv_aload_n cx.1 cx.2.1 dX7_borrow_51 rfl (lv_at hl 0 rfl) ?_
      refine lv_dup cx.1 cx.2.1 dX7_borrow_52 rfl ?_
      refine zGet (v := .int (upd (upd (S 13) 5 0) 1 ((upd (S 13) 5 0 1) + xa) 0)) (own := RX7) cx hinX7 hK hP 0 rfl rfl 0 (by decide) (by decide +kernel) rfl rfl dX7_borrow_53 ?_
      refine lv_iload_n cx.1 cx.2.1 dX7_borrow_56 rfl (lv_at hl 1 rfl) ?_
      refine lv_iadd cx.1 cx.2.1 dX7_borrow_57 ?_
      refine zPut (v := .int ((upd (upd (S 13) 5 0) 1 ((upd (S 13) 5 0 1) + xa) 0) + xa)) (own := RX7) (ty0 := tyX7) (ty := .int) cx hinX7 tyX7_ok nmX7 (mw_W cyI cyZ ad) hI hK hP hS 0 rfl rfl 0 (by decide) (by decide +kernel) rfl rfl (by decide +kernel) rfl rfl (Nat.le_of_ble_eq_true rfl) (zUp (zUp (zUp S 13 (upd (S 13) 5 0)) 13 (upd (upd (S 13) 5 0) 1 ((upd (S 13) 5 0 1) + xa))) 13 (upd (upd (upd (S 13) 5 0) 1 ((upd (S 13) 5 0 1) + xa)) 0 ((upd (upd (S 13) 5 0) 1 ((upd (S 13) 5 0 1) + xa) 0) + xa))) rfl dX7_borrow_58 (fun H locs hP hS => ?_)
      obtain ⟨N4, hN4⟩ : ∃ T : zS, zUp (zUp (zUp S 13 (upd (S 13) 5 0)) 13 (upd (upd (S 13) 5 0) 1 ((upd (S 13) 5 0 1) + xa))) 13 (upd (upd (upd (S 13) 5 0) 1 ((upd (S 13) 5 0 1) + xa)) 0 ((upd (upd (S 13) 5 0) 1 ((upd (S 13) 5 0 1) + xa) 0) + xa)) = T := ⟨_, rfl⟩
      rw [hN4] at hP
      refine lv_aload_n cx.1 cx.2.1 dX7_borrow_61 rfl (lv_at hl 0 rfl) ?_
      refine zGet (v := .int (N4 13 1)) (own := RX7) cx hinX7 hK hP 0 rfl rfl 1 (by decide) (by decide +kernel) rfl rfl dX7_borrow_62 ?_
      subst hN4
      exact zRetI (v := (zUp (zUp (zUp S 13 (upd (S 13) 5 0)) 13 (upd (upd (S 13) 5 0) 1 ((upd (S 13) 5 0 1) + xa))) 13 (upd (upd (upd (S 13) 5 0) 1 ((upd (S 13) 5 0 1) + xa)) 0 ((upd (upd (S 13) 5 0) 1 ((upd (S 13) 5 0 1) + xa) 0) + xa))) 13 1) cx hrt hlk rfl hS hP ⟨(by unfold f_X7_borrow; rw [if_pos c1, if_pos c2]), (by unfold g_X7_borrow; rw [if_pos c1, if_pos c2])⟩ dX7_borrow_65
    · refine lv_iconst (v := 2) cx.1 cx.2.1 dX7_borrow_28 (by decide) ?_
      refine lv_goto (tgt := 33) cx.1 cx.2.1 dX7_borrow_29 (by decide) ?_
      refine zThenIx (v := f_X7_fails S 2) (S' := zUp S 13 (upd (S 13) 5 2)) hS (zRunV (As := [.int 2]) (rest := []) _ 1 cx (c_X7_fails l dC dI cyI cyZ ad hI S 2) gX7_borrow_X7_fails rfl ⟨rfl, rfl⟩ (by decide +kernel) ⟨Nat.le_of_ble_eq_true rfl, Nat.le_of_ble_eq_true rfl⟩ (zX_true) trivial hK hP hS 0 rfl rfl rfl rfl hl.1 rfl (Nat.le_of_ble_eq_true rfl) dX7_borrow_33 ⟨Nat.zero_le _, Nat.zero_le _⟩) (fun H locs hP hS => ?_)
      rw [fails_2]
      refine lv_if_eq (tgt := 41) cx.1 cx.2.1 dX7_borrow_36 (by decide) (fun c5 => ?_) (fun c5 => ?_)
      · exact absurd c5 (by decide)
      refine lv_iconst (v := 0) cx.1 cx.2.1 dX7_borrow_39 (by decide) ?_
      exact zRetI (v := 0) cx hrt hlk rfl hS hP ⟨(by unfold f_X7_borrow; rw [if_pos c1, if_neg c2]), (by unfold g_X7_borrow; rw [if_pos c1, if_neg c2])⟩ dX7_borrow_40
  · refine lv_iconst (v := 1) cx.1 cx.2.1 dX7_borrow_12 (by decide) ?_
    refine lv_goto (tgt := 33) cx.1 cx.2.1 dX7_borrow_13 (by decide) ?_
    refine zThenIx (v := f_X7_fails S 1) (S' := zUp S 13 (upd (S 13) 5 1)) hS (zRunV (As := [.int 1]) (rest := []) _ 1 cx (c_X7_fails l dC dI cyI cyZ ad hI S 1) gX7_borrow_X7_fails rfl ⟨rfl, rfl⟩ (by decide +kernel) ⟨Nat.le_of_ble_eq_true rfl, Nat.le_of_ble_eq_true rfl⟩ (zX_true) trivial hK hP hS 0 rfl rfl rfl rfl hl.1 rfl (Nat.le_of_ble_eq_true rfl) dX7_borrow_33 ⟨Nat.zero_le _, Nat.zero_le _⟩) (fun H locs hP hS => ?_)
    rw [fails_1]
    refine lv_if_eq (tgt := 41) cx.1 cx.2.1 dX7_borrow_36 (by decide) (fun c6 => ?_) (fun c6 => ?_)
    · exact absurd c6 (by decide)
    refine lv_iconst (v := 0) cx.1 cx.2.1 dX7_borrow_39 (by decide) ?_
    exact zRetI (v := 0) cx hrt hlk rfl hS hP ⟨(by unfold f_X7_borrow; rw [if_neg (not_not_intro c1)]), (by unfold g_X7_borrow; rw [if_neg (not_not_intro c1)])⟩ dX7_borrow_40

def f_X7_repay (S : zS) (xa : Int32) : Int32 := if ¬ (f_X7_isIn xa 1 5000) = 0 then (if (S 13 1) < xa then 0 else (if xa ≤ (S 13 0) then (zUp (zUp (zUp S 13 (upd (S 13) 5 0)) 13 (upd (upd (S 13) 5 0) 1 ((upd (S 13) 5 0 1) - xa))) 13 (upd (upd (upd (S 13) 5 0) 1 ((upd (S 13) 5 0 1) - xa)) 0 ((upd (upd (S 13) 5 0) 1 ((upd (S 13) 5 0 1) - xa) 0) - xa))) 13 1 else (0))) else (0)
def g_X7_repay (S : zS) (xa : Int32) : zS := if ¬ (f_X7_isIn xa 1 5000) = 0 then (if (S 13 1) < xa then zUp S 13 (upd (S 13) 5 2) else (if xa ≤ (S 13 0) then (zUp (zUp (zUp S 13 (upd (S 13) 5 0)) 13 (upd (upd (S 13) 5 0) 1 ((upd (S 13) 5 0 1) - xa))) 13 (upd (upd (upd (S 13) 5 0) 1 ((upd (S 13) 5 0 1) - xa)) 0 ((upd (upd (S 13) 5 0) 1 ((upd (S 13) 5 0 1) - xa) 0) - xa))) else (zUp S 13 (upd (S 13) 5 2)))) else (zUp S 13 (upd (S 13) 5 1))
theorem fr_X7_repay (S : zS) (xa : Int32) (r : Nat) (h13 : r ≠ 13) : g_X7_repay S xa r = S r := by
  unfold g_X7_repay
  (repeat' split) <;> simp [zUp, h13]
set_option maxHeartbeats 1000000 in
set_option maxRecDepth 100000 in
theorem c_X7_repay (l : Launch) (dC : Nat → ClassId) (dI : Nat → Nat → Nat) (cyI cyZ : ClassId) (ad : Nat → Nat) (hI : zI ad 14) (S : zS) (xa : Int32) : zMi l (dC, dI) [(cyI, .int), (cyZ, .boolean)] ad 14 (fun _ _ => True) (mw cyI cyZ ad) yX7_repay wsX7_repay ({ frames := 1, cells := 0, slots := 0, locals := 22 } : Room) [.ref (ad 0), .int xa] S (fun v T => v = f_X7_repay S xa ∧ T = g_X7_repay S xa) := by
  refine zStartI (by decide) rfl (Nat.le_of_ble_eq_true rfl) ?_
  intro p e s m args below meth c ls cx hrt hlk hP hK hXs hl
  have hl : lv_has ls 2 [(0, .ref (ad 0)), (1, .int xa)] := hl
  have hS : va_S (zA ad 14 s.heap.size) s.heap s.heap [] := va_S.rf
  have hinX7 : ∀ w ∈ u_ws RX7 TX7 19, w ∈ wsX7_repay := by decide +kernel
  refine lv_aload_n cx.1 cx.2.1 dX7_repay_0 rfl (lv_at hl 0 rfl) ?_
  refine lv_iload_n cx.1 cx.2.1 dX7_repay_1 rfl (lv_at hl 1 rfl) ?_
  refine lv_iconst (v := 1) cx.1 cx.2.1 dX7_repay_2 (by decide) ?_
  refine lv_sipush (v := 5000) cx.1 cx.2.1 dX7_repay_3 (by decide) ?_
  refine zThenIx (v := f_X7_isIn xa 1 5000) (S' := S) hS (zRunS (As := [.int xa, .int 1, .int 5000]) (rest := [.ref (ad 0)]) _ 3 cx (c_X7_isIn l dC dI cyI cyZ ad hI S xa 1 5000) gX7_repay_X7_isIn rfl ⟨rfl, rfl⟩ (by decide +kernel) ⟨Nat.le_of_ble_eq_true rfl, Nat.le_of_ble_eq_true rfl⟩ (zX_true) trivial hK hP hS rfl hl.1 rfl (Nat.le_of_ble_eq_true rfl) dX7_repay_6 ⟨Nat.zero_le _, Nat.zero_le _⟩) (fun H locs hP hS => ?_)
  refine lv_if_ne (tgt := 16) cx.1 cx.2.1 dX7_repay_9 (by decide) (fun c1 => ?_) (fun c1 => ?_)
  · refine lv_iload_n cx.1 cx.2.1 dX7_repay_16 rfl (lv_at hl 1 rfl) ?_
    refine lv_aload_n cx.1 cx.2.1 dX7_repay_17 rfl (lv_at hl 0 rfl) ?_
    refine zGet (v := .int (S 13 1)) (own := RX7) cx hinX7 hK hP 0 rfl rfl 1 (by decide) (by decide +kernel) rfl rfl dX7_repay_18 ?_
    refine lv_icmp_gt (tgt := 32) cx.1 cx.2.1 dX7_repay_21 (by decide) (fun c2 => ?_) (fun c2 => ?_)
    · refine lv_iconst (v := 2) cx.1 cx.2.1 dX7_repay_32 (by decide) ?_
      refine lv_goto (tgt := 37) cx.1 cx.2.1 dX7_repay_33 (by decide) ?_
      refine zThenIx (v := f_X7_fails S 2) (S' := zUp S 13 (upd (S 13) 5 2)) hS (zRunV (As := [.int 2]) (rest := []) _ 1 cx (c_X7_fails l dC dI cyI cyZ ad hI S 2) gX7_repay_X7_fails rfl ⟨rfl, rfl⟩ (by decide +kernel) ⟨Nat.le_of_ble_eq_true rfl, Nat.le_of_ble_eq_true rfl⟩ (zX_true) trivial hK hP hS 0 rfl rfl rfl rfl hl.1 rfl (Nat.le_of_ble_eq_true rfl) dX7_repay_37 ⟨Nat.zero_le _, Nat.zero_le _⟩) (fun H locs hP hS => ?_)
      rw [fails_2]
      refine lv_if_eq (tgt := 45) cx.1 cx.2.1 dX7_repay_40 (by decide) (fun c3 => ?_) (fun c3 => ?_)
      · exact absurd c3 (by decide)
      refine lv_iconst (v := 0) cx.1 cx.2.1 dX7_repay_43 (by decide) ?_
      exact zRetI (v := 0) cx hrt hlk rfl hS hP ⟨(by unfold f_X7_repay; rw [if_pos c1, if_pos c2]), (by unfold g_X7_repay; rw [if_pos c1, if_pos c2])⟩ dX7_repay_44
    · refine lv_iload_n cx.1 cx.2.1 dX7_repay_24 rfl (lv_at hl 1 rfl) ?_
      refine lv_aload_n cx.1 cx.2.1 dX7_repay_25 rfl (lv_at hl 0 rfl) ?_
      refine zGet (v := .int (S 13 0)) (own := RX7) cx hinX7 hK hP 0 rfl rfl 0 (by decide) (by decide +kernel) rfl rfl dX7_repay_26 ?_
      refine lv_icmp_le (tgt := 36) cx.1 cx.2.1 dX7_repay_29 (by decide) (fun c4 => ?_) (fun c4 => ?_)
      · refine lv_iconst (v := 0) cx.1 cx.2.1 dX7_repay_36 (by decide) ?_
        refine zThenIx (v := f_X7_fails S 0) (S' := zUp S 13 (upd (S 13) 5 0)) hS (zRunV (As := [.int 0]) (rest := []) _ 1 cx (c_X7_fails l dC dI cyI cyZ ad hI S 0) gX7_repay_X7_fails rfl ⟨rfl, rfl⟩ (by decide +kernel) ⟨Nat.le_of_ble_eq_true rfl, Nat.le_of_ble_eq_true rfl⟩ (zX_true) trivial hK hP hS 0 rfl rfl rfl rfl hl.1 rfl (Nat.le_of_ble_eq_true rfl) dX7_repay_37 ⟨Nat.zero_le _, Nat.zero_le _⟩) (fun H locs hP hS => ?_)
        rw [fails_0]
        refine lv_if_eq (tgt := 45) cx.1 cx.2.1 dX7_repay_40 (by decide) (fun c5 => ?_) (fun c5 => ?_)
        rotate_left
        · exact absurd c5 (by decide)
        refine lv_aload_n cx.1 cx.2.1 dX7_repay_45 rfl (lv_at hl 0 rfl) ?_
        refine lv_dup cx.1 cx.2.1 dX7_repay_46 rfl ?_
        refine zGet (v := .int (upd (S 13) 5 0 1)) (own := RX7) cx hinX7 hK hP 0 rfl rfl 1 (by decide) (by decide +kernel) rfl rfl dX7_repay_47 ?_
        refine lv_iload_n cx.1 cx.2.1 dX7_repay_50 rfl (lv_at hl 1 rfl) ?_
        refine lv_isub cx.1 cx.2.1 dX7_repay_51 ?_
        refine zPut (v := .int ((upd (S 13) 5 0 1) - xa)) (own := RX7) (ty0 := tyX7) (ty := .int) cx hinX7 tyX7_ok nmX7 (mw_W cyI cyZ ad) hI hK hP hS 0 rfl rfl 1 (by decide) (by decide +kernel) rfl rfl (by decide +kernel) rfl rfl (Nat.le_of_ble_eq_true rfl) (zUp (zUp S 13 (upd (S 13) 5 0)) 13 (upd (upd (S 13) 5 0) 1 ((upd (S 13) 5 0 1) - xa))) rfl dX7_repay_52 (fun H locs hP hS => ?_)
        refine lv_aload_n cx.1 cx.2.1 dX7_repay_55 rfl (lv_at hl 0 rfl) ?_
        refine lv_dup cx.1 cx.2.1 dX7_repay_56 rfl ?_
        refine zGet (v := .int (upd (upd (S 13) 5 0) 1 ((upd (S 13) 5 0 1) - xa) 0)) (own := RX7) cx hinX7 hK hP 0 rfl rfl 0 (by decide) (by decide +kernel) rfl rfl dX7_repay_57 ?_
        refine lv_iload_n cx.1 cx.2.1 dX7_repay_60 rfl (lv_at hl 1 rfl) ?_
        refine lv_isub cx.1 cx.2.1 dX7_repay_61 ?_
        refine zPut (v := .int ((upd (upd (S 13) 5 0) 1 ((upd (S 13) 5 0 1) - xa) 0) - xa)) (own := RX7) (ty0 := tyX7) (ty := .int) cx hinX7 tyX7_ok nmX7 (mw_W cyI cyZ ad) hI hK hP hS 0 rfl rfl 0 (by decide) (by decide +kernel) rfl rfl (by decide +kernel) rfl rfl (Nat.le_of_ble_eq_true rfl) (zUp (zUp (zUp S 13 (upd (S 13) 5 0)) 13 (upd (upd (S 13) 5 0) 1 ((upd (S 13) 5 0 1) - xa))) 13 (upd (upd (upd (S 13) 5 0) 1 ((upd (S 13) 5 0 1) - xa)) 0 ((upd (upd (S 13) 5 0) 1 ((upd (S 13) 5 0 1) - xa) 0) - xa))) rfl dX7_repay_62 (fun H locs hP hS => ?_)
        obtain ⟨N6, hN6⟩ : ∃ T : zS, zUp (zUp (zUp S 13 (upd (S 13) 5 0)) 13 (upd (upd (S 13) 5 0) 1 ((upd (S 13) 5 0 1) - xa))) 13 (upd (upd (upd (S 13) 5 0) 1 ((upd (S 13) 5 0 1) - xa)) 0 ((upd (upd (S 13) 5 0) 1 ((upd (S 13) 5 0 1) - xa) 0) - xa)) = T := ⟨_, rfl⟩
        rw [hN6] at hP
        refine lv_aload_n cx.1 cx.2.1 dX7_repay_65 rfl (lv_at hl 0 rfl) ?_
        refine zGet (v := .int (N6 13 1)) (own := RX7) cx hinX7 hK hP 0 rfl rfl 1 (by decide) (by decide +kernel) rfl rfl dX7_repay_66 ?_
        subst hN6
        exact zRetI (v := (zUp (zUp (zUp S 13 (upd (S 13) 5 0)) 13 (upd (upd (S 13) 5 0) 1 ((upd (S 13) 5 0 1) - xa))) 13 (upd (upd (upd (S 13) 5 0) 1 ((upd (S 13) 5 0 1) - xa)) 0 ((upd (upd (S 13) 5 0) 1 ((upd (S 13) 5 0 1) - xa) 0) - xa))) 13 1) cx hrt hlk rfl hS hP ⟨(by unfold f_X7_repay; rw [if_pos c1, if_neg c2, if_pos c4]), (by unfold g_X7_repay; rw [if_pos c1, if_neg c2, if_pos c4])⟩ dX7_repay_69
      · refine lv_iconst (v := 2) cx.1 cx.2.1 dX7_repay_32 (by decide) ?_
        refine lv_goto (tgt := 37) cx.1 cx.2.1 dX7_repay_33 (by decide) ?_
        refine zThenIx (v := f_X7_fails S 2) (S' := zUp S 13 (upd (S 13) 5 2)) hS (zRunV (As := [.int 2]) (rest := []) _ 1 cx (c_X7_fails l dC dI cyI cyZ ad hI S 2) gX7_repay_X7_fails rfl ⟨rfl, rfl⟩ (by decide +kernel) ⟨Nat.le_of_ble_eq_true rfl, Nat.le_of_ble_eq_true rfl⟩ (zX_true) trivial hK hP hS 0 rfl rfl rfl rfl hl.1 rfl (Nat.le_of_ble_eq_true rfl) dX7_repay_37 ⟨Nat.zero_le _, Nat.zero_le _⟩) (fun H locs hP hS => ?_)
        rw [fails_2]
        refine lv_if_eq (tgt := 45) cx.1 cx.2.1 dX7_repay_40 (by decide) (fun c7 => ?_) (fun c7 => ?_)
        · exact absurd c7 (by decide)
        refine lv_iconst (v := 0) cx.1 cx.2.1 dX7_repay_43 (by decide) ?_
        exact zRetI (v := 0) cx hrt hlk rfl hS hP ⟨(by unfold f_X7_repay; rw [if_pos c1, if_neg c2, if_neg c4]), (by unfold g_X7_repay; rw [if_pos c1, if_neg c2, if_neg c4])⟩ dX7_repay_44
  · refine lv_iconst (v := 1) cx.1 cx.2.1 dX7_repay_12 (by decide) ?_
    refine lv_goto (tgt := 37) cx.1 cx.2.1 dX7_repay_13 (by decide) ?_
    refine zThenIx (v := f_X7_fails S 1) (S' := zUp S 13 (upd (S 13) 5 1)) hS (zRunV (As := [.int 1]) (rest := []) _ 1 cx (c_X7_fails l dC dI cyI cyZ ad hI S 1) gX7_repay_X7_fails rfl ⟨rfl, rfl⟩ (by decide +kernel) ⟨Nat.le_of_ble_eq_true rfl, Nat.le_of_ble_eq_true rfl⟩ (zX_true) trivial hK hP hS 0 rfl rfl rfl rfl hl.1 rfl (Nat.le_of_ble_eq_true rfl) dX7_repay_37 ⟨Nat.zero_le _, Nat.zero_le _⟩) (fun H locs hP hS => ?_)
    rw [fails_1]
    refine lv_if_eq (tgt := 45) cx.1 cx.2.1 dX7_repay_40 (by decide) (fun c8 => ?_) (fun c8 => ?_)
    · exact absurd c8 (by decide)
    refine lv_iconst (v := 0) cx.1 cx.2.1 dX7_repay_43 (by decide) ?_
    exact zRetI (v := 0) cx hrt hlk rfl hS hP ⟨(by unfold f_X7_repay; rw [if_neg (not_not_intro c1)]), (by unfold g_X7_repay; rw [if_neg (not_not_intro c1)])⟩ dX7_repay_44

def f_X7_kind (S : zS) (xi : Int32) : Int32 := if (f_X7_isCell xi) = 0 then 0 else (S 0 xi.toNatClampNeg)
def g_X7_kind (S : zS) (xi : Int32) : zS := if (f_X7_isCell xi) = 0 then zUp S 13 (upd (S 13) 5 1) else (zUp S 13 (upd (S 13) 5 0))
theorem fr_X7_kind (S : zS) (xi : Int32) (r : Nat) (h13 : r ≠ 13) : g_X7_kind S xi r = S r := by
  unfold g_X7_kind
  (repeat' split) <;> simp [zUp, h13]
set_option maxHeartbeats 1000000 in
set_option maxRecDepth 100000 in
theorem c_X7_kind (l : Launch) (dC : Nat → ClassId) (dI : Nat → Nat → Nat) (cyI cyZ : ClassId) (ad : Nat → Nat) (hI : zI ad 14) (S : zS) (xi : Int32) : zMi l (dC, dI) [(cyI, .int), (cyZ, .boolean)] ad 14 (fun _ _ => True) (mw cyI cyZ ad) yX7_kind wsX7_kind ({ frames := 2, cells := 0, slots := 0, locals := 42 } : Room) [.ref (ad 0), .int xi] S (fun v T => v = f_X7_kind S xi ∧ T = g_X7_kind S xi) := by
  refine zStartI (by decide) rfl (Nat.le_of_ble_eq_true rfl) ?_
  intro p e s m args below meth c ls cx hrt hlk hP hK hXs hl
  have hl : lv_has ls 2 [(0, .ref (ad 0)), (1, .int xi)] := hl
  have hS : va_S (zA ad 14 s.heap.size) s.heap s.heap [] := va_S.rf
  have hinX7 : ∀ w ∈ u_ws RX7 TX7 19, w ∈ wsX7_kind := by decide +kernel
  refine lv_aload_n cx.1 cx.2.1 dX7_kind_0 rfl (lv_at hl 0 rfl) ?_
  refine lv_iload_n cx.1 cx.2.1 dX7_kind_1 rfl (lv_at hl 1 rfl) ?_
  refine zThenIx (v := f_X7_isCell xi) (S' := S) hS (zRunS (As := [.int xi]) (rest := [.ref (ad 0)]) _ 1 cx (c_X7_isCell l dC dI cyI cyZ ad hI S xi) gX7_kind_X7_isCell rfl ⟨rfl, rfl⟩ (by decide +kernel) ⟨Nat.le_of_ble_eq_true rfl, Nat.le_of_ble_eq_true rfl⟩ (zX_true) trivial hK hP hS rfl hl.1 rfl (Nat.le_of_ble_eq_true rfl) dX7_kind_2 ⟨Nat.zero_le _, Nat.zero_le _⟩) (fun H locs hP hS => ?_)
  refine lv_if_eq (tgt := 12) cx.1 cx.2.1 dX7_kind_5 (by decide) (fun c1 => ?_) (fun c1 => ?_)
  · refine lv_iconst (v := 1) cx.1 cx.2.1 dX7_kind_12 (by decide) ?_
    refine zThenIx (v := f_X7_fails S 1) (S' := zUp S 13 (upd (S 13) 5 1)) hS (zRunV (As := [.int 1]) (rest := []) _ 1 cx (c_X7_fails l dC dI cyI cyZ ad hI S 1) gX7_kind_X7_fails rfl ⟨rfl, rfl⟩ (by decide +kernel) ⟨Nat.le_of_ble_eq_true rfl, Nat.le_of_ble_eq_true rfl⟩ (zX_true) trivial hK hP hS 0 rfl rfl rfl rfl hl.1 rfl (Nat.le_of_ble_eq_true rfl) dX7_kind_13 ⟨Nat.zero_le _, Nat.zero_le _⟩) (fun H locs hP hS => ?_)
    rw [fails_1]
    refine lv_if_eq (tgt := 23) cx.1 cx.2.1 dX7_kind_16 (by decide) (fun c2 => ?_) (fun c2 => ?_)
    · exact absurd c2 (by decide)
    refine lv_iconst (v := 0) cx.1 cx.2.1 dX7_kind_19 (by decide) ?_
    refine lv_goto (tgt := 29) cx.1 cx.2.1 dX7_kind_20 (by decide) ?_
    exact zRetI (v := 0) cx hrt hlk rfl hS hP ⟨(by unfold f_X7_kind; rw [if_pos c1]), (by unfold g_X7_kind; rw [if_pos c1])⟩ dX7_kind_29
  · refine lv_iconst (v := 0) cx.1 cx.2.1 dX7_kind_8 (by decide) ?_
    refine lv_goto (tgt := 13) cx.1 cx.2.1 dX7_kind_9 (by decide) ?_
    refine zThenIx (v := f_X7_fails S 0) (S' := zUp S 13 (upd (S 13) 5 0)) hS (zRunV (As := [.int 0]) (rest := []) _ 1 cx (c_X7_fails l dC dI cyI cyZ ad hI S 0) gX7_kind_X7_fails rfl ⟨rfl, rfl⟩ (by decide +kernel) ⟨Nat.le_of_ble_eq_true rfl, Nat.le_of_ble_eq_true rfl⟩ (zX_true) trivial hK hP hS 0 rfl rfl rfl rfl hl.1 rfl (Nat.le_of_ble_eq_true rfl) dX7_kind_13 ⟨Nat.zero_le _, Nat.zero_le _⟩) (fun H locs hP hS => ?_)
    rw [fails_0]
    refine lv_if_eq (tgt := 23) cx.1 cx.2.1 dX7_kind_16 (by decide) (fun c3 => ?_) (fun c3 => ?_)
    rotate_left
    · exact absurd c3 (by decide)
    refine lv_aload_n cx.1 cx.2.1 dX7_kind_23 rfl (lv_at hl 0 rfl) ?_
    refine zGet (v := .ref (ad 1)) (own := RX7) cx hinX7 hK hP 0 rfl rfl 5 (by decide) (by decide +kernel) rfl rfl dX7_kind_24 ?_
    refine lv_iload_n cx.1 cx.2.1 dX7_kind_27 rfl (lv_at hl 1 rfl) ?_
    refine zIld cx hK hP 1 0 rfl rfl (cell_in (by assumption)) dX7_kind_28 ?_
    exact zRetI (v := S 0 xi.toNatClampNeg) cx hrt hlk rfl hS hP ⟨(by unfold f_X7_kind; rw [if_neg c1]), (by unfold g_X7_kind; rw [if_neg c1])⟩ dX7_kind_29

def f_X7_level (S : zS) (xi : Int32) : Int32 := if (f_X7_isCell xi) = 0 then 0 else (S 1 xi.toNatClampNeg)
def g_X7_level (S : zS) (xi : Int32) : zS := if (f_X7_isCell xi) = 0 then zUp S 13 (upd (S 13) 5 1) else (zUp S 13 (upd (S 13) 5 0))
theorem fr_X7_level (S : zS) (xi : Int32) (r : Nat) (h13 : r ≠ 13) : g_X7_level S xi r = S r := by
  unfold g_X7_level
  (repeat' split) <;> simp [zUp, h13]
set_option maxHeartbeats 1000000 in
set_option maxRecDepth 100000 in
theorem c_X7_level (l : Launch) (dC : Nat → ClassId) (dI : Nat → Nat → Nat) (cyI cyZ : ClassId) (ad : Nat → Nat) (hI : zI ad 14) (S : zS) (xi : Int32) : zMi l (dC, dI) [(cyI, .int), (cyZ, .boolean)] ad 14 (fun _ _ => True) (mw cyI cyZ ad) yX7_level wsX7_level ({ frames := 2, cells := 0, slots := 0, locals := 42 } : Room) [.ref (ad 0), .int xi] S (fun v T => v = f_X7_level S xi ∧ T = g_X7_level S xi) := by
  refine zStartI (by decide) rfl (Nat.le_of_ble_eq_true rfl) ?_
  intro p e s m args below meth c ls cx hrt hlk hP hK hXs hl
  have hl : lv_has ls 2 [(0, .ref (ad 0)), (1, .int xi)] := hl
  have hS : va_S (zA ad 14 s.heap.size) s.heap s.heap [] := va_S.rf
  have hinX7 : ∀ w ∈ u_ws RX7 TX7 19, w ∈ wsX7_level := by decide +kernel
  refine lv_aload_n cx.1 cx.2.1 dX7_level_0 rfl (lv_at hl 0 rfl) ?_
  refine lv_iload_n cx.1 cx.2.1 dX7_level_1 rfl (lv_at hl 1 rfl) ?_
  refine zThenIx (v := f_X7_isCell xi) (S' := S) hS (zRunS (As := [.int xi]) (rest := [.ref (ad 0)]) _ 1 cx (c_X7_isCell l dC dI cyI cyZ ad hI S xi) gX7_level_X7_isCell rfl ⟨rfl, rfl⟩ (by decide +kernel) ⟨Nat.le_of_ble_eq_true rfl, Nat.le_of_ble_eq_true rfl⟩ (zX_true) trivial hK hP hS rfl hl.1 rfl (Nat.le_of_ble_eq_true rfl) dX7_level_2 ⟨Nat.zero_le _, Nat.zero_le _⟩) (fun H locs hP hS => ?_)
  refine lv_if_eq (tgt := 12) cx.1 cx.2.1 dX7_level_5 (by decide) (fun c1 => ?_) (fun c1 => ?_)
  · refine lv_iconst (v := 1) cx.1 cx.2.1 dX7_level_12 (by decide) ?_
    refine zThenIx (v := f_X7_fails S 1) (S' := zUp S 13 (upd (S 13) 5 1)) hS (zRunV (As := [.int 1]) (rest := []) _ 1 cx (c_X7_fails l dC dI cyI cyZ ad hI S 1) gX7_level_X7_fails rfl ⟨rfl, rfl⟩ (by decide +kernel) ⟨Nat.le_of_ble_eq_true rfl, Nat.le_of_ble_eq_true rfl⟩ (zX_true) trivial hK hP hS 0 rfl rfl rfl rfl hl.1 rfl (Nat.le_of_ble_eq_true rfl) dX7_level_13 ⟨Nat.zero_le _, Nat.zero_le _⟩) (fun H locs hP hS => ?_)
    rw [fails_1]
    refine lv_if_eq (tgt := 23) cx.1 cx.2.1 dX7_level_16 (by decide) (fun c2 => ?_) (fun c2 => ?_)
    · exact absurd c2 (by decide)
    refine lv_iconst (v := 0) cx.1 cx.2.1 dX7_level_19 (by decide) ?_
    refine lv_goto (tgt := 29) cx.1 cx.2.1 dX7_level_20 (by decide) ?_
    exact zRetI (v := 0) cx hrt hlk rfl hS hP ⟨(by unfold f_X7_level; rw [if_pos c1]), (by unfold g_X7_level; rw [if_pos c1])⟩ dX7_level_29
  · refine lv_iconst (v := 0) cx.1 cx.2.1 dX7_level_8 (by decide) ?_
    refine lv_goto (tgt := 13) cx.1 cx.2.1 dX7_level_9 (by decide) ?_
    refine zThenIx (v := f_X7_fails S 0) (S' := zUp S 13 (upd (S 13) 5 0)) hS (zRunV (As := [.int 0]) (rest := []) _ 1 cx (c_X7_fails l dC dI cyI cyZ ad hI S 0) gX7_level_X7_fails rfl ⟨rfl, rfl⟩ (by decide +kernel) ⟨Nat.le_of_ble_eq_true rfl, Nat.le_of_ble_eq_true rfl⟩ (zX_true) trivial hK hP hS 0 rfl rfl rfl rfl hl.1 rfl (Nat.le_of_ble_eq_true rfl) dX7_level_13 ⟨Nat.zero_le _, Nat.zero_le _⟩) (fun H locs hP hS => ?_)
    rw [fails_0]
    refine lv_if_eq (tgt := 23) cx.1 cx.2.1 dX7_level_16 (by decide) (fun c3 => ?_) (fun c3 => ?_)
    rotate_left
    · exact absurd c3 (by decide)
    refine lv_aload_n cx.1 cx.2.1 dX7_level_23 rfl (lv_at hl 0 rfl) ?_
    refine zGet (v := .ref (ad 2)) (own := RX7) cx hinX7 hK hP 0 rfl rfl 6 (by decide) (by decide +kernel) rfl rfl dX7_level_24 ?_
    refine lv_iload_n cx.1 cx.2.1 dX7_level_27 rfl (lv_at hl 1 rfl) ?_
    refine zIld cx hK hP 2 0 rfl rfl (cell_in (by assumption)) dX7_level_28 ?_
    exact zRetI (v := S 1 xi.toNatClampNeg) cx hrt hlk rfl hS hP ⟨(by unfold f_X7_level; rw [if_neg c1]), (by unfold g_X7_level; rw [if_neg c1])⟩ dX7_level_29

def f_X7_signOf (S : zS) (ni : Nat) (xp : Int32) : Int32 := if (S 0 ni) = 0 then (if xp = 0 then (if ¬ (S 0 ni) = 1 then 46 else (35)) else (32)) else (if ¬ (S 0 ni) = 1 then (if (S 0 ni) = 2 then (if ¬ xp = 0 then (if ¬ xp = 1 then 32 else (((48 + (S 1 ni)).toUInt32 % 65536).toInt32)) else (if ¬ (S 0 ni) = 2 then 84 else (72))) else (if ¬ (S 0 ni) = 3 then f_X7_letter (S 0 ni) xp else (if ¬ xp = 0 then (if ¬ xp = 1 then 32 else (((48 + (S 1 ni)).toUInt32 % 65536).toInt32)) else (if ¬ (S 0 ni) = 2 then 84 else (72))))) else (if xp = 0 then (if ¬ (S 0 ni) = 1 then 46 else (35)) else (32)))
set_option maxHeartbeats 1000000 in
set_option maxRecDepth 100000 in
theorem c_X7_signOf (l : Launch) (dC : Nat → ClassId) (dI : Nat → Nat → Nat) (cyI cyZ : ClassId) (ad : Nat → Nat) (hI : zI ad 14) (S : zS) (ni : Nat) (xp : Int32) (hni : ni < 64) : zMi l (dC, dI) [(cyI, .int), (cyZ, .boolean)] ad 14 (fun _ _ => True) (mw cyI cyZ ad) yX7_signOf wsX7_signOf ({ frames := 1, cells := 0, slots := 0, locals := 21 } : Room) [.ref (ad 0), .int (nI ni), .int xp] S (fun v T => v = f_X7_signOf S ni xp ∧ T = S) := by
  refine zStartI (by decide) rfl (Nat.le_of_ble_eq_true rfl) ?_
  intro p e s m args below meth c ls cx hrt hlk hP hK hXs hl
  have hl : lv_has ls 4 [(0, .ref (ad 0)), (1, .int (nI ni)), (2, .int xp)] := hl
  have hS : va_S (zA ad 14 s.heap.size) s.heap s.heap [] := va_S.rf
  have hinX7 : ∀ w ∈ u_ws RX7 TX7 19, w ∈ wsX7_signOf := by decide +kernel
  refine lv_aload_n cx.1 cx.2.1 dX7_signOf_0 rfl (lv_at hl 0 rfl) ?_
  refine zGet (v := .ref (ad 1)) (own := RX7) cx hinX7 hK hP 0 rfl rfl 5 (by decide) (by decide +kernel) rfl rfl dX7_signOf_1 ?_
  refine lv_iload_n cx.1 cx.2.1 dX7_signOf_4 rfl (lv_at hl 1 rfl) ?_
  refine zIldN cx hK hP 1 0 rfl rfl (ni) (by omega) (by decide) rfl dX7_signOf_5 ?_
  refine lv_istore_n (lv' := [(3, .int (S 0 ni)), (0, .ref (ad 0)), (1, .int (nI ni)), (2, .int xp)]) cx.1 cx.2.1 dX7_signOf_6 rfl hl (by decide) rfl (fun ls hl => ?_)
  refine lv_iload_n cx.1 cx.2.1 dX7_signOf_7 rfl (lv_at hl 0 rfl) ?_
  refine lv_if_eq (tgt := 16) cx.1 cx.2.1 dX7_signOf_8 (by decide) (fun c1 => ?_) (fun c1 => ?_)
  · refine lv_iload_n cx.1 cx.2.1 dX7_signOf_16 rfl (lv_at hl 3 rfl) ?_
    refine lv_if_eq (tgt := 25) cx.1 cx.2.1 dX7_signOf_17 (by decide) (fun c2 => ?_) (fun c2 => ?_)
    · refine lv_iload_n cx.1 cx.2.1 dX7_signOf_25 rfl (lv_at hl 0 rfl) ?_
      refine lv_iconst (v := 1) cx.1 cx.2.1 dX7_signOf_26 (by decide) ?_
      refine lv_icmp_ne (tgt := 35) cx.1 cx.2.1 dX7_signOf_27 (by decide) (fun c3 => ?_) (fun c3 => ?_)
      · refine lv_bipush (v := 46) cx.1 cx.2.1 dX7_signOf_35 (by decide) ?_
        exact zRetI (v := 46) cx hrt hlk (by first | rfl | exact pk_nc _ | exact letter_nar _ _) hS hP ⟨(by unfold f_X7_signOf; rw [if_pos c1, if_pos c2, if_pos c3]), rfl⟩ dX7_signOf_37
      · refine lv_bipush (v := 35) cx.1 cx.2.1 dX7_signOf_30 (by decide) ?_
        refine lv_goto (tgt := 37) cx.1 cx.2.1 dX7_signOf_32 (by decide) ?_
        exact zRetI (v := 35) cx hrt hlk (by first | rfl | exact pk_nc _ | exact letter_nar _ _) hS hP ⟨(by unfold f_X7_signOf; rw [if_pos c1, if_pos c2, if_neg (not_not_intro c3)]), rfl⟩ dX7_signOf_37
    · refine lv_bipush (v := 32) cx.1 cx.2.1 dX7_signOf_20 (by decide) ?_
      refine lv_goto (tgt := 37) cx.1 cx.2.1 dX7_signOf_22 (by decide) ?_
      exact zRetI (v := 32) cx hrt hlk (by first | rfl | exact pk_nc _ | exact letter_nar _ _) hS hP ⟨(by unfold f_X7_signOf; rw [if_pos c1, if_neg c2]), rfl⟩ dX7_signOf_37
  · refine lv_iload_n cx.1 cx.2.1 dX7_signOf_11 rfl (lv_at hl 0 rfl) ?_
    refine lv_iconst (v := 1) cx.1 cx.2.1 dX7_signOf_12 (by decide) ?_
    refine lv_icmp_ne (tgt := 38) cx.1 cx.2.1 dX7_signOf_13 (by decide) (fun c4 => ?_) (fun c4 => ?_)
    · refine lv_iload_n cx.1 cx.2.1 dX7_signOf_38 rfl (lv_at hl 0 rfl) ?_
      refine lv_iconst (v := 2) cx.1 cx.2.1 dX7_signOf_39 (by decide) ?_
      refine lv_icmp_eq (tgt := 48) cx.1 cx.2.1 dX7_signOf_40 (by decide) (fun c5 => ?_) (fun c5 => ?_)
      · refine lv_iload_n cx.1 cx.2.1 dX7_signOf_48 rfl (lv_at hl 3 rfl) ?_
        refine lv_if_ne (tgt := 67) cx.1 cx.2.1 dX7_signOf_49 (by decide) (fun c6 => ?_) (fun c6 => ?_)
        · refine lv_iload_n cx.1 cx.2.1 dX7_signOf_67 rfl (lv_at hl 3 rfl) ?_
          refine lv_iconst (v := 1) cx.1 cx.2.1 dX7_signOf_68 (by decide) ?_
          refine lv_icmp_ne (tgt := 85) cx.1 cx.2.1 dX7_signOf_69 (by decide) (fun c7 => ?_) (fun c7 => ?_)
          · refine lv_bipush (v := 32) cx.1 cx.2.1 dX7_signOf_85 (by decide) ?_
            exact zRetI (v := 32) cx hrt hlk (by first | rfl | exact pk_nc _ | exact letter_nar _ _) hS hP ⟨(by unfold f_X7_signOf; rw [if_neg c1, if_pos c4, if_pos c5, if_pos c6, if_pos c7]), rfl⟩ dX7_signOf_87
          · refine lv_bipush (v := 48) cx.1 cx.2.1 dX7_signOf_72 (by decide) ?_
            refine lv_aload_n cx.1 cx.2.1 dX7_signOf_74 rfl (lv_at hl 1 rfl) ?_
            refine zGet (v := .ref (ad 2)) (own := RX7) cx hinX7 hK hP 0 rfl rfl 6 (by decide) (by decide +kernel) rfl rfl dX7_signOf_75 ?_
            refine lv_iload_n cx.1 cx.2.1 dX7_signOf_78 rfl (lv_at hl 2 rfl) ?_
            refine zIldN cx hK hP 2 0 rfl rfl (ni) (by omega) (by decide) rfl dX7_signOf_79 ?_
            refine lv_iadd cx.1 cx.2.1 dX7_signOf_80 ?_
            refine lv_i2c cx.1 cx.2.1 dX7_signOf_81 (v := ((48 + (S 1 ni)).toUInt32 % 65536).toInt32) rfl ?_
            refine lv_goto (tgt := 87) cx.1 cx.2.1 dX7_signOf_82 (by decide) ?_
            exact zRetI (v := ((48 + (S 1 ni)).toUInt32 % 65536).toInt32) cx hrt hlk (by first | rfl | exact pk_nc _ | exact letter_nar _ _) hS hP ⟨(by unfold f_X7_signOf; rw [if_neg c1, if_pos c4, if_pos c5, if_pos c6, if_neg (not_not_intro c7)]), rfl⟩ dX7_signOf_87
        · refine lv_iload_n cx.1 cx.2.1 dX7_signOf_52 rfl (lv_at hl 0 rfl) ?_
          refine lv_iconst (v := 2) cx.1 cx.2.1 dX7_signOf_53 (by decide) ?_
          refine lv_icmp_ne (tgt := 62) cx.1 cx.2.1 dX7_signOf_54 (by decide) (fun c8 => ?_) (fun c8 => ?_)
          · refine lv_bipush (v := 84) cx.1 cx.2.1 dX7_signOf_62 (by decide) ?_
            refine lv_goto (tgt := 87) cx.1 cx.2.1 dX7_signOf_64 (by decide) ?_
            exact zRetI (v := 84) cx hrt hlk (by first | rfl | exact pk_nc _ | exact letter_nar _ _) hS hP ⟨(by unfold f_X7_signOf; rw [if_neg c1, if_pos c4, if_pos c5, if_neg (not_not_intro c6), if_pos c8]), rfl⟩ dX7_signOf_87
          · refine lv_bipush (v := 72) cx.1 cx.2.1 dX7_signOf_57 (by decide) ?_
            refine lv_goto (tgt := 87) cx.1 cx.2.1 dX7_signOf_59 (by decide) ?_
            exact zRetI (v := 72) cx hrt hlk (by first | rfl | exact pk_nc _ | exact letter_nar _ _) hS hP ⟨(by unfold f_X7_signOf; rw [if_neg c1, if_pos c4, if_pos c5, if_neg (not_not_intro c6), if_neg (not_not_intro c8)]), rfl⟩ dX7_signOf_87
      · refine lv_iload_n cx.1 cx.2.1 dX7_signOf_43 rfl (lv_at hl 0 rfl) ?_
        refine lv_iconst (v := 3) cx.1 cx.2.1 dX7_signOf_44 (by decide) ?_
        refine lv_icmp_ne (tgt := 88) cx.1 cx.2.1 dX7_signOf_45 (by decide) (fun c9 => ?_) (fun c9 => ?_)
        · refine lv_iload_n cx.1 cx.2.1 dX7_signOf_88 rfl (lv_at hl 0 rfl) ?_
          refine lv_iload_n cx.1 cx.2.1 dX7_signOf_89 rfl (lv_at hl 3 rfl) ?_
          refine zThenIx (v := f_X7_letter (S 0 ni) xp) (S' := S) hS (zRunS (As := [.int (S 0 ni), .int xp]) (rest := []) _ 2 cx (c_X7_letter l dC dI cyI cyZ ad hI S (S 0 ni) xp) gX7_signOf_X7_letter rfl ⟨rfl, rfl⟩ (by decide +kernel) ⟨Nat.le_of_ble_eq_true rfl, Nat.le_of_ble_eq_true rfl⟩ (zX_true) trivial hK hP hS rfl hl.1 rfl (Nat.le_of_ble_eq_true rfl) dX7_signOf_90 ⟨Nat.zero_le _, Nat.zero_le _⟩) (fun H locs hP hS => ?_)
          exact zRetI (v := f_X7_letter (S 0 ni) xp) cx hrt hlk (by first | rfl | exact pk_nc _ | exact letter_nar _ _) hS hP ⟨(by unfold f_X7_signOf; rw [if_neg c1, if_pos c4, if_neg c5, if_pos c9]), rfl⟩ dX7_signOf_93
        · refine lv_iload_n cx.1 cx.2.1 dX7_signOf_48 rfl (lv_at hl 3 rfl) ?_
          refine lv_if_ne (tgt := 67) cx.1 cx.2.1 dX7_signOf_49 (by decide) (fun c10 => ?_) (fun c10 => ?_)
          · refine lv_iload_n cx.1 cx.2.1 dX7_signOf_67 rfl (lv_at hl 3 rfl) ?_
            refine lv_iconst (v := 1) cx.1 cx.2.1 dX7_signOf_68 (by decide) ?_
            refine lv_icmp_ne (tgt := 85) cx.1 cx.2.1 dX7_signOf_69 (by decide) (fun c11 => ?_) (fun c11 => ?_)
            · refine lv_bipush (v := 32) cx.1 cx.2.1 dX7_signOf_85 (by decide) ?_
              exact zRetI (v := 32) cx hrt hlk (by first | rfl | exact pk_nc _ | exact letter_nar _ _) hS hP ⟨(by unfold f_X7_signOf; rw [if_neg c1, if_pos c4, if_neg c5, if_neg (not_not_intro c9), if_pos c10, if_pos c11]), rfl⟩ dX7_signOf_87
            · refine lv_bipush (v := 48) cx.1 cx.2.1 dX7_signOf_72 (by decide) ?_
              refine lv_aload_n cx.1 cx.2.1 dX7_signOf_74 rfl (lv_at hl 1 rfl) ?_
              refine zGet (v := .ref (ad 2)) (own := RX7) cx hinX7 hK hP 0 rfl rfl 6 (by decide) (by decide +kernel) rfl rfl dX7_signOf_75 ?_
              refine lv_iload_n cx.1 cx.2.1 dX7_signOf_78 rfl (lv_at hl 2 rfl) ?_
              refine zIldN cx hK hP 2 0 rfl rfl (ni) (by omega) (by decide) rfl dX7_signOf_79 ?_
              refine lv_iadd cx.1 cx.2.1 dX7_signOf_80 ?_
              refine lv_i2c cx.1 cx.2.1 dX7_signOf_81 (v := ((48 + (S 1 ni)).toUInt32 % 65536).toInt32) rfl ?_
              refine lv_goto (tgt := 87) cx.1 cx.2.1 dX7_signOf_82 (by decide) ?_
              exact zRetI (v := ((48 + (S 1 ni)).toUInt32 % 65536).toInt32) cx hrt hlk (by first | rfl | exact pk_nc _ | exact letter_nar _ _) hS hP ⟨(by unfold f_X7_signOf; rw [if_neg c1, if_pos c4, if_neg c5, if_neg (not_not_intro c9), if_pos c10, if_neg (not_not_intro c11)]), rfl⟩ dX7_signOf_87
          · refine lv_iload_n cx.1 cx.2.1 dX7_signOf_52 rfl (lv_at hl 0 rfl) ?_
            refine lv_iconst (v := 2) cx.1 cx.2.1 dX7_signOf_53 (by decide) ?_
            refine lv_icmp_ne (tgt := 62) cx.1 cx.2.1 dX7_signOf_54 (by decide) (fun c12 => ?_) (fun c12 => ?_)
            · refine lv_bipush (v := 84) cx.1 cx.2.1 dX7_signOf_62 (by decide) ?_
              refine lv_goto (tgt := 87) cx.1 cx.2.1 dX7_signOf_64 (by decide) ?_
              exact zRetI (v := 84) cx hrt hlk (by first | rfl | exact pk_nc _ | exact letter_nar _ _) hS hP ⟨(by unfold f_X7_signOf; rw [if_neg c1, if_pos c4, if_neg c5, if_neg (not_not_intro c9), if_neg (not_not_intro c10), if_pos c12]), rfl⟩ dX7_signOf_87
            · refine lv_bipush (v := 72) cx.1 cx.2.1 dX7_signOf_57 (by decide) ?_
              refine lv_goto (tgt := 87) cx.1 cx.2.1 dX7_signOf_59 (by decide) ?_
              exact zRetI (v := 72) cx hrt hlk (by first | rfl | exact pk_nc _ | exact letter_nar _ _) hS hP ⟨(by unfold f_X7_signOf; rw [if_neg c1, if_pos c4, if_neg c5, if_neg (not_not_intro c9), if_neg (not_not_intro c10), if_neg (not_not_intro c12)]), rfl⟩ dX7_signOf_87
    · refine lv_iload_n cx.1 cx.2.1 dX7_signOf_16 rfl (lv_at hl 3 rfl) ?_
      refine lv_if_eq (tgt := 25) cx.1 cx.2.1 dX7_signOf_17 (by decide) (fun c13 => ?_) (fun c13 => ?_)
      · refine lv_iload_n cx.1 cx.2.1 dX7_signOf_25 rfl (lv_at hl 0 rfl) ?_
        refine lv_iconst (v := 1) cx.1 cx.2.1 dX7_signOf_26 (by decide) ?_
        refine lv_icmp_ne (tgt := 35) cx.1 cx.2.1 dX7_signOf_27 (by decide) (fun c14 => ?_) (fun c14 => ?_)
        · refine lv_bipush (v := 46) cx.1 cx.2.1 dX7_signOf_35 (by decide) ?_
          exact zRetI (v := 46) cx hrt hlk (by first | rfl | exact pk_nc _ | exact letter_nar _ _) hS hP ⟨(by unfold f_X7_signOf; rw [if_neg c1, if_neg (not_not_intro c4), if_pos c13, if_pos c14]), rfl⟩ dX7_signOf_37
        · refine lv_bipush (v := 35) cx.1 cx.2.1 dX7_signOf_30 (by decide) ?_
          refine lv_goto (tgt := 37) cx.1 cx.2.1 dX7_signOf_32 (by decide) ?_
          exact zRetI (v := 35) cx hrt hlk (by first | rfl | exact pk_nc _ | exact letter_nar _ _) hS hP ⟨(by unfold f_X7_signOf; rw [if_neg c1, if_neg (not_not_intro c4), if_pos c13, if_neg (not_not_intro c14)]), rfl⟩ dX7_signOf_37
      · refine lv_bipush (v := 32) cx.1 cx.2.1 dX7_signOf_20 (by decide) ?_
        refine lv_goto (tgt := 37) cx.1 cx.2.1 dX7_signOf_22 (by decide) ?_
        exact zRetI (v := 32) cx hrt hlk (by first | rfl | exact pk_nc _ | exact letter_nar _ _) hS hP ⟨(by unfold f_X7_signOf; rw [if_neg c1, if_neg (not_not_intro c4), if_neg c13]), rfl⟩ dX7_signOf_37
