def aw (cyI : ClassId) (N : Nat) (ad : Nat → Nat) (S : zS) : va_W := [(ad 0, .inl (cyI, N, .inl (S 0)))]
theorem aw_W (cyI : ClassId) (N : Nat) (ad : Nat → Nat) : zW ad 1 (aw cyI N ad) := fun _ => rfl
theorem va_D1A {A : Nat → Prop} (q : Nat × va_E) (h : A q.1) : va_D A [q] := by
  have h0 : ∀ (k : Nat) (x : Nat × va_E), [q][k]? = some x → k = 0 ∧ x = q := by
    intro k x hk
    match k, hk with
    | 0, hk => exact ⟨rfl, (Option.some.inj hk).symm⟩
    | k + 1, hk => simp at hk
  exact ⟨fun i j x y hi hj _ => by rw [(h0 i x hi).1, (h0 j y hj).1], fun k x hk => by rw [(h0 k x hk).2]; exact h⟩
theorem va_D1 (q : Nat × va_E) : va_D (fun _ => True) [q] := va_D1A q trivial
set_option maxHeartbeats 4000000 in
set_option maxRecDepth 100000 in
theorem c_fill1 (l : Launch) (dC : Nat → ClassId) (dI : Nat → Nat → Nat) (cyI : ClassId) (ad : Nat → Nat) (N : Nat) (hN : N < 2 ^ 31) (S : zS) (v : Int32) : zMv l (dC, dI) [(cyI, .int)] ad 1 (fun _ _ => True) (aw cyI N ad) yJ7_fill_53178 wsJ7_fill_53178 ({ frames := 0, cells := 0, slots := 0, locals := 0 } : Room) [.ref (ad 0), .int v] S (fun T => T = zUp S 0 (rf (N) (S 0) v)) := by
  refine zStartV (by decide) rfl (Nat.le_of_ble_eq_true rfl) ?_
  intro p e s m args below meth c ls cx hr9 hlk hP hK hXs hl
  have hl : lv_has ls 4 [(0, .ref (ad 0)), (1, .int v)] := hl
  have hS : va_S (zA ad 1 s.heap.size) s.heap s.heap [] := va_S.rf
  obtain ⟨Q, hQ⟩ : ∃ Q, Q = MQ below (zQv (dC, dI) (aw cyI N ad) (fun T => T = zUp S 0 (rf (N) (S 0) v)) (zA ad 1 s.heap.size)) args s 0 0 (zA ad 1 s.heap.size) := ⟨_, rfl⟩
  rw [← hQ]
  refine lv_iconst (v := 0) cx.1 cx.2.1 dJ7_fill_53178_0 (by decide) ?_
  refine lv_istore_n (lv' := [(2, .int 0), (0, .ref (ad 0)), (1, .int v)]) cx.1 cx.2.1 dJ7_fill_53178_1 rfl hl (by decide) rfl (fun ls hl => ?_)
  refine lv_aload_n cx.1 cx.2.1 dJ7_fill_53178_2 rfl (lv_at hl 1 rfl) ?_
  refine va_alen cx.1 cx.2.1 hK hP 0 0 (show (aw cyI N ad S)[0]? = some (ad 0, .inl (cyI, N, .inl (S 0))) from rfl) rfl (v := nI (N)) rfl dJ7_fill_53178_3 ?_
  refine lv_istore_n (lv' := [(3, .int (nI (N))), (2, .int 0), (0, .ref (ad 0)), (1, .int v)]) cx.1 cx.2.1 dJ7_fill_53178_4 rfl hl (by decide) rfl (fun ls hl => ?_)
  have lp : ∀ (k i : Nat) (_ : i ≤ N) (_ : N - i < k) (H : Heap) (locs : List Loc) (ls : Array Slot), va_P (dC, dI) vwCl (aw cyI N ad (zUp S 0 (rf i (S 0) v))) H → va_S (zA ad 1 s.heap.size) s.heap H locs → lv_has ls 4 [(3, .int (nI (N))), (2, .int (nI i)), (0, .ref (ad 0)), (1, .int v)] → W p l e (headSpec wsJ7_fill_53178 ({ frames := 0, cells := 0, slots := 0, locals := 0 } : Room)).room s m args below meth c H locs 0 0 Q (F0 m 5 ls []) := by
    intro k
    induction k with
    | zero => intro i hi hm; exact absurd hm (Nat.not_lt_zero _)
    | succ k ih =>
      intro i hi hm H locs ls hP hS hl
      refine lv_iload_n cx.1 cx.2.1 dJ7_fill_53178_5 rfl (lv_at hl 1 rfl) ?_
      refine lv_iload_n cx.1 cx.2.1 dJ7_fill_53178_6 rfl (lv_at hl 0 rfl) ?_
      have hb9 := hN
      refine lv_icmp_ge (tgt := 20) cx.1 cx.2.1 dJ7_fill_53178_7 (by decide) (fun c1 => ?_) (fun c1 => ?_)
      · have n1 := (nI_leI (a := N) (b := i) hb9 (by omega)).mp c1
        obtain rfl : i = N := by omega
        rw [hQ]
        exact zRetV cx hr9 hlk hS hP rfl dJ7_fill_53178_20
      · have n1 : ¬ N ≤ i := fun z => c1 ((nI_leI (a := N) (b := i) hb9 (by omega)).mpr z)
        refine lv_aload_n cx.1 cx.2.1 dJ7_fill_53178_10 rfl (lv_at hl 2 rfl) ?_
        refine lv_iload_n cx.1 cx.2.1 dJ7_fill_53178_11 rfl (lv_at hl 1 rfl) ?_
        refine lv_iload_n cx.1 cx.2.1 dJ7_fill_53178_12 rfl (lv_at hl 3 rfl) ?_
        refine zIstN cx (aw_W cyI N ad) (fun i j hi hj _ => by omega) hK hP hS 0 0 (show (aw cyI N ad _)[0]? = some (ad 0, .inl (cyI, N, .inl _)) from rfl) rfl i (by omega) hb9 rfl (zUp S 0 (rf (i + 1) (S 0) v)) ?_ dJ7_fill_53178_13 (fun H locs hP hS => ?_)
        · simp [aw, zUp_s, rf_s]
        refine lv_iinc (v := nI (i + 1)) (lv' := [(2, .int (nI (i + 1))), (3, .int (nI (N))), (0, .ref (ad 0)), (1, .int v)]) cx.1 cx.2.1 dJ7_fill_53178_14 hl (k := 1) rfl (nI_1 i) (by decide) rfl (fun ls hl => ?_)
        refine lv_goto (tgt := 5) cx.1 cx.2.1 dJ7_fill_53178_17 (by decide) ?_
        exact ih (i + 1) (by omega) (by omega) _ _ ls hP hS (lv_sub hl [1, 0, 2, 3] rfl)
  exact lp (N - 0 + 1) 0 (by omega) (Nat.lt_succ_self _) _ _ ls (by rw [rf_0, zUp_self]; exact hP) hS hl
set_option maxHeartbeats 4000000 in
set_option maxRecDepth 100000 in
theorem c_X4_init (l : Launch) (dC : Nat → ClassId) (dI : Nat → Nat → Nat) (cyI : ClassId) (h0 : Nat) (N : Nat) (hN0 : 0 < N) (hN : N ≤ 4096) (v : Int32) : iMet l (dC, dI) [(cyI, .int)] (fun _ => True) yX4_init wsX4_init ({ frames := 1, cells := 1, slots := N, locals := 23 } : Room) [.ref h0, .int (nI N), .int v] [(h0, .inr (6, [.null]))] (fun u => [(h0, .inr (6, [.ref (u 0)])), (u 0, .inl (cyI, N, .inl (rf N (fun _ => 0) v)))]) (fun _ => True) 1 N := by
  refine iStart (by decide) rfl (Nat.le_of_ble_eq_true rfl) (va_D1 _) ?_
  intro p e s m args below meth c ls A cx hr hlk hin hP hD hK hXs hA hl
  obtain ⟨hx, hb, hml, hown, hts⟩ := id cx
  have hS : va_S A s.heap s.heap [] := va_S.rf
  have hinX4 : ∀ w ∈ u_ws RX4 TX4 1, w ∈ wsX4_init := by decide +kernel
  have hl : lv_has ls 3 [(0, .ref h0), (1, .int (nI N)), (2, .int v)] := hl
  have hP : va_P (dC, dI) vwCl [(h0, .inr (6, [.null]))] s.heap := hP
  refine lv_aload_n hx hb dX4_init_0 rfl (lv_at hl 0 rfl) ?_
  refine W.objInit hx hb hown (hts (.methodLink RX4 3 objectInit) (by decide +kernel)) (hts (.instanceMethod objectInit) (by decide +kernel)) (hts (.code objectInit ⟨#[0xb1]⟩ 1 none) (by decide +kernel)) rfl (by rw [hml]; exact hl.1) rfl dX4_init_1 (Nat.le_of_ble_eq_true rfl) (Nat.le_of_ble_eq_true rfl) ?_
  refine W.eq (g2 := F0 m 4 ls []) rfl ?_
  refine lv_aload_n hx hb dX4_init_4 rfl (lv_at hl 0 rfl) ?_
  refine lv_iload_n hx hb dX4_init_5 rfl (lv_at hl 1 rfl) ?_
  refine lv_if_le (tgt := 13) hx hb dX4_init_6 (by decide) (fun c1 => absurd c1 (by rw [← nI_0]; exact nI_nle hN0 (by omega))) (fun _ => ?_)
  refine lv_iload_n hx hb dX4_init_9 rfl (lv_at hl 1 rfl) ?_
  refine lv_goto (tgt := 14) hx hb dX4_init_10 (by decide) ?_
  refine va_newa (atype := .int) (a0 := (N, .inl (fun _ => 0))) (N' := N) hx hb (hts (.arrayClass .int) (by decide +kernel)) rfl hK hP hD hS hA (fun _ => rfl) (nI_pos (by omega)) (nI_clamp (by omega)) (by show N * 4 ≤ 536870912; omega) (Nat.le_of_ble_eq_true rfl) (by show 0 + N ≤ N; omega) dX4_init_14 (fun q cA H hK2 hP hD hS => ?_)
  obtain rfl : cyI = cA := Option.some.inj ((va_nm_int (hK2.2 0 _ rfl).2).symm.trans (va_nm_int (hK2.2 1 _ rfl).2))
  have hP : va_P (dC, dI) vwCl [(h0, .inr (6, [.null])), (q, .inl (cyI, N, .inl (fun _ => 0)))] H := hP
  have hD : va_D A [(h0, .inr (6, [.null])), (q, .inl (cyI, N, .inl (fun _ => 0)))] := hD
  refine va_putF (D := (dC, dI)) (ci := 6) (v := .ref q) (ty := .array .int) (C := RX4) (T := TX4) (N := 1) hx hb hts hinX4 tyX4 tyX4_ok nmX4 hown hK hP hD hS 0 rfl rfl 0 (by decide) (hts (.fieldLink RX4 9 "MillbrookBorough$Row" "numbers" "[I") (by decide +kernel)) (fun _ h9 => h9) rfl hin rfl (by decide +kernel) rfl rfl (Nat.le_of_ble_eq_true rfl) dX4_init_16 (fun H locs hP hD hS => ?_)
  have hP : va_P (dC, dI) vwCl [(h0, .inr (6, [.ref q])), (q, .inl (cyI, N, .inl (fun _ => 0)))] H := hP
  have hD : va_D A [(h0, .inr (6, [.ref q])), (q, .inl (cyI, N, .inl (fun _ => 0)))] := hD
  refine lv_aload_n hx hb dX4_init_19 rfl (lv_at hl 0 rfl) ?_
  refine va_get (D := (dC, dI)) (ci := 6) (v := .ref q) (C := RX4) (T := TX4) (N := 1) hx hb hts hinX4 hown hK hP 0 rfl rfl 0 (by decide) (hts (.fieldLink RX4 9 "MillbrookBorough$Row" "numbers" "[I") (by decide +kernel)) (fun _ h9 => h9) rfl dX4_init_20 ?_
  refine lv_iload_n hx hb dX4_init_23 rfl (lv_at hl 2 rfl) ?_
  have hPc := hP.sub (ws' := aw cyI N (fun _ => q) (fun _ _ => 0)) [1] rfl
  have hFc := va_free (wc := [(q, .inl (cyI, N, .inl (fun _ => 0)))]) hD hS hA [1] rfl
  have hz : ∀ x, zA (fun _ => q) 1 H.size x → va_A [(q, .inl (cyI, N, .inl (fun _ => 0)))] H.size x := fun x h => h.elim (fun ⟨_, _, e9⟩ => by subst e9; exact Or.inl ⟨0, _, rfl⟩) Or.inr
  refine va_callv (va_runS (As := [.ref q, .int v]) (rest := []) cx (c_fill1 l dC dI cyI (fun _ => q) N (by omega) (fun _ _ => 0) v H.size) (va_cwS 2 hts gX4_init_J7_fill_53178 rfl rfl rfl (by decide +kernel) ⟨(Nat.le_of_ble_eq_true rfl), (Nat.le_of_ble_eq_true rfl)⟩) ⟨zBlind zX_true, fun U hU hW => ⟨rfl, by rw [hU], by rw [hU]; exact hPc, va_K.moved hW.alike hK, trivial⟩⟩ rfl rfl hl.1 rfl (lv_room (Nat.le_of_ble_eq_true rfl)) dX4_init_24 ⟨(Nat.le_of_ble_eq_true rfl), by show 0 + N + 0 ≤ N; omega⟩) hS (fun x _ h => hFc x (hz x h)) (fun x h => hFc x (hz x h)) (fun T t H1 locs ht hvm hT hB hz1 hk1 hS => ?_)
  subst hT
  rw [ht] at hB
  have hB : va_P (dC, dI) vwCl [(q, .inl (cyI, N, .inl (rf N (fun _ => 0) v)))] H1 := hB
  have hk2 : ∀ x : Nat, x < H.size → ¬ va_A [(q, .inl (cyI, N, .inl (fun _ => 0)))] H.size x → H1[x]? = H[x]? := fun x h1 h2 => hk1 x h1 (fun h => h2 (hz x h))
  obtain ⟨hP, hD⟩ := va_join (wr := [(h0, .inr (6, [.ref q]))]) (w1 := [(q, .inl (cyI, N, .inl (rf N (fun _ => 0) v)))]) hP hD [1] [0] rfl rfl (by decide) (by decide) hk2 hFc hB (va_D1A _ (Or.inl ⟨0, _, rfl⟩))
  exact iRet (fun _ => q) cx hr hlk hS trivial hP hD (Nat.le_of_ble_eq_true rfl) (by show 0 + N + 0 ≤ N; omega) dX4_init_27
