set_option maxHeartbeats 4000000 in
set_option maxRecDepth 100000 in
theorem c_L_isDone (l : Launch) (dC : Nat → ClassId) (dI : Nat → Nat → Nat) (cyI cyB : ClassId) (ad : Nat → Nat) (hI : zI ad 39) (sa L : Nat) (xs : Nat → Int32) (hLb : L < 2 ^ 31) (hlf : l.stackTraces = false) (S : zS) (ka : Nat) (hka : ka < 900) (hB : LBd S) : bMet l (dC, dI) (lTys cyI cyB) ad 39 (xZ sa L xs) (qw cyI ad) yL_isDone wsB_isDone ({ frames := 10, cells := 18, slots := 456, locals := 234 } : Room) [.ref (ad 0), .ref sa, .int (nI ka), .ref (ad 36), .ref (ad 37), .ref (ad 38)] S 18 456 (fun v T => v = 1 ∧ LBd T) := by
  refine bStart (by decide) rfl (Nat.le_of_ble_eq_true rfl) ?_
  intro p e s m args below meth c ls cx hrt hlk hP hK hXs hl
  have hl : lv_has ls 12 [(0, .ref (ad 0)), (1, .ref sa), (2, .int (nI ka)), (3, .ref (ad 36)), (4, .ref (ad 37)), (5, .ref (ad 38))] := hl
  have hS : va_S (zA ad 39 s.heap.size) s.heap s.heap [] := va_S.rf
  obtain ⟨Q, hQ⟩ : ∃ Q, Q = MQ below (zQi (dC, dI) (qw cyI ad) (fun v T => v = 1 ∧ LBd T) (zA ad 39 s.heap.size)) args s 18 456 (zA ad 39 s.heap.size) := ⟨_, rfl⟩
  rw [← hQ]
  refine lv_aload_n cx.1 cx.2.1 dL_isDone_0 rfl (lv_at hl 1 rfl) ?_
  refine lv_iload_n cx.1 cx.2.1 dL_isDone_1 rfl (lv_at hl 2 rfl) ?_
  refine lv_bipush (v := 40) cx.1 cx.2.1 dL_isDone_2 (by decide) ?_
  refine bCall (As := [.ref sa, .int (nI ka), .int 40]) (rest := []) 3 cx (c_L_part l dC dI cyI cyB ad hI sa L xs hLb S ka 40 (by omega) (by decide) (by decide)) gL_isDone_L_part rfl ⟨rfl, rfl⟩ (by decide +kernel) ⟨Nat.le_of_ble_eq_true rfl, Nat.le_of_ble_eq_true rfl⟩ (xZ_X sa L xs ad 39) hXs hK hP hS rfl hl.1 rfl (Nat.le_of_ble_eq_true rfl) dL_isDone_4 ⟨Nat.le_of_ble_eq_true rfl, Nat.le_of_ble_eq_true rfl⟩ (fun rD TD H locs hp hP hS => ?_)
  obtain ⟨⟨w, hw, h7⟩, h8⟩ := hp
  subst h7
  rw [h8] at hP
  refine lv_istore (lv' := [(6, .int (nI w)), (0, .ref (ad 0)), (1, .ref sa), (2, .int (nI ka)), (3, .ref (ad 36)), (4, .ref (ad 37)), (5, .ref (ad 38))]) cx.1 cx.2.1 dL_isDone_7 hl (by decide) rfl (fun ls hl => ?_)
  refine lv_aload_n cx.1 cx.2.1 dL_isDone_9 rfl (lv_at hl 2 rfl) ?_
  refine lv_iload_n cx.1 cx.2.1 dL_isDone_10 rfl (lv_at hl 3 rfl) ?_
  refine lv_iconst (v := 1) cx.1 cx.2.1 dL_isDone_11 (by decide) ?_
  refine zAddN (a := ka) (b := 1) cx.1 cx.2.1 dL_isDone_12 ?_
  refine lv_sipush (v := 6000) cx.1 cx.2.1 dL_isDone_13 (by decide) ?_
  refine bCall (As := [.ref sa, .int (nI (ka + 1)), .int 6000]) (rest := []) 3 cx (c_L_part l dC dI cyI cyB ad hI sa L xs hLb S (ka + 1) 6000 (by omega) (by decide) (by decide)) gL_isDone_L_part rfl ⟨rfl, rfl⟩ (by decide +kernel) ⟨Nat.le_of_ble_eq_true rfl, Nat.le_of_ble_eq_true rfl⟩ (xZ_X sa L xs ad 39) hXs hK hP hS rfl hl.1 rfl (Nat.le_of_ble_eq_true rfl) dL_isDone_16 ⟨Nat.le_of_ble_eq_true rfl, Nat.le_of_ble_eq_true rfl⟩ (fun rD TD H locs hp hP hS => ?_)
  obtain ⟨⟨o, ho, h7⟩, h8⟩ := hp
  subst h7
  rw [h8] at hP
  refine lv_istore (lv' := [(7, .int (nI o)), (6, .int (nI w)), (0, .ref (ad 0)), (1, .ref sa), (2, .int (nI ka)), (3, .ref (ad 36)), (4, .ref (ad 37)), (5, .ref (ad 38))]) cx.1 cx.2.1 dL_isDone_19 hl (by decide) rfl (fun ls hl => ?_)
  refine lv_aload_n cx.1 cx.2.1 dL_isDone_21 rfl (lv_at hl 3 rfl) ?_
  refine lv_iload_n cx.1 cx.2.1 dL_isDone_22 rfl (lv_at hl 4 rfl) ?_
  refine lv_iconst (v := 2) cx.1 cx.2.1 dL_isDone_23 (by decide) ?_
  refine zAddN (a := ka) (b := 2) cx.1 cx.2.1 dL_isDone_24 ?_
  refine lv_sipush (v := 7000) cx.1 cx.2.1 dL_isDone_25 (by decide) ?_
  refine bCall (As := [.ref sa, .int (nI (ka + 2)), .int 7000]) (rest := []) 3 cx (c_L_part l dC dI cyI cyB ad hI sa L xs hLb S (ka + 2) 7000 (by omega) (by decide) (by decide)) gL_isDone_L_part rfl ⟨rfl, rfl⟩ (by decide +kernel) ⟨Nat.le_of_ble_eq_true rfl, Nat.le_of_ble_eq_true rfl⟩ (xZ_X sa L xs ad 39) hXs hK hP hS rfl hl.1 rfl (Nat.le_of_ble_eq_true rfl) dL_isDone_28 ⟨Nat.le_of_ble_eq_true rfl, Nat.le_of_ble_eq_true rfl⟩ (fun rD TD H locs hp hP hS => ?_)
  obtain ⟨⟨q, hq, h7⟩, h8⟩ := hp
  subst h7
  rw [h8] at hP
  refine lv_istore (lv' := [(8, .int (nI q)), (7, .int (nI o)), (6, .int (nI w)), (0, .ref (ad 0)), (1, .ref sa), (2, .int (nI ka)), (3, .ref (ad 36)), (4, .ref (ad 37)), (5, .ref (ad 38))]) cx.1 cx.2.1 dL_isDone_31 hl (by decide) rfl (fun ls hl => ?_)
  have j54 : ∀ (v : Int32) (H : Heap) (locs : List Loc), v = (if ¬ (nI (o % 30)) = 0 then (nI (16 + o % 40)) else 64 : Int32) → va_P (dC, dI) vwCl (qw cyI ad S) H → va_S (zA ad 39 s.heap.size) s.heap H locs → W p l e (headSpec wsB_isDone ({ frames := 10, cells := 18, slots := 456, locals := 234 } : Room)).room s m args below meth c H locs 0 0 Q (F0 m 54 ls (.int v :: [])) := by
    intro v H locs hv hP hS
    obtain ⟨c1, hc1, ec1⟩ : ∃ c1 : Nat, c1 ≤ 64 ∧ (if ¬ (nI (o % 30)) = 0 then (nI (16 + o % 40)) else 64 : Int32) = nI c1 := by (repeat' split) <;> first | exact ⟨16 + o % 40, by omega, rfl⟩ | exact ⟨64, by omega, rfl⟩
    rw [ec1] at hv
    subst hv
    refine lv_istore (lv' := [(9, .int (nI c1)), (8, .int (nI q)), (7, .int (nI o)), (6, .int (nI w)), (0, .ref (ad 0)), (1, .ref sa), (2, .int (nI ka)), (3, .ref (ad 36)), (4, .ref (ad 37)), (5, .ref (ad 38))]) cx.1 cx.2.1 dL_isDone_54 hl (by decide) rfl (fun ls hl => ?_)
    refine lv_iload cx.1 cx.2.1 dL_isDone_56 (lv_at hl 3 rfl) ?_
    refine lv_bipush (v := 25) cx.1 cx.2.1 dL_isDone_58 (by decide) ?_
    refine lv_icmp_ge (tgt := 296) cx.1 cx.2.1 dL_isDone_60 (by decide) (fun c2 => ?_) (fun c2 => ?_)
    · have nc2 : 25 ≤ w := (nI_leI (a := 25) (b := w) (by first | decide | omega) (by first | decide | omega)).mp c2
      refine lv_iload cx.1 cx.2.1 dL_isDone_296 (lv_at hl 3 rfl) ?_
      refine lv_bipush (v := 27) cx.1 cx.2.1 dL_isDone_298 (by decide) ?_
      refine lv_icmp_ge (tgt := 384) cx.1 cx.2.1 dL_isDone_300 (by decide) (fun c3 => ?_) (fun c3 => ?_)
      · have nc3 : 27 ≤ w := (nI_leI (a := 27) (b := w) (by first | decide | omega) (by first | decide | omega)).mp c3
        refine lv_iload cx.1 cx.2.1 dL_isDone_384 (lv_at hl 3 rfl) ?_
        refine lv_bipush (v := 32) cx.1 cx.2.1 dL_isDone_386 (by decide) ?_
        refine lv_icmp_ge (tgt := 449) cx.1 cx.2.1 dL_isDone_388 (by decide) (fun c4 => ?_) (fun c4 => ?_)
        · have nc4 : 32 ≤ w := (nI_leI (a := 32) (b := w) (by first | decide | omega) (by first | decide | omega)).mp c4
          refine lv_iload cx.1 cx.2.1 dL_isDone_449 (lv_at hl 3 rfl) ?_
          refine lv_bipush (v := 32) cx.1 cx.2.1 dL_isDone_451 (by decide) ?_
          refine lv_icmp_ne (tgt := 487) cx.1 cx.2.1 dL_isDone_453 (by decide) (fun c5 => ?_) (fun c5 => ?_)
          · have nc5 : ¬ w = 32 := fun z => c5 ((nI_eq (a := w) (b := 32) (by first | decide | omega) (by first | decide | omega)).mpr z)
            refine lv_iconst (v := 1) cx.1 cx.2.1 dL_isDone_487 (by decide) ?_
            refine lv_istore (lv' := [(10, .int 1), (9, .int (nI c1)), (8, .int (nI q)), (7, .int (nI o)), (6, .int (nI w)), (0, .ref (ad 0)), (1, .ref sa), (2, .int (nI ka)), (3, .ref (ad 36)), (4, .ref (ad 37)), (5, .ref (ad 38))]) cx.1 cx.2.1 dL_isDone_488 hl (by decide) rfl (fun ls hl => ?_)
            refine lv_iconst (v := 0) cx.1 cx.2.1 dL_isDone_490 (by decide) ?_
            refine lv_istore (lv' := [(11, .int 0), (10, .int 1), (9, .int (nI c1)), (8, .int (nI q)), (7, .int (nI o)), (6, .int (nI w)), (0, .ref (ad 0)), (1, .ref sa), (2, .int (nI ka)), (3, .ref (ad 36)), (4, .ref (ad 37)), (5, .ref (ad 38))]) cx.1 cx.2.1 dL_isDone_491 hl (by decide) rfl (fun ls hl => ?_)
            rw [hQ]
            exact done_months hI hlf cx hrt hlk hK hXs.1 o (by omega) (1 + o % 3) 0 (by omega) S hB _ _ ls _ _ hP hS (lv_sub hl [0, 1, 4, 6, 9, 10, 11] rfl) (by omega) (by omega)
          · have nc5 : w = 32 := (nI_eq (a := w) (b := 32) (by first | decide | omega) (by first | decide | omega)).mp c5
            refine lv_aload_n cx.1 cx.2.1 dL_isDone_456 rfl (lv_at hl 4 rfl) ?_
            refine lv_iconst (v := 5) cx.1 cx.2.1 dL_isDone_457 (by decide) ?_
            refine lv_iconst (v := 0) cx.1 cx.2.1 dL_isDone_458 (by decide) ?_
            refine lv_iconst (v := 0) cx.1 cx.2.1 dL_isDone_459 (by decide) ?_
            refine bCallW (As := [.ref (ad 0), .int 5, .int 0, .int 0]) (rest := []) 4 cx (c_L_does5 l dC dI cyI cyB ad hI hlf S 0 0) gL_isDone_L_does rfl ⟨rfl, rfl⟩ (by decide +kernel) ⟨Nat.le_of_ble_eq_true rfl, Nat.le_of_ble_eq_true rfl⟩ (xL_X ad 39) hXs.1 hK hP hS rfl hl.1 rfl (Nat.le_of_ble_eq_true rfl) dL_isDone_460 ⟨Nat.le_of_ble_eq_true rfl, Nat.le_of_ble_eq_true rfl⟩ (fun rD TD H locs hp hP hS => ?_)
            obtain ⟨hv, hMF⟩ := p_bad hB rfl hp
            refine lv_ldc (own := RL) (v := (-2000000)) cx.1 cx.2.1 cx.2.2.2.1 (cx.2.2.2.2 (Cond.constant RL 36 (-2000000)) (by decide +kernel)) dL_isDone_463 ?_
            refine lv_icmp_ne (tgt := 485) cx.1 cx.2.1 dL_isDone_465 (by decide) (fun c6 => ?_) (fun c6 => ?_)
            · exact absurd hv c6
            · refine lv_aload_n cx.1 cx.2.1 dL_isDone_468 rfl (lv_at hl 4 rfl) ?_
              refine lv_iconst (v := 5) cx.1 cx.2.1 dL_isDone_469 (by decide) ?_
              refine lv_bipush (v := 13) cx.1 cx.2.1 dL_isDone_470 (by decide) ?_
              refine lv_iconst (v := 0) cx.1 cx.2.1 dL_isDone_472 (by decide) ?_
              refine bCallW (As := [.ref (ad 0), .int 5, .int 13, .int 0]) (rest := []) 4 cx (c_L_does5 l dC dI cyI cyB ad hI hlf TD 13 0) gL_isDone_L_does rfl ⟨rfl, rfl⟩ (by decide +kernel) ⟨Nat.le_of_ble_eq_true rfl, Nat.le_of_ble_eq_true rfl⟩ (xL_X ad 39) hXs.1 hK hP hS rfl hl.1 rfl (Nat.le_of_ble_eq_true rfl) dL_isDone_473 ⟨Nat.le_of_ble_eq_true rfl, Nat.le_of_ble_eq_true rfl⟩ (fun rD2 TD2 H locs hp hP hS => ?_)
              obtain ⟨hv, hMF⟩ := p_bad hMF rfl hp
              refine lv_ldc (own := RL) (v := (-2000000)) cx.1 cx.2.1 cx.2.2.2.1 (cx.2.2.2.2 (Cond.constant RL 36 (-2000000)) (by decide +kernel)) dL_isDone_476 ?_
              refine lv_icmp_ne (tgt := 485) cx.1 cx.2.1 dL_isDone_478 (by decide) (fun c7 => ?_) (fun c7 => ?_)
              · exact absurd hv c7
              · refine lv_iconst (v := 1) cx.1 cx.2.1 dL_isDone_481 (by decide) ?_
                refine lv_goto (tgt := 486) cx.1 cx.2.1 dL_isDone_482 (by decide) ?_
                rw [hQ]
                exact bRet (v := 1) cx hrt hlk (by first | rfl | decide) hS hP ⟨rfl, hMF⟩ (Nat.le_of_ble_eq_true rfl) (Nat.le_of_ble_eq_true rfl) dL_isDone_486
        · have nc4 : ¬ 32 ≤ w := fun z => c4 ((nI_leI (a := 32) (b := w) (by first | decide | omega) (by first | decide | omega)).mpr z)
          refine lv_aload_n cx.1 cx.2.1 dL_isDone_391 rfl (lv_at hl 4 rfl) ?_
          refine lv_aload cx.1 cx.2.1 dL_isDone_392 (lv_at hl 9 rfl) ?_
          refine lv_iload cx.1 cx.2.1 dL_isDone_394 (lv_at hl 3 rfl) ?_
          refine lv_bipush (v := 27) cx.1 cx.2.1 dL_isDone_396 (by decide) ?_
          refine lv_icmp_ne (tgt := 405) cx.1 cx.2.1 dL_isDone_398 (by decide) (fun c8 => ?_) (fun c8 => ?_)
          · have nc8 : ¬ w = 27 := fun z => c8 ((nI_eq (a := w) (b := 27) (by first | decide | omega) (by first | decide | omega)).mpr z)
            refine lv_iload cx.1 cx.2.1 dL_isDone_405 (lv_at hl 3 rfl) ?_
            refine lv_bipush (v := 31) cx.1 cx.2.1 dL_isDone_407 (by decide) ?_
            refine lv_icmp_ge (tgt := 416) cx.1 cx.2.1 dL_isDone_409 (by decide) (fun c9 => ?_) (fun c9 => ?_)
            · have nc9 : 31 ≤ w := (nI_leI (a := 31) (b := w) (by first | decide | omega) (by first | decide | omega)).mp c9
              refine lv_iconst (v := 4) cx.1 cx.2.1 dL_isDone_416 (by decide) ?_
              have j445 : ∀ (v : Int32) (H : Heap) (locs : List Loc), v = ((nI o) : Int32) → va_P (dC, dI) vwCl (qw cyI ad S) H → va_S (zA ad 39 s.heap.size) s.heap H locs → W p l e (headSpec wsB_isDone ({ frames := 10, cells := 18, slots := 456, locals := 234 } : Room)).room s m args below meth c H locs 0 0 Q (F0 m 445 ls (.int v :: [.int 4, .ref (ad 38), .ref (ad 0)])) := by
                intro v H locs hv hP hS
                obtain ⟨am, ham, eam⟩ : ∃ am : Nat, am < 7000 ∧ ((nI o) : Int32) = nI am := by (repeat' split) <;> first | exact ⟨o, by omega, rfl⟩ | exact ⟨1 + o % 1000, by omega, rfl⟩
                rw [eam] at hv
                subst hv
                refine bCall (As := [.ref (ad 0), .ref (ad 38), .int 4, .int (nI am)]) (rest := []) 4 cx (c_L_isMoney4B l dC dI cyI cyB ad hI hlf S am (by omega) hB) gL_isDone_L_isMoney rfl ⟨rfl, rfl⟩ (by decide +kernel) ⟨Nat.le_of_ble_eq_true rfl, Nat.le_of_ble_eq_true rfl⟩ (xL_X ad 39) hXs.1 hK hP hS rfl hl.1 rfl (Nat.le_of_ble_eq_true rfl) dL_isDone_445 ⟨Nat.le_of_ble_eq_true rfl, Nat.le_of_ble_eq_true rfl⟩ (fun rD TD H locs hp hP hS => ?_)
                obtain ⟨h7, hMF⟩ := hp
                subst h7
                rw [hQ]
                exact bRet (v := 1) cx hrt hlk (by first | rfl | decide) hS hP ⟨rfl, hMF⟩ (Nat.le_of_ble_eq_true rfl) (Nat.le_of_ble_eq_true rfl) dL_isDone_448
              refine lv_iload cx.1 cx.2.1 dL_isDone_417 (lv_at hl 3 rfl) ?_
              refine lv_bipush (v := 31) cx.1 cx.2.1 dL_isDone_419 (by decide) ?_
              refine lv_icmp_ge (tgt := 443) cx.1 cx.2.1 dL_isDone_421 (by decide) (fun c10 => ?_) (fun c10 => ?_)
              rotate_left
              · exact absurd c9 c10
              refine lv_iload cx.1 cx.2.1 dL_isDone_443 (lv_at hl 2 rfl) ?_
              exact j445 _ _ _ (by rfl) hP hS
            · have nc9 : ¬ 31 ≤ w := fun z => c9 ((nI_leI (a := 31) (b := w) (by first | decide | omega) (by first | decide | omega)).mpr z)
              refine lv_iconst (v := 3) cx.1 cx.2.1 dL_isDone_412 (by decide) ?_
              refine lv_goto (tgt := 417) cx.1 cx.2.1 dL_isDone_413 (by decide) ?_
              have j445 : ∀ (v : Int32) (H : Heap) (locs : List Loc), v = (if (nI (q % 20)) ≤ 0 then (nI o) else (nI (1 + o % 1000)) : Int32) → va_P (dC, dI) vwCl (qw cyI ad S) H → va_S (zA ad 39 s.heap.size) s.heap H locs → W p l e (headSpec wsB_isDone ({ frames := 10, cells := 18, slots := 456, locals := 234 } : Room)).room s m args below meth c H locs 0 0 Q (F0 m 445 ls (.int v :: [.int 3, .ref (ad 38), .ref (ad 0)])) := by
                intro v H locs hv hP hS
                obtain ⟨am, ham, eam⟩ : ∃ am : Nat, am < 7000 ∧ (if (nI (q % 20)) ≤ 0 then (nI o) else (nI (1 + o % 1000)) : Int32) = nI am := by (repeat' split) <;> first | exact ⟨o, by omega, rfl⟩ | exact ⟨1 + o % 1000, by omega, rfl⟩
                rw [eam] at hv
                subst hv
                refine bCall (As := [.ref (ad 0), .ref (ad 38), .int 3, .int (nI am)]) (rest := []) 4 cx (c_L_isMoney3B l dC dI cyI cyB ad hI hlf S am (by omega) hB) gL_isDone_L_isMoney rfl ⟨rfl, rfl⟩ (by decide +kernel) ⟨Nat.le_of_ble_eq_true rfl, Nat.le_of_ble_eq_true rfl⟩ (xL_X ad 39) hXs.1 hK hP hS rfl hl.1 rfl (Nat.le_of_ble_eq_true rfl) dL_isDone_445 ⟨Nat.le_of_ble_eq_true rfl, Nat.le_of_ble_eq_true rfl⟩ (fun rD TD H locs hp hP hS => ?_)
                obtain ⟨h7, hMF⟩ := hp
                subst h7
                rw [hQ]
                exact bRet (v := 1) cx hrt hlk (by first | rfl | decide) hS hP ⟨rfl, hMF⟩ (Nat.le_of_ble_eq_true rfl) (Nat.le_of_ble_eq_true rfl) dL_isDone_448
              refine lv_iload cx.1 cx.2.1 dL_isDone_417 (lv_at hl 3 rfl) ?_
              refine lv_bipush (v := 31) cx.1 cx.2.1 dL_isDone_419 (by decide) ?_
              refine lv_icmp_ge (tgt := 443) cx.1 cx.2.1 dL_isDone_421 (by decide) (fun c11 => ?_) (fun c11 => ?_)
              · exact absurd c11 c9
              refine lv_iload cx.1 cx.2.1 dL_isDone_424 (lv_at hl 1 rfl) ?_
              refine lv_bipush (v := 20) cx.1 cx.2.1 dL_isDone_426 (by decide) ?_
              refine lv_irem cx.1 cx.2.1 dL_isDone_428 (by decide) ?_
              rw [show (nI q) - (nI q) / 20 * 20 = nI (q % 20) from pk_rem (a := q) (d := 20) (by omega) (by decide) (by decide)]
              refine lv_if_le (tgt := 443) cx.1 cx.2.1 dL_isDone_429 (by decide) (fun c12 => ?_) (fun c12 => ?_)
              · have nc12 : q % 20 ≤ 0 := (nI_leI (a := q % 20) (b := 0) (by first | decide | omega) (by first | decide | omega)).mp c12
                refine lv_iload cx.1 cx.2.1 dL_isDone_443 (lv_at hl 2 rfl) ?_
                exact j445 _ _ _ (by first | (rw [if_pos c12]; done) | exact Eq.symm ((if_pos c12).trans (rfl))) hP hS
              · have nc12 : ¬ q % 20 ≤ 0 := fun z => c12 ((nI_leI (a := q % 20) (b := 0) (by first | decide | omega) (by first | decide | omega)).mpr z)
                refine lv_iconst (v := 1) cx.1 cx.2.1 dL_isDone_432 (by decide) ?_
                refine lv_iload cx.1 cx.2.1 dL_isDone_433 (lv_at hl 2 rfl) ?_
                refine lv_sipush (v := 1000) cx.1 cx.2.1 dL_isDone_435 (by decide) ?_
                refine lv_irem cx.1 cx.2.1 dL_isDone_438 (by decide) ?_
                rw [show (nI o) - (nI o) / 1000 * 1000 = nI (o % 1000) from pk_rem (a := o) (d := 1000) (by omega) (by decide) (by decide)]
                refine zAddN (a := 1) (b := o % 1000) cx.1 cx.2.1 dL_isDone_439 ?_
                refine lv_goto (tgt := 445) cx.1 cx.2.1 dL_isDone_440 (by decide) ?_
                exact j445 _ _ _ (by first | (rw [if_neg c12]; done) | exact Eq.symm ((if_neg c12).trans (rfl))) hP hS
          · have nc8 : w = 27 := (nI_eq (a := w) (b := 27) (by first | decide | omega) (by first | decide | omega)).mp c8
            refine lv_iconst (v := 2) cx.1 cx.2.1 dL_isDone_401 (by decide) ?_
            refine lv_goto (tgt := 417) cx.1 cx.2.1 dL_isDone_402 (by decide) ?_
            have j445 : ∀ (v : Int32) (H : Heap) (locs : List Loc), v = (if 31 ≤ (nI w) then (nI o) else (if (nI (q % 20)) ≤ 0 then (nI o) else (nI (1 + o % 1000))) : Int32) → va_P (dC, dI) vwCl (qw cyI ad S) H → va_S (zA ad 39 s.heap.size) s.heap H locs → W p l e (headSpec wsB_isDone ({ frames := 10, cells := 18, slots := 456, locals := 234 } : Room)).room s m args below meth c H locs 0 0 Q (F0 m 445 ls (.int v :: [.int 2, .ref (ad 38), .ref (ad 0)])) := by
              intro v H locs hv hP hS
              obtain ⟨am, ham, eam⟩ : ∃ am : Nat, am < 7000 ∧ (if 31 ≤ (nI w) then (nI o) else (if (nI (q % 20)) ≤ 0 then (nI o) else (nI (1 + o % 1000))) : Int32) = nI am := by (repeat' split) <;> first | exact ⟨o, by omega, rfl⟩ | exact ⟨1 + o % 1000, by omega, rfl⟩
              rw [eam] at hv
              subst hv
              refine bCall (As := [.ref (ad 0), .ref (ad 38), .int 2, .int (nI am)]) (rest := []) 4 cx (c_L_isMoney2B l dC dI cyI cyB ad hI hlf S am (by omega) hB) gL_isDone_L_isMoney rfl ⟨rfl, rfl⟩ (by decide +kernel) ⟨Nat.le_of_ble_eq_true rfl, Nat.le_of_ble_eq_true rfl⟩ (xL_X ad 39) hXs.1 hK hP hS rfl hl.1 rfl (Nat.le_of_ble_eq_true rfl) dL_isDone_445 ⟨Nat.le_of_ble_eq_true rfl, Nat.le_of_ble_eq_true rfl⟩ (fun rD TD H locs hp hP hS => ?_)
              obtain ⟨h7, hMF⟩ := hp
              subst h7
              rw [hQ]
              exact bRet (v := 1) cx hrt hlk (by first | rfl | decide) hS hP ⟨rfl, hMF⟩ (Nat.le_of_ble_eq_true rfl) (Nat.le_of_ble_eq_true rfl) dL_isDone_448
            refine lv_iload cx.1 cx.2.1 dL_isDone_417 (lv_at hl 3 rfl) ?_
            refine lv_bipush (v := 31) cx.1 cx.2.1 dL_isDone_419 (by decide) ?_
            refine lv_icmp_ge (tgt := 443) cx.1 cx.2.1 dL_isDone_421 (by decide) (fun c13 => ?_) (fun c13 => ?_)
            · have nc13 : 31 ≤ w := (nI_leI (a := 31) (b := w) (by first | decide | omega) (by first | decide | omega)).mp c13
              refine lv_iload cx.1 cx.2.1 dL_isDone_443 (lv_at hl 2 rfl) ?_
              exact j445 _ _ _ (by first | (rw [if_pos c13]; done) | exact Eq.symm ((if_pos c13).trans (rfl))) hP hS
            · have nc13 : ¬ 31 ≤ w := fun z => c13 ((nI_leI (a := 31) (b := w) (by first | decide | omega) (by first | decide | omega)).mpr z)
              refine lv_iload cx.1 cx.2.1 dL_isDone_424 (lv_at hl 1 rfl) ?_
              refine lv_bipush (v := 20) cx.1 cx.2.1 dL_isDone_426 (by decide) ?_
              refine lv_irem cx.1 cx.2.1 dL_isDone_428 (by decide) ?_
              rw [show (nI q) - (nI q) / 20 * 20 = nI (q % 20) from pk_rem (a := q) (d := 20) (by omega) (by decide) (by decide)]
              refine lv_if_le (tgt := 443) cx.1 cx.2.1 dL_isDone_429 (by decide) (fun c14 => ?_) (fun c14 => ?_)
              · have nc14 : q % 20 ≤ 0 := (nI_leI (a := q % 20) (b := 0) (by first | decide | omega) (by first | decide | omega)).mp c14
                refine lv_iload cx.1 cx.2.1 dL_isDone_443 (lv_at hl 2 rfl) ?_
                exact j445 _ _ _ (by first | (rw [if_neg c13, if_pos c14]; done) | exact Eq.symm ((if_neg c13).trans ((if_pos c14).trans (rfl)))) hP hS
              · have nc14 : ¬ q % 20 ≤ 0 := fun z => c14 ((nI_leI (a := q % 20) (b := 0) (by first | decide | omega) (by first | decide | omega)).mpr z)
                refine lv_iconst (v := 1) cx.1 cx.2.1 dL_isDone_432 (by decide) ?_
                refine lv_iload cx.1 cx.2.1 dL_isDone_433 (lv_at hl 2 rfl) ?_
                refine lv_sipush (v := 1000) cx.1 cx.2.1 dL_isDone_435 (by decide) ?_
                refine lv_irem cx.1 cx.2.1 dL_isDone_438 (by decide) ?_
                rw [show (nI o) - (nI o) / 1000 * 1000 = nI (o % 1000) from pk_rem (a := o) (d := 1000) (by omega) (by decide) (by decide)]
                refine zAddN (a := 1) (b := o % 1000) cx.1 cx.2.1 dL_isDone_439 ?_
                refine lv_goto (tgt := 445) cx.1 cx.2.1 dL_isDone_440 (by decide) ?_
                exact j445 _ _ _ (by first | (rw [if_neg c13, if_neg c14]; done) | exact Eq.symm ((if_neg c13).trans ((if_neg c14).trans (rfl)))) hP hS
      · have nc3 : ¬ 27 ≤ w := fun z => c3 ((nI_leI (a := 27) (b := w) (by first | decide | omega) (by first | decide | omega)).mpr z)
        refine lv_iload cx.1 cx.2.1 dL_isDone_303 (lv_at hl 0 rfl) ?_
        refine lv_bipush (v := 64) cx.1 cx.2.1 dL_isDone_305 (by decide) ?_
        refine lv_icmp_ne (tgt := 315) cx.1 cx.2.1 dL_isDone_307 (by decide) (fun c15 => ?_) (fun c15 => ?_)
        · have nc15 : ¬ c1 = 64 := fun z => c15 ((nI_eq (a := c1) (b := 64) (by first | decide | omega) (by first | decide | omega)).mpr z)
          refine lv_aload_n cx.1 cx.2.1 dL_isDone_315 rfl (lv_at hl 7 rfl) ?_
          refine lv_iload cx.1 cx.2.1 dL_isDone_316 (lv_at hl 0 rfl) ?_
          refine zIldN cx hK hP 36 0 rfl rfl (c1) (by omega) (by decide) rfl dL_isDone_318 ?_
          refine lv_if_eq (tgt := 330) cx.1 cx.2.1 dL_isDone_319 (by decide) (fun c16 => ?_) (fun c16 => ?_)
          · have hno : S 20 c1 = 0 ∨ S 22 0 < 5 := Or.inl c16
            refine lv_ldc (own := RL) (v := (-1000000)) cx.1 cx.2.1 cx.2.2.2.1 (cx.2.2.2.2 (Cond.constant RL 39 (-1000000)) (by decide +kernel)) dL_isDone_330 ?_
            refine lv_goto (tgt := 339) cx.1 cx.2.1 dL_isDone_332 (by decide) ?_
            refine lv_istore (lv' := [(10, .int (-1000000)), (9, .int (nI c1)), (8, .int (nI q)), (7, .int (nI o)), (6, .int (nI w)), (0, .ref (ad 0)), (1, .ref sa), (2, .int (nI ka)), (3, .ref (ad 36)), (4, .ref (ad 37)), (5, .ref (ad 38))]) cx.1 cx.2.1 dL_isDone_339 hl (by decide) rfl (fun ls hl => ?_)
            refine lv_iload cx.1 cx.2.1 dL_isDone_341 (lv_at hl 0 rfl) ?_
            refine lv_if_le (tgt := 365) cx.1 cx.2.1 dL_isDone_343 (by decide) (fun c17 => ?_) (fun c17 => ?_)
            rotate_left
            · exact absurd c17 (by decide)
            refine lv_aload_n cx.1 cx.2.1 dL_isDone_365 rfl (lv_at hl 5 rfl) ?_
            refine lv_iconst (v := 1) cx.1 cx.2.1 dL_isDone_366 (by decide) ?_
            refine lv_iload cx.1 cx.2.1 dL_isDone_367 (lv_at hl 1 rfl) ?_
            refine lv_iconst (v := 0) cx.1 cx.2.1 dL_isDone_369 (by decide) ?_
            refine bCallW (As := [.ref (ad 0), .int 1, .int (nI c1), .int 0]) (rest := []) 4 cx (c_L_does1 l dC dI cyI cyB ad hI hlf S (nI c1) 0) gL_isDone_L_does rfl ⟨rfl, rfl⟩ (by decide +kernel) ⟨Nat.le_of_ble_eq_true rfl, Nat.le_of_ble_eq_true rfl⟩ (xL_X ad 39) hXs.1 hK hP hS rfl hl.1 rfl (Nat.le_of_ble_eq_true rfl) dL_isDone_370 ⟨Nat.le_of_ble_eq_true rfl, Nat.le_of_ble_eq_true rfl⟩ (fun rD3 TD3 H locs hp hP hS => ?_)
            obtain ⟨hv, hMF⟩ := t_no hB (by omega) hno hp
            refine lv_iload cx.1 cx.2.1 dL_isDone_373 (lv_at hl 0 rfl) ?_
            refine lv_icmp_ne (tgt := 382) cx.1 cx.2.1 dL_isDone_375 (by decide) (fun c18 => ?_) (fun c18 => ?_)
            · exact absurd hv c18
            · refine lv_iconst (v := 1) cx.1 cx.2.1 dL_isDone_378 (by decide) ?_
              refine lv_goto (tgt := 383) cx.1 cx.2.1 dL_isDone_379 (by decide) ?_
              rw [hQ]
              exact bRet (v := 1) cx hrt hlk (by first | rfl | decide) hS hP ⟨rfl, hMF⟩ (Nat.le_of_ble_eq_true rfl) (Nat.le_of_ble_eq_true rfl) dL_isDone_383
          · have hne : ¬ S 20 c1 = 0 := c16
            refine lv_aload cx.1 cx.2.1 dL_isDone_322 (lv_at hl 9 rfl) ?_
            refine lv_iconst (v := 0) cx.1 cx.2.1 dL_isDone_324 (by decide) ?_
            refine zIldN cx hK hP 38 0 rfl rfl (0) (by omega) (by decide) rfl dL_isDone_325 ?_
            refine lv_iconst (v := 5) cx.1 cx.2.1 dL_isDone_326 (by decide) ?_
            refine lv_icmp_ge (tgt := 335) cx.1 cx.2.1 dL_isDone_327 (by decide) (fun c19 => ?_) (fun c19 => ?_)
            · have h5 : 5 ≤ S 22 0 := c19
              refine lv_aload_n cx.1 cx.2.1 dL_isDone_335 rfl (lv_at hl 7 rfl) ?_
              refine lv_iload cx.1 cx.2.1 dL_isDone_336 (lv_at hl 0 rfl) ?_
              refine zIldN cx hK hP 36 0 rfl rfl (c1) (by omega) (by decide) rfl dL_isDone_338 ?_
              refine lv_istore (lv' := [(10, .int (S 20 c1)), (9, .int (nI c1)), (8, .int (nI q)), (7, .int (nI o)), (6, .int (nI w)), (0, .ref (ad 0)), (1, .ref sa), (2, .int (nI ka)), (3, .ref (ad 36)), (4, .ref (ad 37)), (5, .ref (ad 38))]) cx.1 cx.2.1 dL_isDone_339 hl (by decide) rfl (fun ls hl => ?_)
              refine lv_iload cx.1 cx.2.1 dL_isDone_341 (lv_at hl 0 rfl) ?_
              refine lv_if_le (tgt := 365) cx.1 cx.2.1 dL_isDone_343 (by decide) (fun c20 => ?_) (fun c20 => ?_)
              · exact absurd c20 (kd_p (hB.1.2.1 c1 (by omega)) hne)
              · refine lv_aload_n cx.1 cx.2.1 dL_isDone_346 rfl (lv_at hl 8 rfl) ?_
                refine lv_iload cx.1 cx.2.1 dL_isDone_347 (lv_at hl 1 rfl) ?_
                refine lv_iconst (v := 0) cx.1 cx.2.1 dL_isDone_349 (by decide) ?_
                refine zIstN cx (qw_W cyI ad) hI hK hP hS 36 0 rfl rfl (c1) (by omega) (by decide) rfl (zUp S 20 (upd (S 20) c1 0)) rfl dL_isDone_350 (fun H locs hP hS => ?_)
                refine lv_aload cx.1 cx.2.1 dL_isDone_351 (lv_at hl 9 rfl) ?_
                refine lv_iload cx.1 cx.2.1 dL_isDone_353 (lv_at hl 1 rfl) ?_
                refine lv_iconst (v := 0) cx.1 cx.2.1 dL_isDone_355 (by decide) ?_
                refine zIstN cx (qw_W cyI ad) hI hK hP hS 37 0 rfl rfl (c1) (by omega) (by decide) rfl (zUp (zUp S 20 (upd (S 20) c1 0)) 21 (upd (S 21) c1 0)) rfl dL_isDone_356 (fun H locs hP hS => ?_)
                refine lv_aload cx.1 cx.2.1 dL_isDone_357 (lv_at hl 10 rfl) ?_
                refine lv_iconst (v := 0) cx.1 cx.2.1 dL_isDone_359 (by decide) ?_
                refine lv_dup2_11 cx.1 cx.2.1 dL_isDone_360 rfl rfl ?_
                refine zIldN cx hK hP 38 0 rfl rfl (0) (by omega) (by decide) rfl dL_isDone_361 ?_
                refine lv_iconst (v := 5) cx.1 cx.2.1 dL_isDone_362 (by decide) ?_
                refine lv_isub cx.1 cx.2.1 dL_isDone_363 ?_
                refine zIstN cx (qw_W cyI ad) hI hK hP hS 38 0 rfl rfl (0) (by omega) (by decide) rfl (zUp (zUp (zUp S 20 (upd (S 20) c1 0)) 21 (upd (S 21) c1 0)) 22 (upd (S 22) 0 ((S 22 0) - 5))) rfl dL_isDone_364 (fun H locs hP hS => ?_)
                refine lv_aload_n cx.1 cx.2.1 dL_isDone_365 rfl (lv_at hl 5 rfl) ?_
                refine lv_iconst (v := 1) cx.1 cx.2.1 dL_isDone_366 (by decide) ?_
                refine lv_iload cx.1 cx.2.1 dL_isDone_367 (lv_at hl 1 rfl) ?_
                refine lv_iconst (v := 0) cx.1 cx.2.1 dL_isDone_369 (by decide) ?_
                refine bCallW (As := [.ref (ad 0), .int 1, .int (nI c1), .int 0]) (rest := []) 4 cx (c_L_does1 l dC dI cyI cyB ad hI hlf (zUp (zUp (zUp S 20 (upd (S 20) c1 0)) 21 (upd (S 21) c1 0)) 22 (upd (S 22) 0 ((S 22 0) - 5))) (nI c1) 0) gL_isDone_L_does rfl ⟨rfl, rfl⟩ (by decide +kernel) ⟨Nat.le_of_ble_eq_true rfl, Nat.le_of_ble_eq_true rfl⟩ (xL_X ad 39) hXs.1 hK hP hS rfl hl.1 rfl (Nat.le_of_ble_eq_true rfl) dL_isDone_370 ⟨Nat.le_of_ble_eq_true rfl, Nat.le_of_ble_eq_true rfl⟩ (fun rD4 TD4 H locs hp hP hS => ?_)
                obtain ⟨hv, hMF⟩ := t_ok hB (by omega) hne h5 rfl hp
                refine lv_iload cx.1 cx.2.1 dL_isDone_373 (lv_at hl 0 rfl) ?_
                refine lv_icmp_ne (tgt := 382) cx.1 cx.2.1 dL_isDone_375 (by decide) (fun c21 => ?_) (fun c21 => ?_)
                · exact absurd hv c21
                · refine lv_iconst (v := 1) cx.1 cx.2.1 dL_isDone_378 (by decide) ?_
                  refine lv_goto (tgt := 383) cx.1 cx.2.1 dL_isDone_379 (by decide) ?_
                  rw [hQ]
                  exact bRet (v := 1) cx hrt hlk (by first | rfl | decide) hS hP ⟨rfl, hMF⟩ (Nat.le_of_ble_eq_true rfl) (Nat.le_of_ble_eq_true rfl) dL_isDone_383
            · have hno : S 20 c1 = 0 ∨ S 22 0 < 5 := Or.inr (Int32.not_le.mp c19)
              refine lv_ldc (own := RL) (v := (-1000000)) cx.1 cx.2.1 cx.2.2.2.1 (cx.2.2.2.2 (Cond.constant RL 39 (-1000000)) (by decide +kernel)) dL_isDone_330 ?_
              refine lv_goto (tgt := 339) cx.1 cx.2.1 dL_isDone_332 (by decide) ?_
              refine lv_istore (lv' := [(10, .int (-1000000)), (9, .int (nI c1)), (8, .int (nI q)), (7, .int (nI o)), (6, .int (nI w)), (0, .ref (ad 0)), (1, .ref sa), (2, .int (nI ka)), (3, .ref (ad 36)), (4, .ref (ad 37)), (5, .ref (ad 38))]) cx.1 cx.2.1 dL_isDone_339 hl (by decide) rfl (fun ls hl => ?_)
              refine lv_iload cx.1 cx.2.1 dL_isDone_341 (lv_at hl 0 rfl) ?_
              refine lv_if_le (tgt := 365) cx.1 cx.2.1 dL_isDone_343 (by decide) (fun c22 => ?_) (fun c22 => ?_)
              rotate_left
              · exact absurd c22 (by decide)
              refine lv_aload_n cx.1 cx.2.1 dL_isDone_365 rfl (lv_at hl 5 rfl) ?_
              refine lv_iconst (v := 1) cx.1 cx.2.1 dL_isDone_366 (by decide) ?_
              refine lv_iload cx.1 cx.2.1 dL_isDone_367 (lv_at hl 1 rfl) ?_
              refine lv_iconst (v := 0) cx.1 cx.2.1 dL_isDone_369 (by decide) ?_
              refine bCallW (As := [.ref (ad 0), .int 1, .int (nI c1), .int 0]) (rest := []) 4 cx (c_L_does1 l dC dI cyI cyB ad hI hlf S (nI c1) 0) gL_isDone_L_does rfl ⟨rfl, rfl⟩ (by decide +kernel) ⟨Nat.le_of_ble_eq_true rfl, Nat.le_of_ble_eq_true rfl⟩ (xL_X ad 39) hXs.1 hK hP hS rfl hl.1 rfl (Nat.le_of_ble_eq_true rfl) dL_isDone_370 ⟨Nat.le_of_ble_eq_true rfl, Nat.le_of_ble_eq_true rfl⟩ (fun rD5 TD5 H locs hp hP hS => ?_)
              obtain ⟨hv, hMF⟩ := t_no hB (by omega) hno hp
              refine lv_iload cx.1 cx.2.1 dL_isDone_373 (lv_at hl 0 rfl) ?_
              refine lv_icmp_ne (tgt := 382) cx.1 cx.2.1 dL_isDone_375 (by decide) (fun c23 => ?_) (fun c23 => ?_)
              · exact absurd hv c23
              · refine lv_iconst (v := 1) cx.1 cx.2.1 dL_isDone_378 (by decide) ?_
                refine lv_goto (tgt := 383) cx.1 cx.2.1 dL_isDone_379 (by decide) ?_
                rw [hQ]
                exact bRet (v := 1) cx hrt hlk (by first | rfl | decide) hS hP ⟨rfl, hMF⟩ (Nat.le_of_ble_eq_true rfl) (Nat.le_of_ble_eq_true rfl) dL_isDone_383
        · have nc15 : c1 = 64 := (nI_eq (a := c1) (b := 64) (by first | decide | omega) (by first | decide | omega)).mp c15
          refine lv_ldc (own := RL) (v := (-3000000)) cx.1 cx.2.1 cx.2.2.2.1 (cx.2.2.2.2 (Cond.constant RL 33 (-3000000)) (by decide +kernel)) dL_isDone_310 ?_
          refine lv_goto (tgt := 339) cx.1 cx.2.1 dL_isDone_312 (by decide) ?_
          refine lv_istore (lv' := [(10, .int (-3000000)), (9, .int (nI c1)), (8, .int (nI q)), (7, .int (nI o)), (6, .int (nI w)), (0, .ref (ad 0)), (1, .ref sa), (2, .int (nI ka)), (3, .ref (ad 36)), (4, .ref (ad 37)), (5, .ref (ad 38))]) cx.1 cx.2.1 dL_isDone_339 hl (by decide) rfl (fun ls hl => ?_)
          refine lv_iload cx.1 cx.2.1 dL_isDone_341 (lv_at hl 0 rfl) ?_
          refine lv_if_le (tgt := 365) cx.1 cx.2.1 dL_isDone_343 (by decide) (fun c24 => ?_) (fun c24 => ?_)
          rotate_left
          · exact absurd c24 (by decide)
          refine lv_aload_n cx.1 cx.2.1 dL_isDone_365 rfl (lv_at hl 5 rfl) ?_
          refine lv_iconst (v := 1) cx.1 cx.2.1 dL_isDone_366 (by decide) ?_
          refine lv_iload cx.1 cx.2.1 dL_isDone_367 (lv_at hl 1 rfl) ?_
          refine lv_iconst (v := 0) cx.1 cx.2.1 dL_isDone_369 (by decide) ?_
          refine bCallW (As := [.ref (ad 0), .int 1, .int (nI c1), .int 0]) (rest := []) 4 cx (c_L_does1 l dC dI cyI cyB ad hI hlf S (nI c1) 0) gL_isDone_L_does rfl ⟨rfl, rfl⟩ (by decide +kernel) ⟨Nat.le_of_ble_eq_true rfl, Nat.le_of_ble_eq_true rfl⟩ (xL_X ad 39) hXs.1 hK hP hS rfl hl.1 rfl (Nat.le_of_ble_eq_true rfl) dL_isDone_370 ⟨Nat.le_of_ble_eq_true rfl, Nat.le_of_ble_eq_true rfl⟩ (fun rD6 TD6 H locs hp hP hS => ?_)
          obtain ⟨hv, hMF⟩ := t_out hB (by omega) hp
          refine lv_iload cx.1 cx.2.1 dL_isDone_373 (lv_at hl 0 rfl) ?_
          refine lv_icmp_ne (tgt := 382) cx.1 cx.2.1 dL_isDone_375 (by decide) (fun c25 => ?_) (fun c25 => ?_)
          · exact absurd hv c25
          · refine lv_iconst (v := 1) cx.1 cx.2.1 dL_isDone_378 (by decide) ?_
            refine lv_goto (tgt := 383) cx.1 cx.2.1 dL_isDone_379 (by decide) ?_
            rw [hQ]
            exact bRet (v := 1) cx hrt hlk (by first | rfl | decide) hS hP ⟨rfl, hMF⟩ (Nat.le_of_ble_eq_true rfl) (Nat.le_of_ble_eq_true rfl) dL_isDone_383
    · have nc2 : ¬ 25 ≤ w := fun z => c2 ((nI_leI (a := 25) (b := w) (by first | decide | omega) (by first | decide | omega)).mpr z)
      have j146 : ∀ (v : Int32) (H : Heap) (locs : List Loc), v = (if ¬ (nI (q % 30)) = 0 then (if 3 ≤ (nI (q % 11)) then (if 5 ≤ (nI (q % 11)) then (if 7 ≤ (nI (q % 11)) then (if 8 ≤ (nI (q % 11)) then (if 9 ≤ (nI (q % 11)) then 6 else 5) else 4) else 3) else 2) else 1) else 7 : Int32) → va_P (dC, dI) vwCl (qw cyI ad S) H → va_S (zA ad 39 s.heap.size) s.heap H locs → W p l e (headSpec wsB_isDone ({ frames := 10, cells := 18, slots := 456, locals := 234 } : Room)).room s m args below meth c H locs 0 0 Q (F0 m 146 ls (.int v :: [])) := by
        intro v H locs hv hP hS
        obtain ⟨kd, hkd, ekd⟩ : ∃ kd : Nat, (1 ≤ kd ∧ kd ≤ 7) ∧ (if ¬ (nI (q % 30)) = 0 then (if 3 ≤ (nI (q % 11)) then (if 5 ≤ (nI (q % 11)) then (if 7 ≤ (nI (q % 11)) then (if 8 ≤ (nI (q % 11)) then (if 9 ≤ (nI (q % 11)) then 6 else 5) else 4) else 3) else 2) else 1) else 7 : Int32) = nI kd := by (repeat' split) <;> first | exact ⟨7, by omega, rfl⟩ | exact ⟨1, by omega, rfl⟩ | exact ⟨2, by omega, rfl⟩ | exact ⟨3, by omega, rfl⟩ | exact ⟨4, by omega, rfl⟩ | exact ⟨5, by omega, rfl⟩ | exact ⟨6, by omega, rfl⟩
        rw [ekd] at hv
        subst hv
        refine lv_istore (lv' := [(10, .int (nI kd)), (9, .int (nI c1)), (8, .int (nI q)), (7, .int (nI o)), (6, .int (nI w)), (0, .ref (ad 0)), (1, .ref sa), (2, .int (nI ka)), (3, .ref (ad 36)), (4, .ref (ad 37)), (5, .ref (ad 38))]) cx.1 cx.2.1 dL_isDone_146 hl (by decide) rfl (fun ls hl => ?_)
        have j189 : ∀ (v : Int32) (H : Heap) (locs : List Loc), v = (if ¬ (nI kd) = 1 then (nI c1) else (if 64 ≤ (nI c1) then (nI c1) else (if ¬ (nI (q % 7)) = 0 then (nI (32 + c1 % 8 + 0)) else (nI (32 + c1 % 8 + 8)))) : Int32) → va_P (dC, dI) vwCl (qw cyI ad S) H → va_S (zA ad 39 s.heap.size) s.heap H locs → W p l e (headSpec wsB_isDone ({ frames := 10, cells := 18, slots := 456, locals := 234 } : Room)).room s m args below meth c H locs 0 0 Q (F0 m 189 ls (.int v :: [])) := by
          intro v H locs hv hP hS
          obtain ⟨c2, hc2, ec2⟩ : ∃ c2 : Nat, c2 ≤ 64 ∧ (if ¬ (nI kd) = 1 then (nI c1) else (if 64 ≤ (nI c1) then (nI c1) else (if ¬ (nI (q % 7)) = 0 then (nI (32 + c1 % 8 + 0)) else (nI (32 + c1 % 8 + 8)))) : Int32) = nI c2 := by (repeat' split) <;> first | exact ⟨c1, by omega, rfl⟩ | exact ⟨32 + c1 % 8 + 8, by omega, rfl⟩ | exact ⟨32 + c1 % 8 + 0, by omega, rfl⟩
          rw [ec2] at hv
          subst hv
          refine lv_istore (lv' := [(9, .int (nI c2)), (10, .int (nI kd)), (8, .int (nI q)), (7, .int (nI o)), (6, .int (nI w)), (0, .ref (ad 0)), (1, .ref sa), (2, .int (nI ka)), (3, .ref (ad 36)), (4, .ref (ad 37)), (5, .ref (ad 38))]) cx.1 cx.2.1 dL_isDone_189 hl (by decide) rfl (fun ls hl => ?_)
          refine lv_iload cx.1 cx.2.1 dL_isDone_191 (lv_at hl 0 rfl) ?_
          refine lv_bipush (v := 64) cx.1 cx.2.1 dL_isDone_193 (by decide) ?_
          refine lv_icmp_ne (tgt := 203) cx.1 cx.2.1 dL_isDone_195 (by decide) (fun c35 => ?_) (fun c35 => ?_)
          · have nc35 : ¬ c2 = 64 := fun z => c35 ((nI_eq (a := c2) (b := 64) (by first | decide | omega) (by first | decide | omega)).mpr z)
            refine lv_iload cx.1 cx.2.1 dL_isDone_203 (lv_at hl 1 rfl) ?_
            refine lv_bipush (v := 7) cx.1 cx.2.1 dL_isDone_205 (by decide) ?_
            refine lv_icmp_ne (tgt := 215) cx.1 cx.2.1 dL_isDone_207 (by decide) (fun c36 => ?_) (fun c36 => ?_)
            · have nc36 : ¬ kd = 7 := fun z => c36 ((nI_eq (a := kd) (b := 7) (by first | decide | omega) (by first | decide | omega)).mpr z)
              refine lv_aload_n cx.1 cx.2.1 dL_isDone_215 rfl (lv_at hl 8 rfl) ?_
              refine lv_iload cx.1 cx.2.1 dL_isDone_216 (lv_at hl 0 rfl) ?_
              refine zIldN cx hK hP 36 0 rfl rfl (c2) (by omega) (by decide) rfl dL_isDone_218 ?_
              refine lv_if_gt (tgt := 234) cx.1 cx.2.1 dL_isDone_219 (by decide) (fun c37 => ?_) (fun c37 => ?_)
              · have hno : 0 < S 20 c2 ∨ S 22 0 < f_L_costOf (nI kd) := Or.inl c37
                refine lv_ldc (own := RL) (v := (-1000000)) cx.1 cx.2.1 cx.2.2.2.1 (cx.2.2.2.2 (Cond.constant RL 39 (-1000000)) (by decide +kernel)) dL_isDone_234 ?_
                refine lv_goto (tgt := 249) cx.1 cx.2.1 dL_isDone_236 (by decide) ?_
                refine lv_istore (lv' := [(11, .int (-1000000)), (9, .int (nI c2)), (10, .int (nI kd)), (8, .int (nI q)), (7, .int (nI o)), (6, .int (nI w)), (0, .ref (ad 0)), (1, .ref sa), (2, .int (nI ka)), (3, .ref (ad 36)), (4, .ref (ad 37)), (5, .ref (ad 38))]) cx.1 cx.2.1 dL_isDone_249 hl (by decide) rfl (fun ls hl => ?_)
                refine lv_iload cx.1 cx.2.1 dL_isDone_251 (lv_at hl 0 rfl) ?_
                refine lv_ldc (own := RL) (v := (-1000000)) cx.1 cx.2.1 cx.2.2.2.1 (cx.2.2.2.2 (Cond.constant RL 39 (-1000000)) (by decide +kernel)) dL_isDone_253 ?_
                refine lv_icmp_le (tgt := 276) cx.1 cx.2.1 dL_isDone_255 (by decide) (fun c38 => ?_) (fun c38 => ?_)
                rotate_left
                · exact absurd c38 (by decide)
                refine lv_aload_n cx.1 cx.2.1 dL_isDone_276 rfl (lv_at hl 6 rfl) ?_
                refine lv_iconst (v := 0) cx.1 cx.2.1 dL_isDone_277 (by decide) ?_
                refine lv_iload cx.1 cx.2.1 dL_isDone_278 (lv_at hl 1 rfl) ?_
                refine lv_iload cx.1 cx.2.1 dL_isDone_280 (lv_at hl 2 rfl) ?_
                refine bCallW (As := [.ref (ad 0), .int 0, .int (nI c2), .int (nI kd)]) (rest := []) 4 cx (c_L_does0 l dC dI cyI cyB ad hI hlf S (nI c2) (nI kd)) gL_isDone_L_does rfl ⟨rfl, rfl⟩ (by decide +kernel) ⟨Nat.le_of_ble_eq_true rfl, Nat.le_of_ble_eq_true rfl⟩ (xL_X ad 39) hXs.1 hK hP hS rfl hl.1 rfl (Nat.le_of_ble_eq_true rfl) dL_isDone_282 ⟨Nat.le_of_ble_eq_true rfl, Nat.le_of_ble_eq_true rfl⟩ (fun rD7 TD7 H locs hp hP hS => ?_)
                obtain ⟨hv, hMF⟩ := b_no hB (by omega) (by omega) (by omega) hno hp
                refine lv_iload cx.1 cx.2.1 dL_isDone_285 (lv_at hl 0 rfl) ?_
                refine lv_icmp_ne (tgt := 294) cx.1 cx.2.1 dL_isDone_287 (by decide) (fun c39 => ?_) (fun c39 => ?_)
                · exact absurd hv c39
                · refine lv_iconst (v := 1) cx.1 cx.2.1 dL_isDone_290 (by decide) ?_
                  refine lv_goto (tgt := 295) cx.1 cx.2.1 dL_isDone_291 (by decide) ?_
                  rw [hQ]
                  exact bRet (v := 1) cx hrt hlk (by first | rfl | decide) hS hP ⟨rfl, hMF⟩ (Nat.le_of_ble_eq_true rfl) (Nat.le_of_ble_eq_true rfl) dL_isDone_295
              · have h0 : ¬ 0 < S 20 c2 := c37
                refine lv_aload cx.1 cx.2.1 dL_isDone_222 (lv_at hl 10 rfl) ?_
                refine lv_iconst (v := 0) cx.1 cx.2.1 dL_isDone_224 (by decide) ?_
                refine zIldN cx hK hP 38 0 rfl rfl (0) (by omega) (by decide) rfl dL_isDone_225 ?_
                refine lv_iload cx.1 cx.2.1 dL_isDone_226 (lv_at hl 1 rfl) ?_
                refine zThenIx (v := f_L_costOf (nI kd)) (S' := S) hS (zRunS (As := [.int (nI kd)]) (rest := [.int (S 22 0)]) _ 1 cx (c_L_costOf l dC dI cyI cyB ad hI S (nI kd)) gL_isDone_L_costOf rfl ⟨rfl, rfl⟩ (by decide +kernel) ⟨Nat.le_of_ble_eq_true rfl, Nat.le_of_ble_eq_true rfl⟩ (xL_X ad 39) hXs.1 hK hP hS rfl hl.1 rfl (Nat.le_of_ble_eq_true rfl) dL_isDone_228 ⟨Nat.le_of_ble_eq_true rfl, Nat.le_of_ble_eq_true rfl⟩) (fun H locs hP hS => ?_)
                refine lv_icmp_ge (tgt := 239) cx.1 cx.2.1 dL_isDone_231 (by decide) (fun c40 => ?_) (fun c40 => ?_)
                · have hge : f_L_costOf (nI kd) ≤ S 22 0 := c40
                  refine lv_aload cx.1 cx.2.1 dL_isDone_239 (lv_at hl 10 rfl) ?_
                  refine lv_iconst (v := 0) cx.1 cx.2.1 dL_isDone_241 (by decide) ?_
                  refine zIldN cx hK hP 38 0 rfl rfl (0) (by omega) (by decide) rfl dL_isDone_242 ?_
                  refine lv_iload cx.1 cx.2.1 dL_isDone_243 (lv_at hl 1 rfl) ?_
                  refine zThenIx (v := f_L_costOf (nI kd)) (S' := S) hS (zRunS (As := [.int (nI kd)]) (rest := [.int (S 22 0)]) _ 1 cx (c_L_costOf l dC dI cyI cyB ad hI S (nI kd)) gL_isDone_L_costOf rfl ⟨rfl, rfl⟩ (by decide +kernel) ⟨Nat.le_of_ble_eq_true rfl, Nat.le_of_ble_eq_true rfl⟩ (xL_X ad 39) hXs.1 hK hP hS rfl hl.1 rfl (Nat.le_of_ble_eq_true rfl) dL_isDone_245 ⟨Nat.le_of_ble_eq_true rfl, Nat.le_of_ble_eq_true rfl⟩) (fun H locs hP hS => ?_)
                  refine lv_isub cx.1 cx.2.1 dL_isDone_248 ?_
                  refine lv_istore (lv' := [(11, .int ((S 22 0) - (f_L_costOf (nI kd)))), (9, .int (nI c2)), (10, .int (nI kd)), (8, .int (nI q)), (7, .int (nI o)), (6, .int (nI w)), (0, .ref (ad 0)), (1, .ref sa), (2, .int (nI ka)), (3, .ref (ad 36)), (4, .ref (ad 37)), (5, .ref (ad 38))]) cx.1 cx.2.1 dL_isDone_249 hl (by decide) rfl (fun ls hl => ?_)
                  refine lv_iload cx.1 cx.2.1 dL_isDone_251 (lv_at hl 0 rfl) ?_
                  refine lv_ldc (own := RL) (v := (-1000000)) cx.1 cx.2.1 cx.2.2.2.1 (cx.2.2.2.2 (Cond.constant RL 39 (-1000000)) (by decide +kernel)) dL_isDone_253 ?_
                  refine lv_icmp_le (tgt := 276) cx.1 cx.2.1 dL_isDone_255 (by decide) (fun c41 => ?_) (fun c41 => ?_)
                  · exact absurd c41 (due_big (cost_LX kd (by omega) (by omega)).2 hge)
                  · refine lv_aload_n cx.1 cx.2.1 dL_isDone_258 rfl (lv_at hl 9 rfl) ?_
                    refine lv_iload cx.1 cx.2.1 dL_isDone_259 (lv_at hl 1 rfl) ?_
                    refine lv_iload cx.1 cx.2.1 dL_isDone_261 (lv_at hl 2 rfl) ?_
                    refine zIstN cx (qw_W cyI ad) hI hK hP hS 36 0 rfl rfl (c2) (by omega) (by decide) rfl (zUp S 20 (upd (S 20) c2 (nI kd))) rfl dL_isDone_263 (fun H locs hP hS => ?_)
                    refine lv_aload cx.1 cx.2.1 dL_isDone_264 (lv_at hl 10 rfl) ?_
                    refine lv_iload cx.1 cx.2.1 dL_isDone_266 (lv_at hl 1 rfl) ?_
                    refine lv_iconst (v := 0) cx.1 cx.2.1 dL_isDone_268 (by decide) ?_
                    refine zIstN cx (qw_W cyI ad) hI hK hP hS 37 0 rfl rfl (c2) (by omega) (by decide) rfl (zUp (zUp S 20 (upd (S 20) c2 (nI kd))) 21 (upd (S 21) c2 0)) rfl dL_isDone_269 (fun H locs hP hS => ?_)
                    refine lv_aload cx.1 cx.2.1 dL_isDone_270 (lv_at hl 11 rfl) ?_
                    refine lv_iconst (v := 0) cx.1 cx.2.1 dL_isDone_272 (by decide) ?_
                    refine lv_iload cx.1 cx.2.1 dL_isDone_273 (lv_at hl 0 rfl) ?_
                    refine zIstN cx (qw_W cyI ad) hI hK hP hS 38 0 rfl rfl (0) (by omega) (by decide) rfl (zUp (zUp (zUp S 20 (upd (S 20) c2 (nI kd))) 21 (upd (S 21) c2 0)) 22 (upd (S 22) 0 ((S 22 0) - (f_L_costOf (nI kd))))) rfl dL_isDone_275 (fun H locs hP hS => ?_)
                    refine lv_aload_n cx.1 cx.2.1 dL_isDone_276 rfl (lv_at hl 6 rfl) ?_
                    refine lv_iconst (v := 0) cx.1 cx.2.1 dL_isDone_277 (by decide) ?_
                    refine lv_iload cx.1 cx.2.1 dL_isDone_278 (lv_at hl 1 rfl) ?_
                    refine lv_iload cx.1 cx.2.1 dL_isDone_280 (lv_at hl 2 rfl) ?_
                    refine bCallW (As := [.ref (ad 0), .int 0, .int (nI c2), .int (nI kd)]) (rest := []) 4 cx (c_L_does0 l dC dI cyI cyB ad hI hlf (zUp (zUp (zUp S 20 (upd (S 20) c2 (nI kd))) 21 (upd (S 21) c2 0)) 22 (upd (S 22) 0 ((S 22 0) - (f_L_costOf (nI kd))))) (nI c2) (nI kd)) gL_isDone_L_does rfl ⟨rfl, rfl⟩ (by decide +kernel) ⟨Nat.le_of_ble_eq_true rfl, Nat.le_of_ble_eq_true rfl⟩ (xL_X ad 39) hXs.1 hK hP hS rfl hl.1 rfl (Nat.le_of_ble_eq_true rfl) dL_isDone_282 ⟨Nat.le_of_ble_eq_true rfl, Nat.le_of_ble_eq_true rfl⟩ (fun rD8 TD8 H locs hp hP hS => ?_)
                    obtain ⟨hv, hMF⟩ := b_ok hB (by omega) (by omega) (by omega) h0 hge rfl hp
                    refine lv_iload cx.1 cx.2.1 dL_isDone_285 (lv_at hl 0 rfl) ?_
                    refine lv_icmp_ne (tgt := 294) cx.1 cx.2.1 dL_isDone_287 (by decide) (fun c42 => ?_) (fun c42 => ?_)
                    · exact absurd hv c42
                    · refine lv_iconst (v := 1) cx.1 cx.2.1 dL_isDone_290 (by decide) ?_
                      refine lv_goto (tgt := 295) cx.1 cx.2.1 dL_isDone_291 (by decide) ?_
                      rw [hQ]
                      exact bRet (v := 1) cx hrt hlk (by first | rfl | decide) hS hP ⟨rfl, hMF⟩ (Nat.le_of_ble_eq_true rfl) (Nat.le_of_ble_eq_true rfl) dL_isDone_295
                · have hno : 0 < S 20 c2 ∨ S 22 0 < f_L_costOf (nI kd) := Or.inr (Int32.not_le.mp c40)
                  refine lv_ldc (own := RL) (v := (-1000000)) cx.1 cx.2.1 cx.2.2.2.1 (cx.2.2.2.2 (Cond.constant RL 39 (-1000000)) (by decide +kernel)) dL_isDone_234 ?_
                  refine lv_goto (tgt := 249) cx.1 cx.2.1 dL_isDone_236 (by decide) ?_
                  refine lv_istore (lv' := [(11, .int (-1000000)), (9, .int (nI c2)), (10, .int (nI kd)), (8, .int (nI q)), (7, .int (nI o)), (6, .int (nI w)), (0, .ref (ad 0)), (1, .ref sa), (2, .int (nI ka)), (3, .ref (ad 36)), (4, .ref (ad 37)), (5, .ref (ad 38))]) cx.1 cx.2.1 dL_isDone_249 hl (by decide) rfl (fun ls hl => ?_)
                  refine lv_iload cx.1 cx.2.1 dL_isDone_251 (lv_at hl 0 rfl) ?_
                  refine lv_ldc (own := RL) (v := (-1000000)) cx.1 cx.2.1 cx.2.2.2.1 (cx.2.2.2.2 (Cond.constant RL 39 (-1000000)) (by decide +kernel)) dL_isDone_253 ?_
                  refine lv_icmp_le (tgt := 276) cx.1 cx.2.1 dL_isDone_255 (by decide) (fun c43 => ?_) (fun c43 => ?_)
                  rotate_left
                  · exact absurd c43 (by decide)
                  refine lv_aload_n cx.1 cx.2.1 dL_isDone_276 rfl (lv_at hl 6 rfl) ?_
                  refine lv_iconst (v := 0) cx.1 cx.2.1 dL_isDone_277 (by decide) ?_
                  refine lv_iload cx.1 cx.2.1 dL_isDone_278 (lv_at hl 1 rfl) ?_
                  refine lv_iload cx.1 cx.2.1 dL_isDone_280 (lv_at hl 2 rfl) ?_
                  refine bCallW (As := [.ref (ad 0), .int 0, .int (nI c2), .int (nI kd)]) (rest := []) 4 cx (c_L_does0 l dC dI cyI cyB ad hI hlf S (nI c2) (nI kd)) gL_isDone_L_does rfl ⟨rfl, rfl⟩ (by decide +kernel) ⟨Nat.le_of_ble_eq_true rfl, Nat.le_of_ble_eq_true rfl⟩ (xL_X ad 39) hXs.1 hK hP hS rfl hl.1 rfl (Nat.le_of_ble_eq_true rfl) dL_isDone_282 ⟨Nat.le_of_ble_eq_true rfl, Nat.le_of_ble_eq_true rfl⟩ (fun rD9 TD9 H locs hp hP hS => ?_)
                  obtain ⟨hv, hMF⟩ := b_no hB (by omega) (by omega) (by omega) hno hp
                  refine lv_iload cx.1 cx.2.1 dL_isDone_285 (lv_at hl 0 rfl) ?_
                  refine lv_icmp_ne (tgt := 294) cx.1 cx.2.1 dL_isDone_287 (by decide) (fun c44 => ?_) (fun c44 => ?_)
                  · exact absurd hv c44
                  · refine lv_iconst (v := 1) cx.1 cx.2.1 dL_isDone_290 (by decide) ?_
                    refine lv_goto (tgt := 295) cx.1 cx.2.1 dL_isDone_291 (by decide) ?_
                    rw [hQ]
                    exact bRet (v := 1) cx hrt hlk (by first | rfl | decide) hS hP ⟨rfl, hMF⟩ (Nat.le_of_ble_eq_true rfl) (Nat.le_of_ble_eq_true rfl) dL_isDone_295
            · have nc36 : kd = 7 := (nI_eq (a := kd) (b := 7) (by first | decide | omega) (by first | decide | omega)).mp c36
              refine lv_ldc (own := RL) (v := (-2000000)) cx.1 cx.2.1 cx.2.2.2.1 (cx.2.2.2.2 (Cond.constant RL 36 (-2000000)) (by decide +kernel)) dL_isDone_210 ?_
              refine lv_goto (tgt := 249) cx.1 cx.2.1 dL_isDone_212 (by decide) ?_
              refine lv_istore (lv' := [(11, .int (-2000000)), (9, .int (nI c2)), (10, .int (nI kd)), (8, .int (nI q)), (7, .int (nI o)), (6, .int (nI w)), (0, .ref (ad 0)), (1, .ref sa), (2, .int (nI ka)), (3, .ref (ad 36)), (4, .ref (ad 37)), (5, .ref (ad 38))]) cx.1 cx.2.1 dL_isDone_249 hl (by decide) rfl (fun ls hl => ?_)
              refine lv_iload cx.1 cx.2.1 dL_isDone_251 (lv_at hl 0 rfl) ?_
              refine lv_ldc (own := RL) (v := (-1000000)) cx.1 cx.2.1 cx.2.2.2.1 (cx.2.2.2.2 (Cond.constant RL 39 (-1000000)) (by decide +kernel)) dL_isDone_253 ?_
              refine lv_icmp_le (tgt := 276) cx.1 cx.2.1 dL_isDone_255 (by decide) (fun c45 => ?_) (fun c45 => ?_)
              rotate_left
              · exact absurd c45 (by decide)
              refine lv_aload_n cx.1 cx.2.1 dL_isDone_276 rfl (lv_at hl 6 rfl) ?_
              refine lv_iconst (v := 0) cx.1 cx.2.1 dL_isDone_277 (by decide) ?_
              refine lv_iload cx.1 cx.2.1 dL_isDone_278 (lv_at hl 1 rfl) ?_
              refine lv_iload cx.1 cx.2.1 dL_isDone_280 (lv_at hl 2 rfl) ?_
              refine bCallW (As := [.ref (ad 0), .int 0, .int (nI c2), .int (nI kd)]) (rest := []) 4 cx (c_L_does0 l dC dI cyI cyB ad hI hlf S (nI c2) (nI kd)) gL_isDone_L_does rfl ⟨rfl, rfl⟩ (by decide +kernel) ⟨Nat.le_of_ble_eq_true rfl, Nat.le_of_ble_eq_true rfl⟩ (xL_X ad 39) hXs.1 hK hP hS rfl hl.1 rfl (Nat.le_of_ble_eq_true rfl) dL_isDone_282 ⟨Nat.le_of_ble_eq_true rfl, Nat.le_of_ble_eq_true rfl⟩ (fun rD10 TD10 H locs hp hP hS => ?_)
              obtain ⟨hv, hMF⟩ := b_kind hB (by omega) (by omega) hp
              refine lv_iload cx.1 cx.2.1 dL_isDone_285 (lv_at hl 0 rfl) ?_
              refine lv_icmp_ne (tgt := 294) cx.1 cx.2.1 dL_isDone_287 (by decide) (fun c46 => ?_) (fun c46 => ?_)
              · exact absurd hv c46
              · refine lv_iconst (v := 1) cx.1 cx.2.1 dL_isDone_290 (by decide) ?_
                refine lv_goto (tgt := 295) cx.1 cx.2.1 dL_isDone_291 (by decide) ?_
                rw [hQ]
                exact bRet (v := 1) cx hrt hlk (by first | rfl | decide) hS hP ⟨rfl, hMF⟩ (Nat.le_of_ble_eq_true rfl) (Nat.le_of_ble_eq_true rfl) dL_isDone_295
          · have nc35 : c2 = 64 := (nI_eq (a := c2) (b := 64) (by first | decide | omega) (by first | decide | omega)).mp c35
            refine lv_ldc (own := RL) (v := (-3000000)) cx.1 cx.2.1 cx.2.2.2.1 (cx.2.2.2.2 (Cond.constant RL 33 (-3000000)) (by decide +kernel)) dL_isDone_198 ?_
            refine lv_goto (tgt := 249) cx.1 cx.2.1 dL_isDone_200 (by decide) ?_
            refine lv_istore (lv' := [(11, .int (-3000000)), (9, .int (nI c2)), (10, .int (nI kd)), (8, .int (nI q)), (7, .int (nI o)), (6, .int (nI w)), (0, .ref (ad 0)), (1, .ref sa), (2, .int (nI ka)), (3, .ref (ad 36)), (4, .ref (ad 37)), (5, .ref (ad 38))]) cx.1 cx.2.1 dL_isDone_249 hl (by decide) rfl (fun ls hl => ?_)
            refine lv_iload cx.1 cx.2.1 dL_isDone_251 (lv_at hl 0 rfl) ?_
            refine lv_ldc (own := RL) (v := (-1000000)) cx.1 cx.2.1 cx.2.2.2.1 (cx.2.2.2.2 (Cond.constant RL 39 (-1000000)) (by decide +kernel)) dL_isDone_253 ?_
            refine lv_icmp_le (tgt := 276) cx.1 cx.2.1 dL_isDone_255 (by decide) (fun c47 => ?_) (fun c47 => ?_)
            rotate_left
            · exact absurd c47 (by decide)
            refine lv_aload_n cx.1 cx.2.1 dL_isDone_276 rfl (lv_at hl 6 rfl) ?_
            refine lv_iconst (v := 0) cx.1 cx.2.1 dL_isDone_277 (by decide) ?_
            refine lv_iload cx.1 cx.2.1 dL_isDone_278 (lv_at hl 1 rfl) ?_
            refine lv_iload cx.1 cx.2.1 dL_isDone_280 (lv_at hl 2 rfl) ?_
            refine bCallW (As := [.ref (ad 0), .int 0, .int (nI c2), .int (nI kd)]) (rest := []) 4 cx (c_L_does0 l dC dI cyI cyB ad hI hlf S (nI c2) (nI kd)) gL_isDone_L_does rfl ⟨rfl, rfl⟩ (by decide +kernel) ⟨Nat.le_of_ble_eq_true rfl, Nat.le_of_ble_eq_true rfl⟩ (xL_X ad 39) hXs.1 hK hP hS rfl hl.1 rfl (Nat.le_of_ble_eq_true rfl) dL_isDone_282 ⟨Nat.le_of_ble_eq_true rfl, Nat.le_of_ble_eq_true rfl⟩ (fun rD11 TD11 H locs hp hP hS => ?_)
            obtain ⟨hv, hMF⟩ := b_out hB (by omega) hp
            refine lv_iload cx.1 cx.2.1 dL_isDone_285 (lv_at hl 0 rfl) ?_
            refine lv_icmp_ne (tgt := 294) cx.1 cx.2.1 dL_isDone_287 (by decide) (fun c48 => ?_) (fun c48 => ?_)
            · exact absurd hv c48
            · refine lv_iconst (v := 1) cx.1 cx.2.1 dL_isDone_290 (by decide) ?_
              refine lv_goto (tgt := 295) cx.1 cx.2.1 dL_isDone_291 (by decide) ?_
              rw [hQ]
              exact bRet (v := 1) cx hrt hlk (by first | rfl | decide) hS hP ⟨rfl, hMF⟩ (Nat.le_of_ble_eq_true rfl) (Nat.le_of_ble_eq_true rfl) dL_isDone_295
        refine lv_iload cx.1 cx.2.1 dL_isDone_148 (lv_at hl 0 rfl) ?_
        refine lv_iconst (v := 1) cx.1 cx.2.1 dL_isDone_150 (by decide) ?_
        refine lv_icmp_ne (tgt := 187) cx.1 cx.2.1 dL_isDone_151 (by decide) (fun c32 => ?_) (fun c32 => ?_)
        · have nc32 : ¬ kd = 1 := fun z => c32 ((nI_eq (a := kd) (b := 1) (by first | decide | omega) (by first | decide | omega)).mpr z)
          refine lv_iload cx.1 cx.2.1 dL_isDone_187 (lv_at hl 1 rfl) ?_
          exact j189 _ _ _ (by first | (rw [if_pos c32]; done) | exact Eq.symm ((if_pos c32).trans (rfl))) hP hS
        · have nc32 : kd = 1 := (nI_eq (a := kd) (b := 1) (by first | decide | omega) (by first | decide | omega)).mp c32
          refine lv_iload cx.1 cx.2.1 dL_isDone_154 (lv_at hl 1 rfl) ?_
          refine lv_bipush (v := 64) cx.1 cx.2.1 dL_isDone_156 (by decide) ?_
          refine lv_icmp_ge (tgt := 187) cx.1 cx.2.1 dL_isDone_158 (by decide) (fun c33 => ?_) (fun c33 => ?_)
          · have nc33 : 64 ≤ c1 := (nI_leI (a := 64) (b := c1) (by first | decide | omega) (by first | decide | omega)).mp c33
            refine lv_iload cx.1 cx.2.1 dL_isDone_187 (lv_at hl 1 rfl) ?_
            exact j189 _ _ _ (by first | (rw [if_neg (not_not_intro c32), if_pos c33]; done) | exact Eq.symm ((if_neg (not_not_intro c32)).trans ((if_pos c33).trans (rfl)))) hP hS
          · have nc33 : ¬ 64 ≤ c1 := fun z => c33 ((nI_leI (a := 64) (b := c1) (by first | decide | omega) (by first | decide | omega)).mpr z)
            refine lv_bipush (v := 32) cx.1 cx.2.1 dL_isDone_161 (by decide) ?_
            refine lv_iload cx.1 cx.2.1 dL_isDone_163 (lv_at hl 1 rfl) ?_
            refine lv_bipush (v := 8) cx.1 cx.2.1 dL_isDone_165 (by decide) ?_
            refine lv_irem cx.1 cx.2.1 dL_isDone_167 (by decide) ?_
            rw [show (nI c1) - (nI c1) / 8 * 8 = nI (c1 % 8) from pk_rem (a := c1) (d := 8) (by omega) (by decide) (by decide)]
            refine zAddN (a := 32) (b := c1 % 8) cx.1 cx.2.1 dL_isDone_168 ?_
            refine lv_iload cx.1 cx.2.1 dL_isDone_169 (lv_at hl 2 rfl) ?_
            refine lv_bipush (v := 7) cx.1 cx.2.1 dL_isDone_171 (by decide) ?_
            refine lv_irem cx.1 cx.2.1 dL_isDone_173 (by decide) ?_
            rw [show (nI q) - (nI q) / 7 * 7 = nI (q % 7) from pk_rem (a := q) (d := 7) (by omega) (by decide) (by decide)]
            refine lv_if_ne (tgt := 182) cx.1 cx.2.1 dL_isDone_174 (by decide) (fun c34 => ?_) (fun c34 => ?_)
            · have nc34 : ¬ q % 7 = 0 := fun z => c34 ((nI_eq (a := q % 7) (b := 0) (by first | decide | omega) (by first | decide | omega)).mpr z)
              refine lv_iconst (v := 0) cx.1 cx.2.1 dL_isDone_182 (by decide) ?_
              refine zAddN (a := 32 + c1 % 8) (b := 0) cx.1 cx.2.1 dL_isDone_183 ?_
              refine lv_goto (tgt := 189) cx.1 cx.2.1 dL_isDone_184 (by decide) ?_
              exact j189 _ _ _ (by first | (rw [if_neg (not_not_intro c32), if_neg c33, if_pos c34]; done) | exact Eq.symm ((if_neg (not_not_intro c32)).trans ((if_neg c33).trans ((if_pos c34).trans (rfl))))) hP hS
            · have nc34 : q % 7 = 0 := (nI_eq (a := q % 7) (b := 0) (by first | decide | omega) (by first | decide | omega)).mp c34
              refine lv_bipush (v := 8) cx.1 cx.2.1 dL_isDone_177 (by decide) ?_
              refine lv_goto (tgt := 183) cx.1 cx.2.1 dL_isDone_179 (by decide) ?_
              refine zAddN (a := 32 + c1 % 8) (b := 8) cx.1 cx.2.1 dL_isDone_183 ?_
              refine lv_goto (tgt := 189) cx.1 cx.2.1 dL_isDone_184 (by decide) ?_
              exact j189 _ _ _ (by first | (rw [if_neg (not_not_intro c32), if_neg c33, if_neg (not_not_intro c34)]; done) | exact Eq.symm ((if_neg (not_not_intro c32)).trans ((if_neg c33).trans ((if_neg (not_not_intro c34)).trans (rfl))))) hP hS
      refine lv_iload cx.1 cx.2.1 dL_isDone_63 (lv_at hl 1 rfl) ?_
      refine lv_bipush (v := 30) cx.1 cx.2.1 dL_isDone_65 (by decide) ?_
      refine lv_irem cx.1 cx.2.1 dL_isDone_67 (by decide) ?_
      rw [show (nI q) - (nI q) / 30 * 30 = nI (q % 30) from pk_rem (a := q) (d := 30) (by omega) (by decide) (by decide)]
      refine lv_if_ne (tgt := 76) cx.1 cx.2.1 dL_isDone_68 (by decide) (fun c26 => ?_) (fun c26 => ?_)
      · have nc26 : ¬ q % 30 = 0 := fun z => c26 ((nI_eq (a := q % 30) (b := 0) (by first | decide | omega) (by first | decide | omega)).mpr z)
        refine lv_iload cx.1 cx.2.1 dL_isDone_76 (lv_at hl 1 rfl) ?_
        refine lv_bipush (v := 11) cx.1 cx.2.1 dL_isDone_78 (by decide) ?_
        refine lv_irem cx.1 cx.2.1 dL_isDone_80 (by decide) ?_
        rw [show (nI q) - (nI q) / 11 * 11 = nI (q % 11) from pk_rem (a := q) (d := 11) (by omega) (by decide) (by decide)]
        refine lv_iconst (v := 3) cx.1 cx.2.1 dL_isDone_81 (by decide) ?_
        refine lv_icmp_ge (tgt := 89) cx.1 cx.2.1 dL_isDone_82 (by decide) (fun c27 => ?_) (fun c27 => ?_)
        · have nc27 : 3 ≤ q % 11 := (nI_leI (a := 3) (b := q % 11) (by first | decide | omega) (by first | decide | omega)).mp c27
          refine lv_iload cx.1 cx.2.1 dL_isDone_89 (lv_at hl 1 rfl) ?_
          refine lv_bipush (v := 11) cx.1 cx.2.1 dL_isDone_91 (by decide) ?_
          refine lv_irem cx.1 cx.2.1 dL_isDone_93 (by decide) ?_
          rw [show (nI q) - (nI q) / 11 * 11 = nI (q % 11) from pk_rem (a := q) (d := 11) (by omega) (by decide) (by decide)]
          refine lv_iconst (v := 5) cx.1 cx.2.1 dL_isDone_94 (by decide) ?_
          refine lv_icmp_ge (tgt := 102) cx.1 cx.2.1 dL_isDone_95 (by decide) (fun c28 => ?_) (fun c28 => ?_)
          · have nc28 : 5 ≤ q % 11 := (nI_leI (a := 5) (b := q % 11) (by first | decide | omega) (by first | decide | omega)).mp c28
            refine lv_iload cx.1 cx.2.1 dL_isDone_102 (lv_at hl 1 rfl) ?_
            refine lv_bipush (v := 11) cx.1 cx.2.1 dL_isDone_104 (by decide) ?_
            refine lv_irem cx.1 cx.2.1 dL_isDone_106 (by decide) ?_
            rw [show (nI q) - (nI q) / 11 * 11 = nI (q % 11) from pk_rem (a := q) (d := 11) (by omega) (by decide) (by decide)]
            refine lv_bipush (v := 7) cx.1 cx.2.1 dL_isDone_107 (by decide) ?_
            refine lv_icmp_ge (tgt := 116) cx.1 cx.2.1 dL_isDone_109 (by decide) (fun c29 => ?_) (fun c29 => ?_)
            · have nc29 : 7 ≤ q % 11 := (nI_leI (a := 7) (b := q % 11) (by first | decide | omega) (by first | decide | omega)).mp c29
              refine lv_iload cx.1 cx.2.1 dL_isDone_116 (lv_at hl 1 rfl) ?_
              refine lv_bipush (v := 11) cx.1 cx.2.1 dL_isDone_118 (by decide) ?_
              refine lv_irem cx.1 cx.2.1 dL_isDone_120 (by decide) ?_
              rw [show (nI q) - (nI q) / 11 * 11 = nI (q % 11) from pk_rem (a := q) (d := 11) (by omega) (by decide) (by decide)]
              refine lv_bipush (v := 8) cx.1 cx.2.1 dL_isDone_121 (by decide) ?_
              refine lv_icmp_ge (tgt := 130) cx.1 cx.2.1 dL_isDone_123 (by decide) (fun c30 => ?_) (fun c30 => ?_)
              · have nc30 : 8 ≤ q % 11 := (nI_leI (a := 8) (b := q % 11) (by first | decide | omega) (by first | decide | omega)).mp c30
                refine lv_iload cx.1 cx.2.1 dL_isDone_130 (lv_at hl 1 rfl) ?_
                refine lv_bipush (v := 11) cx.1 cx.2.1 dL_isDone_132 (by decide) ?_
                refine lv_irem cx.1 cx.2.1 dL_isDone_134 (by decide) ?_
                rw [show (nI q) - (nI q) / 11 * 11 = nI (q % 11) from pk_rem (a := q) (d := 11) (by omega) (by decide) (by decide)]
                refine lv_bipush (v := 9) cx.1 cx.2.1 dL_isDone_135 (by decide) ?_
                refine lv_icmp_ge (tgt := 144) cx.1 cx.2.1 dL_isDone_137 (by decide) (fun c31 => ?_) (fun c31 => ?_)
                · have nc31 : 9 ≤ q % 11 := (nI_leI (a := 9) (b := q % 11) (by first | decide | omega) (by first | decide | omega)).mp c31
                  refine lv_bipush (v := 6) cx.1 cx.2.1 dL_isDone_144 (by decide) ?_
                  exact j146 _ _ _ (by first | (rw [if_pos c26, if_pos c27, if_pos c28, if_pos c29, if_pos c30, if_pos c31]; done) | exact Eq.symm ((if_pos c26).trans ((if_pos c27).trans ((if_pos c28).trans ((if_pos c29).trans ((if_pos c30).trans ((if_pos c31).trans (rfl)))))))) hP hS
                · have nc31 : ¬ 9 ≤ q % 11 := fun z => c31 ((nI_leI (a := 9) (b := q % 11) (by first | decide | omega) (by first | decide | omega)).mpr z)
                  refine lv_iconst (v := 5) cx.1 cx.2.1 dL_isDone_140 (by decide) ?_
                  refine lv_goto (tgt := 146) cx.1 cx.2.1 dL_isDone_141 (by decide) ?_
                  exact j146 _ _ _ (by first | (rw [if_pos c26, if_pos c27, if_pos c28, if_pos c29, if_pos c30, if_neg c31]; done) | exact Eq.symm ((if_pos c26).trans ((if_pos c27).trans ((if_pos c28).trans ((if_pos c29).trans ((if_pos c30).trans ((if_neg c31).trans (rfl)))))))) hP hS
              · have nc30 : ¬ 8 ≤ q % 11 := fun z => c30 ((nI_leI (a := 8) (b := q % 11) (by first | decide | omega) (by first | decide | omega)).mpr z)
                refine lv_iconst (v := 4) cx.1 cx.2.1 dL_isDone_126 (by decide) ?_
                refine lv_goto (tgt := 146) cx.1 cx.2.1 dL_isDone_127 (by decide) ?_
                exact j146 _ _ _ (by first | (rw [if_pos c26, if_pos c27, if_pos c28, if_pos c29, if_neg c30]; done) | exact Eq.symm ((if_pos c26).trans ((if_pos c27).trans ((if_pos c28).trans ((if_pos c29).trans ((if_neg c30).trans (rfl))))))) hP hS
            · have nc29 : ¬ 7 ≤ q % 11 := fun z => c29 ((nI_leI (a := 7) (b := q % 11) (by first | decide | omega) (by first | decide | omega)).mpr z)
              refine lv_iconst (v := 3) cx.1 cx.2.1 dL_isDone_112 (by decide) ?_
              refine lv_goto (tgt := 146) cx.1 cx.2.1 dL_isDone_113 (by decide) ?_
              exact j146 _ _ _ (by first | (rw [if_pos c26, if_pos c27, if_pos c28, if_neg c29]; done) | exact Eq.symm ((if_pos c26).trans ((if_pos c27).trans ((if_pos c28).trans ((if_neg c29).trans (rfl)))))) hP hS
          · have nc28 : ¬ 5 ≤ q % 11 := fun z => c28 ((nI_leI (a := 5) (b := q % 11) (by first | decide | omega) (by first | decide | omega)).mpr z)
            refine lv_iconst (v := 2) cx.1 cx.2.1 dL_isDone_98 (by decide) ?_
            refine lv_goto (tgt := 146) cx.1 cx.2.1 dL_isDone_99 (by decide) ?_
            exact j146 _ _ _ (by first | (rw [if_pos c26, if_pos c27, if_neg c28]; done) | exact Eq.symm ((if_pos c26).trans ((if_pos c27).trans ((if_neg c28).trans (rfl))))) hP hS
        · have nc27 : ¬ 3 ≤ q % 11 := fun z => c27 ((nI_leI (a := 3) (b := q % 11) (by first | decide | omega) (by first | decide | omega)).mpr z)
          refine lv_iconst (v := 1) cx.1 cx.2.1 dL_isDone_85 (by decide) ?_
          refine lv_goto (tgt := 146) cx.1 cx.2.1 dL_isDone_86 (by decide) ?_
          exact j146 _ _ _ (by first | (rw [if_pos c26, if_neg c27]; done) | exact Eq.symm ((if_pos c26).trans ((if_neg c27).trans (rfl)))) hP hS
      · have nc26 : q % 30 = 0 := (nI_eq (a := q % 30) (b := 0) (by first | decide | omega) (by first | decide | omega)).mp c26
        refine lv_bipush (v := 7) cx.1 cx.2.1 dL_isDone_71 (by decide) ?_
        refine lv_goto (tgt := 146) cx.1 cx.2.1 dL_isDone_73 (by decide) ?_
        exact j146 _ _ _ (by first | (rw [if_neg (not_not_intro c26)]; done) | exact Eq.symm ((if_neg (not_not_intro c26)).trans (rfl))) hP hS
  refine lv_iload cx.1 cx.2.1 dL_isDone_33 (lv_at hl 1 rfl) ?_
  refine lv_bipush (v := 30) cx.1 cx.2.1 dL_isDone_35 (by decide) ?_
  refine lv_irem cx.1 cx.2.1 dL_isDone_37 (by decide) ?_
  rw [show (nI o) - (nI o) / 30 * 30 = nI (o % 30) from pk_rem (a := o) (d := 30) (by omega) (by decide) (by decide)]
  refine lv_if_ne (tgt := 46) cx.1 cx.2.1 dL_isDone_38 (by decide) (fun c1 => ?_) (fun c1 => ?_)
  · have nc1 : ¬ o % 30 = 0 := fun z => c1 ((nI_eq (a := o % 30) (b := 0) (by first | decide | omega) (by first | decide | omega)).mpr z)
    refine lv_bipush (v := 16) cx.1 cx.2.1 dL_isDone_46 (by decide) ?_
    refine lv_iload cx.1 cx.2.1 dL_isDone_48 (lv_at hl 1 rfl) ?_
    refine lv_bipush (v := 40) cx.1 cx.2.1 dL_isDone_50 (by decide) ?_
    refine lv_irem cx.1 cx.2.1 dL_isDone_52 (by decide) ?_
    rw [show (nI o) - (nI o) / 40 * 40 = nI (o % 40) from pk_rem (a := o) (d := 40) (by omega) (by decide) (by decide)]
    refine zAddN (a := 16) (b := o % 40) cx.1 cx.2.1 dL_isDone_53 ?_
    exact j54 _ _ _ (by first | (rw [if_pos c1]; done) | exact Eq.symm ((if_pos c1).trans (rfl))) hP hS
  · have nc1 : o % 30 = 0 := (nI_eq (a := o % 30) (b := 0) (by first | decide | omega) (by first | decide | omega)).mp c1
    refine lv_bipush (v := 64) cx.1 cx.2.1 dL_isDone_41 (by decide) ?_
    refine lv_goto (tgt := 54) cx.1 cx.2.1 dL_isDone_43 (by decide) ?_
    exact j54 _ _ _ (by first | (rw [if_neg (not_not_intro c1)]; done) | exact Eq.symm ((if_neg (not_not_intro c1)).trans (rfl))) hP hS
