set_option maxHeartbeats 4000000 in
set_option maxRecDepth 100000 in
theorem c_L_isCell0 (l : Launch) (dC : Nat → ClassId) (dI : Nat → Nat → Nat) (cyI cyB : ClassId) (ad : Nat → Nat) (hI : zI ad 39) (hlf : l.stackTraces = false) (S : zS) (F : zS) (hF : LF S F) (nc : Nat) (hnc : nc < 64) (hr : F 2 nc = -1) : bMet l (dC, dI) (lTys cyI cyB) ad 39 xL (qw cyI ad) yL_isCell wsL_isCell ({ frames := 15, cells := 32, slots := 256, locals := 474 } : Room) [.ref (ad 0), .ref (ad 36), .ref (ad 37), .int (nI nc)] S 32 256 (fun v T => v = 1 ∧ T = S) := by
  refine bStart (by decide) rfl (Nat.le_of_ble_eq_true rfl) ?_
  intro p e s m args below meth c ls cx hrt hlk hP hK hXs hl
  have hl : lv_has ls 8 [(0, .ref (ad 0)), (1, .ref (ad 36)), (2, .ref (ad 37)), (3, .int (nI nc))] := hl
  have hS : va_S (zA ad 39 s.heap.size) s.heap s.heap [] := va_S.rf
  obtain ⟨Q, hQ⟩ : ∃ Q, Q = MQ below (zQi (dC, dI) (qw cyI ad) (fun v T => v = 1 ∧ T = S) (zA ad 39 s.heap.size)) args s 32 256 (zA ad 39 s.heap.size) := ⟨_, rfl⟩
  rw [← hQ]
  refine lv_bipush (v := 10) cx.1 cx.2.1 dL_isCell_0 (by decide) ?_
  refine lv_istore (lv' := [(4, .int 10), (0, .ref (ad 0)), (1, .ref (ad 36)), (2, .ref (ad 37)), (3, .int (nI nc))]) cx.1 cx.2.1 dL_isCell_2 hl (by decide) rfl (fun ls hl => ?_)
  refine lv_iconst (v := 0) cx.1 cx.2.1 dL_isCell_4 (by decide) ?_
  refine lv_istore (lv' := [(5, .int 0), (4, .int 10), (0, .ref (ad 0)), (1, .ref (ad 36)), (2, .ref (ad 37)), (3, .int (nI nc))]) cx.1 cx.2.1 dL_isCell_5 hl (by decide) rfl (fun ls hl => ?_)
  have lp7 : ∀ (fu i : Nat) (va : Int32) (hi7 : i ≤ 64) (hacc7 : lp_L_isCell_7 S F nc 10 i = va)  (_ : 64 - i < fu) (H : Heap) (locs : List Loc) (ls : Array Slot), va_P (dC, dI) vwCl (qw cyI ad S) H → va_S (zA ad 39 s.heap.size) s.heap H locs → lv_has ls 8 [(5, .int (nI i)), (4, .int va), (0, .ref (ad 0)), (1, .ref (ad 36)), (2, .ref (ad 37)), (3, .int (nI nc))] → W p l e (headSpec wsL_isCell ({ frames := 15, cells := 32, slots := 256, locals := 474 } : Room)).room s m args below meth c H locs 0 0 Q (F0 m 7 ls []) := by
    intro fu
    induction fu with
    | zero => intro i va hi7 hacc7  hm; exact absurd hm (Nat.not_lt_zero _)
    | succ fu ih7 =>
      intro i va hi7 hacc7  hm H locs ls hP hS hl
      refine lv_iload cx.1 cx.2.1 dL_isCell_7 (lv_at hl 0 rfl) ?_
      refine lv_bipush (v := 64) cx.1 cx.2.1 dL_isCell_9 (by decide) ?_
      refine lv_icmp_ge (tgt := 138) cx.1 cx.2.1 dL_isCell_11 (by decide) (fun c1 => ?_) (fun c1 => ?_)
      · have nc1 : 64 ≤ i := (nI_leI (a := 64) (b := i) (by first | decide | omega) (by first | decide | omega)).mp c1
        obtain rfl : i = 64 := by omega
        have hz0 : (lp_L_isCell_7 S F nc 10 64) = va := hacc7
        obtain ⟨N1, hN1⟩ : ∃ Z : Int32, (lp_L_isCell_7 S F nc 10 64) = Z := ⟨_, rfl⟩
        rw [hN1] at hz0
        subst hz0
        refine lv_aload_n cx.1 cx.2.1 dL_isCell_138 rfl (lv_at hl 3 rfl) ?_
        refine lv_iload_n cx.1 cx.2.1 dL_isCell_139 rfl (lv_at hl 5 rfl) ?_
        refine zThenIx (v := F 2 nc) (S' := S) hS (zRunS (As := [.ref (ad 36), .int (nI nc)]) (rest := []) _ 2 cx (c_L_road l dC dI cyI cyB ad hI S F hF nc (by omega)) gL_isCell_L_road rfl ⟨rfl, rfl⟩ (by decide +kernel) ⟨Nat.le_of_ble_eq_true rfl, Nat.le_of_ble_eq_true rfl⟩ (xL_X ad 39) hXs hK hP hS rfl hl.1 rfl (Nat.le_of_ble_eq_true rfl) dL_isCell_140 ⟨Nat.le_of_ble_eq_true rfl, Nat.le_of_ble_eq_true rfl⟩) (fun H locs hP hS => ?_)
        rw [hr]
        refine lv_istore (lv' := [(5, .int (-1)), (4, .int N1), (0, .ref (ad 0)), (1, .ref (ad 36)), (2, .ref (ad 37)), (3, .int (nI nc))]) cx.1 cx.2.1 dL_isCell_143 hl (by decide) rfl (fun ls hl => ?_)
        refine lv_iload cx.1 cx.2.1 dL_isCell_145 (lv_at hl 1 rfl) ?_
        have j169 : ∀ (v : Int32) (H : Heap) (locs : List Loc), v = (if (S 20 nc) = 1 then 0 else 0 : Int32) → va_P (dC, dI) vwCl (qw cyI ad S) H → va_S (zA ad 39 s.heap.size) s.heap H locs → W p l e (headSpec wsL_isCell ({ frames := 15, cells := 32, slots := 256, locals := 474 } : Room)).room s m args below meth c H locs 0 0 Q (F0 m 169 ls (.int v :: [.int N1])) := by
          intro v H locs hv hP hS
          subst hv
          refine lv_isub cx.1 cx.2.1 dL_isCell_169 ?_
          refine lv_istore (lv' := [(4, .int (N1 - (if (S 20 nc) = 1 then 0 else 0 : Int32))), (5, .int (-1)), (0, .ref (ad 0)), (1, .ref (ad 36)), (2, .ref (ad 37)), (3, .int (nI nc))]) cx.1 cx.2.1 dL_isCell_170 hl (by decide) rfl (fun ls hl => ?_)
          refine lv_iconst (v := 0) cx.1 cx.2.1 dL_isCell_172 (by decide) ?_
          refine lv_istore (lv' := [(6, .int 0), (4, .int (N1 - (if (S 20 nc) = 1 then 0 else 0 : Int32))), (5, .int (-1)), (0, .ref (ad 0)), (1, .ref (ad 36)), (2, .ref (ad 37)), (3, .int (nI nc))]) cx.1 cx.2.1 dL_isCell_173 hl (by decide) rfl (fun ls hl => ?_)
          refine lv_iconst (v := 0) cx.1 cx.2.1 dL_isCell_175 (by decide) ?_
          refine lv_istore (lv' := [(7, .int 0), (6, .int 0), (4, .int (N1 - (if (S 20 nc) = 1 then 0 else 0 : Int32))), (5, .int (-1)), (0, .ref (ad 0)), (1, .ref (ad 36)), (2, .ref (ad 37)), (3, .int (nI nc))]) cx.1 cx.2.1 dL_isCell_176 hl (by decide) rfl (fun ls hl => ?_)
          have lp178 : ∀ (fu i : Nat) (go : Int32) (hi178 : i ≤ 64) (hacc178 : lp_L_isCell_178 S F nc 0 i = go)  (_ : 64 - i < fu) (H : Heap) (locs : List Loc) (ls : Array Slot), va_P (dC, dI) vwCl (qw cyI ad S) H → va_S (zA ad 39 s.heap.size) s.heap H locs → lv_has ls 8 [(7, .int (nI i)), (6, .int go), (4, .int (N1 - (if (S 20 nc) = 1 then 0 else 0 : Int32))), (5, .int (-1)), (0, .ref (ad 0)), (1, .ref (ad 36)), (2, .ref (ad 37)), (3, .int (nI nc))] → W p l e (headSpec wsL_isCell ({ frames := 15, cells := 32, slots := 256, locals := 474 } : Room)).room s m args below meth c H locs 0 0 Q (F0 m 178 ls []) := by
            intro fu
            induction fu with
            | zero => intro i go hi178 hacc178  hm; exact absurd hm (Nat.not_lt_zero _)
            | succ fu ih178 =>
              intro i go hi178 hacc178  hm H locs ls hP hS hl
              refine lv_iload cx.1 cx.2.1 dL_isCell_178 (lv_at hl 0 rfl) ?_
              refine lv_bipush (v := 64) cx.1 cx.2.1 dL_isCell_180 (by decide) ?_
              refine lv_icmp_ge (tgt := 247) cx.1 cx.2.1 dL_isCell_182 (by decide) (fun c9 => ?_) (fun c9 => ?_)
              · have nc9 : 64 ≤ i := (nI_leI (a := 64) (b := i) (by first | decide | omega) (by first | decide | omega)).mp c9
                obtain rfl : i = 64 := by omega
                have hz0 : (lp_L_isCell_178 S F nc 0 64) = go := hacc178
                obtain ⟨N2, hN2⟩ : ∃ Z : Int32, (lp_L_isCell_178 S F nc 0 64) = Z := ⟨_, rfl⟩
                rw [hN2] at hz0
                subst hz0
                refine lv_aload_n cx.1 cx.2.1 dL_isCell_247 rfl (lv_at hl 4 rfl) ?_
                refine lv_iload_n cx.1 cx.2.1 dL_isCell_248 rfl (lv_at hl 7 rfl) ?_
                refine zThenIx (v := F 9 nc) (S' := S) hS (zRunV (As := [.int (nI nc)]) (rest := []) _ 1 cx (bq_X6_placed l dC dI cyI cyB ad hI S F hF nc (by omega)) gL_isCell_X6_placed rfl ⟨rfl, rfl⟩ (by decide +kernel) ⟨Nat.le_of_ble_eq_true rfl, Nat.le_of_ble_eq_true rfl⟩ (xL_X ad 39) hXs hK hP hS 0 rfl rfl rfl rfl hl.1 rfl (Nat.le_of_ble_eq_true rfl) dL_isCell_249 ⟨Nat.le_of_ble_eq_true rfl, Nat.le_of_ble_eq_true rfl⟩) (fun H locs hP hS => ?_)
                refine lv_istore (lv' := [(7, .int (F 9 nc)), (6, .int N2), (4, .int (N1 - (if (S 20 nc) = 1 then 0 else 0 : Int32))), (5, .int (-1)), (0, .ref (ad 0)), (1, .ref (ad 36)), (2, .ref (ad 37)), (3, .int (nI nc))]) cx.1 cx.2.1 dL_isCell_252 hl (by decide) rfl (fun ls hl => ?_)
                refine lv_aload_n cx.1 cx.2.1 dL_isCell_254 rfl (lv_at hl 4 rfl) ?_
                refine lv_iload_n cx.1 cx.2.1 dL_isCell_255 rfl (lv_at hl 7 rfl) ?_
                refine zThenIx (v := S 20 nc) (S' := S) hS (zRunV (As := [.int (nI nc)]) (rest := []) _ 1 cx (bq_X6_kind l dC dI cyI cyB ad hI S F hF nc (by omega)) gL_isCell_X6_kind rfl ⟨rfl, rfl⟩ (by decide +kernel) ⟨Nat.le_of_ble_eq_true rfl, Nat.le_of_ble_eq_true rfl⟩ (xL_X ad 39) hXs hK hP hS 0 rfl rfl rfl rfl hl.1 rfl (Nat.le_of_ble_eq_true rfl) dL_isCell_256 ⟨Nat.le_of_ble_eq_true rfl, Nat.le_of_ble_eq_true rfl⟩) (fun H locs hP hS => ?_)
                refine lv_aload_n cx.1 cx.2.1 dL_isCell_259 rfl (lv_at hl 5 rfl) ?_
                refine lv_iload_n cx.1 cx.2.1 dL_isCell_260 rfl (lv_at hl 7 rfl) ?_
                refine zIldN cx hK hP 36 0 rfl rfl (nc) (by omega) (by decide) rfl dL_isCell_261 ?_
                refine lv_icmp_ne (tgt := 376) cx.1 cx.2.1 dL_isCell_262 (by decide) (fun c16 => ?_) (fun c16 => ?_)
                · exact absurd rfl c16
                · refine lv_aload_n cx.1 cx.2.1 dL_isCell_265 rfl (lv_at hl 4 rfl) ?_
                  refine lv_iload_n cx.1 cx.2.1 dL_isCell_266 rfl (lv_at hl 7 rfl) ?_
                  refine zThenIx (v := S 21 nc) (S' := S) hS (zRunV (As := [.int (nI nc)]) (rest := []) _ 1 cx (bq_X6_level l dC dI cyI cyB ad hI S F hF nc (by omega)) gL_isCell_X6_level rfl ⟨rfl, rfl⟩ (by decide +kernel) ⟨Nat.le_of_ble_eq_true rfl, Nat.le_of_ble_eq_true rfl⟩ (xL_X ad 39) hXs hK hP hS 0 rfl rfl rfl rfl hl.1 rfl (Nat.le_of_ble_eq_true rfl) dL_isCell_267 ⟨Nat.le_of_ble_eq_true rfl, Nat.le_of_ble_eq_true rfl⟩) (fun H locs hP hS => ?_)
                  refine lv_aload_n cx.1 cx.2.1 dL_isCell_270 rfl (lv_at hl 6 rfl) ?_
                  refine lv_iload_n cx.1 cx.2.1 dL_isCell_271 rfl (lv_at hl 7 rfl) ?_
                  refine zIldN cx hK hP 37 0 rfl rfl (nc) (by omega) (by decide) rfl dL_isCell_272 ?_
                  refine lv_icmp_ne (tgt := 376) cx.1 cx.2.1 dL_isCell_273 (by decide) (fun c17 => ?_) (fun c17 => ?_)
                  · exact absurd rfl c17
                  · refine lv_aload_n cx.1 cx.2.1 dL_isCell_276 rfl (lv_at hl 4 rfl) ?_
                    refine lv_iload_n cx.1 cx.2.1 dL_isCell_277 rfl (lv_at hl 7 rfl) ?_
                    refine zThenIx (v := f_X7_valueOf F nc) (S' := S) hS (zRunV (As := [.int (nI nc)]) (rest := []) _ 1 cx (bq_X6_value l dC dI cyI cyB ad hI S F hF nc (by omega)) gL_isCell_X6_value rfl ⟨rfl, rfl⟩ (by decide +kernel) ⟨Nat.le_of_ble_eq_true rfl, Nat.le_of_ble_eq_true rfl⟩ (xL_X ad 39) hXs hK hP hS 0 rfl rfl rfl rfl hl.1 rfl (Nat.le_of_ble_eq_true rfl) dL_isCell_278 ⟨Nat.le_of_ble_eq_true rfl, Nat.le_of_ble_eq_true rfl⟩) (fun H locs hP hS => ?_)
                    have j292 : ∀ (v : Int32) (H : Heap) (locs : List Loc), v = (if 0 ≤ (N1 - (if (S 20 nc) = 1 then 0 else 0 : Int32)) then (N1 - (if (S 20 nc) = 1 then 0 else 0 : Int32)) else 0 : Int32) → va_P (dC, dI) vwCl (qw cyI ad S) H → va_S (zA ad 39 s.heap.size) s.heap H locs → W p l e (headSpec wsL_isCell ({ frames := 15, cells := 32, slots := 256, locals := 474 } : Room)).room s m args below meth c H locs 0 0 Q (F0 m 292 ls (.int v :: [.int (f_X7_valueOf F nc)])) := by
                      intro v H locs hv hP hS
                      subst hv
                      refine lv_icmp_ne (tgt := 376) cx.1 cx.2.1 dL_isCell_292 (by decide) (fun c19 => ?_) (fun c19 => ?_)
                      · exact absurd (cell_value0 hF hnc hr hN1) c19
                      · refine lv_iload cx.1 cx.2.1 dL_isCell_295 (lv_at hl 0 rfl) ?_
                        refine lv_iload cx.1 cx.2.1 dL_isCell_297 (lv_at hl 1 rfl) ?_
                        refine lv_icmp_ne (tgt := 376) cx.1 cx.2.1 dL_isCell_299 (by decide) (fun c20 => ?_) (fun c20 => ?_)
                        · exact absurd (cell_going hF hnc hN2) c20
                        · refine lv_iload cx.1 cx.2.1 dL_isCell_302 (lv_at hl 0 rfl) ?_
                          refine lv_if_lt (tgt := 376) cx.1 cx.2.1 dL_isCell_304 (by decide) (fun c21 => ?_) (fun c21 => ?_)
                          · exact absurd c21 (cell_p0 hF hnc)
                          · refine lv_iload cx.1 cx.2.1 dL_isCell_307 (lv_at hl 0 rfl) ?_
                            refine lv_iconst (v := 2) cx.1 cx.2.1 dL_isCell_309 (by decide) ?_
                            refine lv_aload_n cx.1 cx.2.1 dL_isCell_310 rfl (lv_at hl 6 rfl) ?_
                            refine lv_iload_n cx.1 cx.2.1 dL_isCell_311 rfl (lv_at hl 7 rfl) ?_
                            refine zIldN cx hK hP 37 0 rfl rfl (nc) (by omega) (by decide) rfl dL_isCell_312 ?_
                            refine lv_imul cx.1 cx.2.1 dL_isCell_313 ?_
                            refine lv_icmp_gt (tgt := 376) cx.1 cx.2.1 dL_isCell_314 (by decide) (fun c22 => ?_) (fun c22 => ?_)
                            · exact absurd c22 (cell_p2 hF hnc)
                            · have j332 : ∀ (H : Heap) (locs : List Loc), va_P (dC, dI) vwCl (qw cyI ad S) H → va_S (zA ad 39 s.heap.size) s.heap H locs → W p l e (headSpec wsL_isCell ({ frames := 15, cells := 32, slots := 256, locals := 474 } : Room)).room s m args below meth c H locs 0 0 Q (F0 m 332 ls []) := by
                                intro H locs hP hS
                                refine lv_aload_n cx.1 cx.2.1 dL_isCell_332 rfl (lv_at hl 4 rfl) ?_
                                refine lv_iload_n cx.1 cx.2.1 dL_isCell_333 rfl (lv_at hl 7 rfl) ?_
                                refine zThenIx (v := F 11 nc) (S' := S) hS (zRunV (As := [.int (nI nc)]) (rest := []) _ 1 cx (bq_X6_traffic l dC dI cyI cyB ad hI S F hF nc (by omega)) gL_isCell_X6_traffic rfl ⟨rfl, rfl⟩ (by decide +kernel) ⟨Nat.le_of_ble_eq_true rfl, Nat.le_of_ble_eq_true rfl⟩ (xL_X ad 39) hXs hK hP hS 0 rfl rfl rfl rfl hl.1 rfl (Nat.le_of_ble_eq_true rfl) dL_isCell_334 ⟨Nat.le_of_ble_eq_true rfl, Nat.le_of_ble_eq_true rfl⟩) (fun H locs hP hS => ?_)
                                refine lv_if_lt (tgt := 376) cx.1 cx.2.1 dL_isCell_337 (by decide) (fun c25 => ?_) (fun c25 => ?_)
                                · exact absurd c25 (cell_t1 hF hnc)
                                · refine lv_aload_n cx.1 cx.2.1 dL_isCell_340 rfl (lv_at hl 4 rfl) ?_
                                  refine lv_aload_n cx.1 cx.2.1 dL_isCell_341 rfl (lv_at hl 5 rfl) ?_
                                  refine lv_aload_n cx.1 cx.2.1 dL_isCell_342 rfl (lv_at hl 6 rfl) ?_
                                  refine lv_iload_n cx.1 cx.2.1 dL_isCell_343 rfl (lv_at hl 7 rfl) ?_
                                  refine bCall (As := [.ref (ad 0), .ref (ad 36), .ref (ad 37), .int (nI nc)]) (rest := []) 4 cx (c_L_isText l dC dI cyI cyB ad hI hlf S F hF nc (by omega)) gL_isCell_L_isText rfl ⟨rfl, rfl⟩ (by decide +kernel) ⟨Nat.le_of_ble_eq_true rfl, Nat.le_of_ble_eq_true rfl⟩ (xL_X ad 39) hXs hK hP hS rfl hl.1 rfl (Nat.le_of_ble_eq_true rfl) dL_isCell_344 ⟨Nat.le_of_ble_eq_true rfl, Nat.le_of_ble_eq_true rfl⟩ (fun r T26 H locs hp hP hS => ?_)
                                  obtain ⟨h7, h8⟩ := hp
                                  subst h7
                                  rw [h8] at hP
                                  refine lv_if_eq (tgt := 376) cx.1 cx.2.1 dL_isCell_347 (by decide) (fun c27 => ?_) (fun c27 => ?_)
                                  · exact absurd c27 (by decide)
                                  refine lv_aload_n cx.1 cx.2.1 dL_isCell_350 rfl (lv_at hl 5 rfl) ?_
                                  refine lv_iload_n cx.1 cx.2.1 dL_isCell_351 rfl (lv_at hl 7 rfl) ?_
                                  refine zIldN cx hK hP 36 0 rfl rfl (nc) (by omega) (by decide) rfl dL_isCell_352 ?_
                                  refine lv_iconst (v := 2) cx.1 cx.2.1 dL_isCell_353 (by decide) ?_
                                  refine lv_icmp_eq (tgt := 372) cx.1 cx.2.1 dL_isCell_354 (by decide) (fun c28 => ?_) (fun c28 => ?_)
                                  · refine lv_iconst (v := 1) cx.1 cx.2.1 dL_isCell_372 (by decide) ?_
                                    refine lv_goto (tgt := 377) cx.1 cx.2.1 dL_isCell_373 (by decide) ?_
                                    rw [hQ]
                                    exact bRet (v := 1) cx hrt hlk (by first | rfl | decide) hS hP ⟨rfl, rfl⟩ (Nat.le_of_ble_eq_true rfl) (Nat.le_of_ble_eq_true rfl) dL_isCell_377
                                  · have hz2 := c28
                                    refine lv_aload_n cx.1 cx.2.1 dL_isCell_357 rfl (lv_at hl 5 rfl) ?_
                                    refine lv_iload_n cx.1 cx.2.1 dL_isCell_358 rfl (lv_at hl 7 rfl) ?_
                                    refine zIldN cx hK hP 36 0 rfl rfl (nc) (by omega) (by decide) rfl dL_isCell_359 ?_
                                    refine lv_iconst (v := 3) cx.1 cx.2.1 dL_isCell_360 (by decide) ?_
                                    refine lv_icmp_eq (tgt := 372) cx.1 cx.2.1 dL_isCell_361 (by decide) (fun c29 => ?_) (fun c29 => ?_)
                                    · refine lv_iconst (v := 1) cx.1 cx.2.1 dL_isCell_372 (by decide) ?_
                                      refine lv_goto (tgt := 377) cx.1 cx.2.1 dL_isCell_373 (by decide) ?_
                                      rw [hQ]
                                      exact bRet (v := 1) cx hrt hlk (by first | rfl | decide) hS hP ⟨rfl, rfl⟩ (Nat.le_of_ble_eq_true rfl) (Nat.le_of_ble_eq_true rfl) dL_isCell_377
                                    · have hz3 := c29
                                      refine lv_aload_n cx.1 cx.2.1 dL_isCell_364 rfl (lv_at hl 4 rfl) ?_
                                      refine lv_iload_n cx.1 cx.2.1 dL_isCell_365 rfl (lv_at hl 7 rfl) ?_
                                      refine zThenIx (v := F 8 nc) (S' := S) hS (zRunV (As := [.int (nI nc)]) (rest := []) _ 1 cx (bq_X6_isServed l dC dI cyI cyB ad hI S F hF nc (by omega)) gL_isCell_X6_isServed rfl ⟨rfl, rfl⟩ (by decide +kernel) ⟨Nat.le_of_ble_eq_true rfl, Nat.le_of_ble_eq_true rfl⟩ (xL_X ad 39) hXs hK hP hS 0 rfl rfl rfl rfl hl.1 rfl (Nat.le_of_ble_eq_true rfl) dL_isCell_366 ⟨Nat.le_of_ble_eq_true rfl, Nat.le_of_ble_eq_true rfl⟩) (fun H locs hP hS => ?_)
                                      refine lv_if_ne (tgt := 376) cx.1 cx.2.1 dL_isCell_369 (by decide) (fun c30 => ?_) (fun c30 => ?_)
                                      · exact absurd (cell_s0 hF hnc hz2 hz3) c30
                                      · refine lv_iconst (v := 1) cx.1 cx.2.1 dL_isCell_372 (by decide) ?_
                                        refine lv_goto (tgt := 377) cx.1 cx.2.1 dL_isCell_373 (by decide) ?_
                                        rw [hQ]
                                        exact bRet (v := 1) cx hrt hlk (by first | rfl | decide) hS hP ⟨rfl, rfl⟩ (Nat.le_of_ble_eq_true rfl) (Nat.le_of_ble_eq_true rfl) dL_isCell_377
                              refine lv_aload_n cx.1 cx.2.1 dL_isCell_317 rfl (lv_at hl 5 rfl) ?_
                              refine lv_iload_n cx.1 cx.2.1 dL_isCell_318 rfl (lv_at hl 7 rfl) ?_
                              refine zIldN cx hK hP 36 0 rfl rfl (nc) (by omega) (by decide) rfl dL_isCell_319 ?_
                              refine lv_iconst (v := 1) cx.1 cx.2.1 dL_isCell_320 (by decide) ?_
                              refine lv_icmp_eq (tgt := 332) cx.1 cx.2.1 dL_isCell_321 (by decide) (fun c23 => ?_) (fun c23 => ?_)
                              · exact j332 _ _ hP hS
                              · have hnr := c23
                                refine lv_aload_n cx.1 cx.2.1 dL_isCell_324 rfl (lv_at hl 4 rfl) ?_
                                refine lv_iload_n cx.1 cx.2.1 dL_isCell_325 rfl (lv_at hl 7 rfl) ?_
                                refine zThenIx (v := F 11 nc) (S' := S) hS (zRunV (As := [.int (nI nc)]) (rest := []) _ 1 cx (bq_X6_traffic l dC dI cyI cyB ad hI S F hF nc (by omega)) gL_isCell_X6_traffic rfl ⟨rfl, rfl⟩ (by decide +kernel) ⟨Nat.le_of_ble_eq_true rfl, Nat.le_of_ble_eq_true rfl⟩ (xL_X ad 39) hXs hK hP hS 0 rfl rfl rfl rfl hl.1 rfl (Nat.le_of_ble_eq_true rfl) dL_isCell_326 ⟨Nat.le_of_ble_eq_true rfl, Nat.le_of_ble_eq_true rfl⟩) (fun H locs hP hS => ?_)
                                refine lv_if_ne (tgt := 376) cx.1 cx.2.1 dL_isCell_329 (by decide) (fun c24 => ?_) (fun c24 => ?_)
                                · exact absurd (cell_t0 hF hnc hnr) c24
                                · exact j332 _ _ hP hS
                    refine lv_iload cx.1 cx.2.1 dL_isCell_281 (lv_at hl 2 rfl) ?_
                    refine lv_if_ge (tgt := 290) cx.1 cx.2.1 dL_isCell_283 (by decide) (fun c18 => ?_) (fun c18 => ?_)
                    · refine lv_iload cx.1 cx.2.1 dL_isCell_290 (lv_at hl 2 rfl) ?_
                      exact j292 _ _ _ (by first | (rw [if_pos c18]; done) | exact Eq.symm ((if_pos c18).trans (rfl))) hP hS
                    · refine lv_iconst (v := 0) cx.1 cx.2.1 dL_isCell_286 (by decide) ?_
                      refine lv_goto (tgt := 292) cx.1 cx.2.1 dL_isCell_287 (by decide) ?_
                      exact j292 _ _ _ (by first | (rw [if_neg c18]; done) | exact Eq.symm ((if_neg c18).trans (rfl))) hP hS
              · have nc9 : ¬ 64 ≤ i := fun z => c9 ((nI_leI (a := 64) (b := i) (by first | decide | omega) (by first | decide | omega)).mpr z)
                refine lv_iload cx.1 cx.2.1 dL_isCell_185 (lv_at hl 1 rfl) ?_
                have j238 : ∀ (v : Int32) (H : Heap) (locs : List Loc), v = (if ¬ (S 20 nc) = 2 then (if ¬ (S 20 nc) = 3 then 0 else (if ¬ (S 20 i) = 2 then 0 else (F 10 (64 * i + nc)))) else (if ¬ (S 20 i) = 3 then (if ¬ (S 20 nc) = 3 then 0 else (if ¬ (S 20 i) = 2 then 0 else (F 10 (64 * i + nc)))) else (F 10 (64 * nc + i))) : Int32) → va_P (dC, dI) vwCl (qw cyI ad S) H → va_S (zA ad 39 s.heap.size) s.heap H locs → W p l e (headSpec wsL_isCell ({ frames := 15, cells := 32, slots := 256, locals := 474 } : Room)).room s m args below meth c H locs 0 0 Q (F0 m 238 ls (.int v :: [.int go])) := by
                  intro v H locs hv hP hS
                  subst hv
                  refine lv_iadd cx.1 cx.2.1 dL_isCell_238 ?_
                  refine lv_istore (lv' := [(6, .int (go + (if ¬ (S 20 nc) = 2 then (if ¬ (S 20 nc) = 3 then 0 else (if ¬ (S 20 i) = 2 then 0 else (F 10 (64 * i + nc)))) else (if ¬ (S 20 i) = 3 then (if ¬ (S 20 nc) = 3 then 0 else (if ¬ (S 20 i) = 2 then 0 else (F 10 (64 * i + nc)))) else (F 10 (64 * nc + i))) : Int32))), (7, .int (nI i)), (4, .int (N1 - (if (S 20 nc) = 1 then 0 else 0 : Int32))), (5, .int (-1)), (0, .ref (ad 0)), (1, .ref (ad 36)), (2, .ref (ad 37)), (3, .int (nI nc))]) cx.1 cx.2.1 dL_isCell_239 hl (by decide) rfl (fun ls hl => ?_)
                  refine lv_iinc (v := nI (i + 1)) (lv' := [(7, .int (nI (i + 1))), (6, .int (go + (if ¬ (S 20 nc) = 2 then (if ¬ (S 20 nc) = 3 then 0 else (if ¬ (S 20 i) = 2 then 0 else (F 10 (64 * i + nc)))) else (if ¬ (S 20 i) = 3 then (if ¬ (S 20 nc) = 3 then 0 else (if ¬ (S 20 i) = 2 then 0 else (F 10 (64 * i + nc)))) else (F 10 (64 * nc + i))) : Int32))), (4, .int (N1 - (if (S 20 nc) = 1 then 0 else 0 : Int32))), (5, .int (-1)), (0, .ref (ad 0)), (1, .ref (ad 36)), (2, .ref (ad 37)), (3, .int (nI nc))]) cx.1 cx.2.1 dL_isCell_241 hl (k := 1) rfl (nI_1 i) (by decide) rfl (fun ls hl => ?_)
                  refine lv_goto (tgt := 178) cx.1 cx.2.1 dL_isCell_244 (by decide) ?_
                  have ha178 : lp_L_isCell_178 S F nc 0 (i + 1) = go + (if ¬ (S 20 nc) = 2 then (if ¬ (S 20 nc) = 3 then 0 else (if ¬ (S 20 i) = 2 then 0 else (F 10 (64 * i + nc)))) else (if ¬ (S 20 i) = 3 then (if ¬ (S 20 nc) = 3 then 0 else (if ¬ (S 20 i) = 2 then 0 else (F 10 (64 * i + nc)))) else (F 10 (64 * nc + i))) : Int32) := by
                    show bd_L_isCell_178 S F nc i (lp_L_isCell_178 S F nc 0 i) = _
                    rw [hacc178]
                    unfold bd_L_isCell_178
                    rfl
                  exact ih178 (i + 1) (go + (if ¬ (S 20 nc) = 2 then (if ¬ (S 20 nc) = 3 then 0 else (if ¬ (S 20 i) = 2 then 0 else (F 10 (64 * i + nc)))) else (if ¬ (S 20 i) = 3 then (if ¬ (S 20 nc) = 3 then 0 else (if ¬ (S 20 i) = 2 then 0 else (F 10 (64 * i + nc)))) else (F 10 (64 * nc + i))) : Int32)) (by omega) ha178  (by omega) _ _ ls hP hS (lv_sub hl [0, 1, 2, 3, 4, 5, 6, 7] rfl)
                refine lv_aload_n cx.1 cx.2.1 dL_isCell_187 rfl (lv_at hl 5 rfl) ?_
                refine lv_iload_n cx.1 cx.2.1 dL_isCell_188 rfl (lv_at hl 7 rfl) ?_
                refine zIldN cx hK hP 36 0 rfl rfl (nc) (by omega) (by decide) rfl dL_isCell_189 ?_
                refine lv_iconst (v := 2) cx.1 cx.2.1 dL_isCell_190 (by decide) ?_
                refine lv_icmp_ne (tgt := 212) cx.1 cx.2.1 dL_isCell_191 (by decide) (fun c10 => ?_) (fun c10 => ?_)
                · refine lv_aload_n cx.1 cx.2.1 dL_isCell_212 rfl (lv_at hl 5 rfl) ?_
                  refine lv_iload_n cx.1 cx.2.1 dL_isCell_213 rfl (lv_at hl 7 rfl) ?_
                  refine zIldN cx hK hP 36 0 rfl rfl (nc) (by omega) (by decide) rfl dL_isCell_214 ?_
                  refine lv_iconst (v := 3) cx.1 cx.2.1 dL_isCell_215 (by decide) ?_
                  refine lv_icmp_ne (tgt := 237) cx.1 cx.2.1 dL_isCell_216 (by decide) (fun c11 => ?_) (fun c11 => ?_)
                  · refine lv_iconst (v := 0) cx.1 cx.2.1 dL_isCell_237 (by decide) ?_
                    exact j238 _ _ _ (by first | (rw [if_pos c10, if_pos c11]; done) | exact Eq.symm ((if_pos c10).trans ((if_pos c11).trans (rfl)))) hP hS
                  · refine lv_aload_n cx.1 cx.2.1 dL_isCell_219 rfl (lv_at hl 5 rfl) ?_
                    refine lv_iload cx.1 cx.2.1 dL_isCell_220 (lv_at hl 0 rfl) ?_
                    refine zIldN cx hK hP 36 0 rfl rfl (i) (by omega) (by decide) rfl dL_isCell_222 ?_
                    refine lv_iconst (v := 2) cx.1 cx.2.1 dL_isCell_223 (by decide) ?_
                    refine lv_icmp_ne (tgt := 237) cx.1 cx.2.1 dL_isCell_224 (by decide) (fun c12 => ?_) (fun c12 => ?_)
                    · refine lv_iconst (v := 0) cx.1 cx.2.1 dL_isCell_237 (by decide) ?_
                      exact j238 _ _ _ (by first | (rw [if_pos c10, if_neg (not_not_intro c11), if_pos c12]; done) | exact Eq.symm ((if_pos c10).trans ((if_neg (not_not_intro c11)).trans ((if_pos c12).trans (rfl))))) hP hS
                    · refine lv_aload_n cx.1 cx.2.1 dL_isCell_227 rfl (lv_at hl 4 rfl) ?_
                      refine lv_iload cx.1 cx.2.1 dL_isCell_228 (lv_at hl 0 rfl) ?_
                      refine lv_iload_n cx.1 cx.2.1 dL_isCell_230 rfl (lv_at hl 7 rfl) ?_
                      refine zThenIx (v := F 10 (64 * i + nc)) (S' := S) hS (zRunV (As := [.int (nI i), .int (nI nc)]) (rest := [.int go]) _ 2 cx (bq_X6_going l dC dI cyI cyB ad hI S F hF i (by omega) nc (by omega)) gL_isCell_X6_going rfl ⟨rfl, rfl⟩ (by decide +kernel) ⟨Nat.le_of_ble_eq_true rfl, Nat.le_of_ble_eq_true rfl⟩ (xL_X ad 39) hXs hK hP hS 0 rfl rfl rfl rfl hl.1 rfl (Nat.le_of_ble_eq_true rfl) dL_isCell_231 ⟨Nat.le_of_ble_eq_true rfl, Nat.le_of_ble_eq_true rfl⟩) (fun H locs hP hS => ?_)
                      refine lv_goto (tgt := 238) cx.1 cx.2.1 dL_isCell_234 (by decide) ?_
                      exact j238 _ _ _ (by first | (rw [if_pos c10, if_neg (not_not_intro c11), if_neg (not_not_intro c12)]; done) | exact Eq.symm ((if_pos c10).trans ((if_neg (not_not_intro c11)).trans ((if_neg (not_not_intro c12)).trans (rfl))))) hP hS
                · refine lv_aload_n cx.1 cx.2.1 dL_isCell_194 rfl (lv_at hl 5 rfl) ?_
                  refine lv_iload cx.1 cx.2.1 dL_isCell_195 (lv_at hl 0 rfl) ?_
                  refine zIldN cx hK hP 36 0 rfl rfl (i) (by omega) (by decide) rfl dL_isCell_197 ?_
                  refine lv_iconst (v := 3) cx.1 cx.2.1 dL_isCell_198 (by decide) ?_
                  refine lv_icmp_ne (tgt := 212) cx.1 cx.2.1 dL_isCell_199 (by decide) (fun c13 => ?_) (fun c13 => ?_)
                  · refine lv_aload_n cx.1 cx.2.1 dL_isCell_212 rfl (lv_at hl 5 rfl) ?_
                    refine lv_iload_n cx.1 cx.2.1 dL_isCell_213 rfl (lv_at hl 7 rfl) ?_
                    refine zIldN cx hK hP 36 0 rfl rfl (nc) (by omega) (by decide) rfl dL_isCell_214 ?_
                    refine lv_iconst (v := 3) cx.1 cx.2.1 dL_isCell_215 (by decide) ?_
                    refine lv_icmp_ne (tgt := 237) cx.1 cx.2.1 dL_isCell_216 (by decide) (fun c14 => ?_) (fun c14 => ?_)
                    · refine lv_iconst (v := 0) cx.1 cx.2.1 dL_isCell_237 (by decide) ?_
                      exact j238 _ _ _ (by first | (rw [if_neg (not_not_intro c10), if_pos c13, if_pos c14]; done) | exact Eq.symm ((if_neg (not_not_intro c10)).trans ((if_pos c13).trans ((if_pos c14).trans (rfl))))) hP hS
                    · refine lv_aload_n cx.1 cx.2.1 dL_isCell_219 rfl (lv_at hl 5 rfl) ?_
                      refine lv_iload cx.1 cx.2.1 dL_isCell_220 (lv_at hl 0 rfl) ?_
                      refine zIldN cx hK hP 36 0 rfl rfl (i) (by omega) (by decide) rfl dL_isCell_222 ?_
                      refine lv_iconst (v := 2) cx.1 cx.2.1 dL_isCell_223 (by decide) ?_
                      refine lv_icmp_ne (tgt := 237) cx.1 cx.2.1 dL_isCell_224 (by decide) (fun c15 => ?_) (fun c15 => ?_)
                      · refine lv_iconst (v := 0) cx.1 cx.2.1 dL_isCell_237 (by decide) ?_
                        exact j238 _ _ _ (by first | (rw [if_neg (not_not_intro c10), if_pos c13, if_neg (not_not_intro c14), if_pos c15]; done) | exact Eq.symm ((if_neg (not_not_intro c10)).trans ((if_pos c13).trans ((if_neg (not_not_intro c14)).trans ((if_pos c15).trans (rfl)))))) hP hS
                      · refine lv_aload_n cx.1 cx.2.1 dL_isCell_227 rfl (lv_at hl 4 rfl) ?_
                        refine lv_iload cx.1 cx.2.1 dL_isCell_228 (lv_at hl 0 rfl) ?_
                        refine lv_iload_n cx.1 cx.2.1 dL_isCell_230 rfl (lv_at hl 7 rfl) ?_
                        refine zThenIx (v := F 10 (64 * i + nc)) (S' := S) hS (zRunV (As := [.int (nI i), .int (nI nc)]) (rest := [.int go]) _ 2 cx (bq_X6_going l dC dI cyI cyB ad hI S F hF i (by omega) nc (by omega)) gL_isCell_X6_going rfl ⟨rfl, rfl⟩ (by decide +kernel) ⟨Nat.le_of_ble_eq_true rfl, Nat.le_of_ble_eq_true rfl⟩ (xL_X ad 39) hXs hK hP hS 0 rfl rfl rfl rfl hl.1 rfl (Nat.le_of_ble_eq_true rfl) dL_isCell_231 ⟨Nat.le_of_ble_eq_true rfl, Nat.le_of_ble_eq_true rfl⟩) (fun H locs hP hS => ?_)
                        refine lv_goto (tgt := 238) cx.1 cx.2.1 dL_isCell_234 (by decide) ?_
                        exact j238 _ _ _ (by first | (rw [if_neg (not_not_intro c10), if_pos c13, if_neg (not_not_intro c14), if_neg (not_not_intro c15)]; done) | exact Eq.symm ((if_neg (not_not_intro c10)).trans ((if_pos c13).trans ((if_neg (not_not_intro c14)).trans ((if_neg (not_not_intro c15)).trans (rfl)))))) hP hS
                  · refine lv_aload_n cx.1 cx.2.1 dL_isCell_202 rfl (lv_at hl 4 rfl) ?_
                    refine lv_iload_n cx.1 cx.2.1 dL_isCell_203 rfl (lv_at hl 7 rfl) ?_
                    refine lv_iload cx.1 cx.2.1 dL_isCell_204 (lv_at hl 0 rfl) ?_
                    refine zThenIx (v := F 10 (64 * nc + i)) (S' := S) hS (zRunV (As := [.int (nI nc), .int (nI i)]) (rest := [.int go]) _ 2 cx (bq_X6_going l dC dI cyI cyB ad hI S F hF nc (by omega) i (by omega)) gL_isCell_X6_going rfl ⟨rfl, rfl⟩ (by decide +kernel) ⟨Nat.le_of_ble_eq_true rfl, Nat.le_of_ble_eq_true rfl⟩ (xL_X ad 39) hXs hK hP hS 0 rfl rfl rfl rfl hl.1 rfl (Nat.le_of_ble_eq_true rfl) dL_isCell_206 ⟨Nat.le_of_ble_eq_true rfl, Nat.le_of_ble_eq_true rfl⟩) (fun H locs hP hS => ?_)
                    refine lv_goto (tgt := 238) cx.1 cx.2.1 dL_isCell_209 (by decide) ?_
                    exact j238 _ _ _ (by first | (rw [if_neg (not_not_intro c10), if_neg (not_not_intro c13)]; done) | exact Eq.symm ((if_neg (not_not_intro c10)).trans ((if_neg (not_not_intro c13)).trans (rfl)))) hP hS
          exact lp178 (64 - 0 + 1) 0 0 (by omega) rfl  (Nat.lt_succ_self _) _ _ ls hP hS (lv_sub hl [0, 1, 2, 3, 4, 5, 6, 7] rfl)
        refine lv_aload_n cx.1 cx.2.1 dL_isCell_147 rfl (lv_at hl 3 rfl) ?_
        refine lv_iload_n cx.1 cx.2.1 dL_isCell_148 rfl (lv_at hl 5 rfl) ?_
        refine zIldN cx hK hP 36 0 rfl rfl (nc) (by omega) (by decide) rfl dL_isCell_149 ?_
        refine lv_iconst (v := 1) cx.1 cx.2.1 dL_isCell_150 (by decide) ?_
        refine lv_icmp_eq (tgt := 168) cx.1 cx.2.1 dL_isCell_151 (by decide) (fun c7 => ?_) (fun c7 => ?_)
        · refine lv_iconst (v := 0) cx.1 cx.2.1 dL_isCell_168 (by decide) ?_
          exact j169 _ _ _ (by first | (rw [if_pos c7]; done) | exact Eq.symm ((if_pos c7).trans (rfl))) hP hS
        · refine lv_iload cx.1 cx.2.1 dL_isCell_154 (lv_at hl 0 rfl) ?_
          refine lv_if_lt (tgt := 168) cx.1 cx.2.1 dL_isCell_156 (by decide) (fun c8 => ?_) (fun c8 => ?_)
          rotate_left
          · exact absurd c8 (by decide)
          refine lv_iconst (v := 0) cx.1 cx.2.1 dL_isCell_168 (by decide) ?_
          exact j169 _ _ _ (by first | (rw [if_neg c7]; done) | exact Eq.symm ((if_neg c7).trans (rfl))) hP hS
      · have nc1 : ¬ 64 ≤ i := fun z => c1 ((nI_leI (a := 64) (b := i) (by first | decide | omega) (by first | decide | omega)).mpr z)
        have j49 : ∀ (v : Int32) (H : Heap) (locs : List Loc), v = (if ((nI i) / 8) ≤ ((nI nc) / 8) then (((nI nc) / 8) - ((nI i) / 8)) else (((nI i) / 8) - ((nI nc) / 8)) : Int32) → va_P (dC, dI) vwCl (qw cyI ad S) H → va_S (zA ad 39 s.heap.size) s.heap H locs → W p l e (headSpec wsL_isCell ({ frames := 15, cells := 32, slots := 256, locals := 474 } : Room)).room s m args below meth c H locs 0 0 Q (F0 m 49 ls (.int v :: [])) := by
          intro v H locs hv hP hS
          subst hv
          refine lv_istore (lv' := [(6, .int (if ((nI i) / 8) ≤ ((nI nc) / 8) then (((nI nc) / 8) - ((nI i) / 8)) else (((nI i) / 8) - ((nI nc) / 8)) : Int32)), (5, .int (nI i)), (4, .int va), (0, .ref (ad 0)), (1, .ref (ad 36)), (2, .ref (ad 37)), (3, .int (nI nc))]) cx.1 cx.2.1 dL_isCell_49 hl (by decide) rfl (fun ls hl => ?_)
          have j86 : ∀ (v : Int32) (H : Heap) (locs : List Loc), v = (if ((nI i) - (nI i) / 8 * 8) ≤ ((nI nc) - (nI nc) / 8 * 8) then (((nI nc) - (nI nc) / 8 * 8) - ((nI i) - (nI i) / 8 * 8)) else (((nI i) - (nI i) / 8 * 8) - ((nI nc) - (nI nc) / 8 * 8)) : Int32) → va_P (dC, dI) vwCl (qw cyI ad S) H → va_S (zA ad 39 s.heap.size) s.heap H locs → W p l e (headSpec wsL_isCell ({ frames := 15, cells := 32, slots := 256, locals := 474 } : Room)).room s m args below meth c H locs 0 0 Q (F0 m 86 ls (.int v :: [])) := by
            intro v H locs hv hP hS
            subst hv
            refine lv_istore (lv' := [(7, .int (if ((nI i) - (nI i) / 8 * 8) ≤ ((nI nc) - (nI nc) / 8 * 8) then (((nI nc) - (nI nc) / 8 * 8) - ((nI i) - (nI i) / 8 * 8)) else (((nI i) - (nI i) / 8 * 8) - ((nI nc) - (nI nc) / 8 * 8)) : Int32)), (6, .int (if ((nI i) / 8) ≤ ((nI nc) / 8) then (((nI nc) / 8) - ((nI i) / 8)) else (((nI i) / 8) - ((nI nc) / 8)) : Int32)), (5, .int (nI i)), (4, .int va), (0, .ref (ad 0)), (1, .ref (ad 36)), (2, .ref (ad 37)), (3, .int (nI nc))]) cx.1 cx.2.1 dL_isCell_86 hl (by decide) rfl (fun ls hl => ?_)
            refine lv_iload cx.1 cx.2.1 dL_isCell_88 (lv_at hl 3 rfl) ?_
            have j129 : ∀ (v : Int32) (H : Heap) (locs : List Loc), v = (if ((if ((nI i) / 8) ≤ ((nI nc) / 8) then (((nI nc) / 8) - ((nI i) / 8)) else (((nI i) / 8) - ((nI nc) / 8)) : Int32) + (if ((nI i) - (nI i) / 8 * 8) ≤ ((nI nc) - (nI nc) / 8 * 8) then (((nI nc) - (nI nc) / 8 * 8) - ((nI i) - (nI i) / 8 * 8)) else (((nI i) - (nI i) / 8 * 8) - ((nI nc) - (nI nc) / 8 * 8)) : Int32)) ≤ 2 then (if ¬ (S 20 i) = 4 then (if ¬ (S 20 i) = 5 then 0 else (-10)) else 5) else 0 : Int32) → va_P (dC, dI) vwCl (qw cyI ad S) H → va_S (zA ad 39 s.heap.size) s.heap H locs → W p l e (headSpec wsL_isCell ({ frames := 15, cells := 32, slots := 256, locals := 474 } : Room)).room s m args below meth c H locs 0 0 Q (F0 m 129 ls (.int v :: [.int va])) := by
              intro v H locs hv hP hS
              subst hv
              refine lv_iadd cx.1 cx.2.1 dL_isCell_129 ?_
              refine lv_istore (lv' := [(4, .int (va + (if ((if ((nI i) / 8) ≤ ((nI nc) / 8) then (((nI nc) / 8) - ((nI i) / 8)) else (((nI i) / 8) - ((nI nc) / 8)) : Int32) + (if ((nI i) - (nI i) / 8 * 8) ≤ ((nI nc) - (nI nc) / 8 * 8) then (((nI nc) - (nI nc) / 8 * 8) - ((nI i) - (nI i) / 8 * 8)) else (((nI i) - (nI i) / 8 * 8) - ((nI nc) - (nI nc) / 8 * 8)) : Int32)) ≤ 2 then (if ¬ (S 20 i) = 4 then (if ¬ (S 20 i) = 5 then 0 else (-10)) else 5) else 0 : Int32))), (7, .int (if ((nI i) - (nI i) / 8 * 8) ≤ ((nI nc) - (nI nc) / 8 * 8) then (((nI nc) - (nI nc) / 8 * 8) - ((nI i) - (nI i) / 8 * 8)) else (((nI i) - (nI i) / 8 * 8) - ((nI nc) - (nI nc) / 8 * 8)) : Int32)), (6, .int (if ((nI i) / 8) ≤ ((nI nc) / 8) then (((nI nc) / 8) - ((nI i) / 8)) else (((nI i) / 8) - ((nI nc) / 8)) : Int32)), (5, .int (nI i)), (0, .ref (ad 0)), (1, .ref (ad 36)), (2, .ref (ad 37)), (3, .int (nI nc))]) cx.1 cx.2.1 dL_isCell_130 hl (by decide) rfl (fun ls hl => ?_)
              refine lv_iinc (v := nI (i + 1)) (lv' := [(5, .int (nI (i + 1))), (4, .int (va + (if ((if ((nI i) / 8) ≤ ((nI nc) / 8) then (((nI nc) / 8) - ((nI i) / 8)) else (((nI i) / 8) - ((nI nc) / 8)) : Int32) + (if ((nI i) - (nI i) / 8 * 8) ≤ ((nI nc) - (nI nc) / 8 * 8) then (((nI nc) - (nI nc) / 8 * 8) - ((nI i) - (nI i) / 8 * 8)) else (((nI i) - (nI i) / 8 * 8) - ((nI nc) - (nI nc) / 8 * 8)) : Int32)) ≤ 2 then (if ¬ (S 20 i) = 4 then (if ¬ (S 20 i) = 5 then 0 else (-10)) else 5) else 0 : Int32))), (7, .int (if ((nI i) - (nI i) / 8 * 8) ≤ ((nI nc) - (nI nc) / 8 * 8) then (((nI nc) - (nI nc) / 8 * 8) - ((nI i) - (nI i) / 8 * 8)) else (((nI i) - (nI i) / 8 * 8) - ((nI nc) - (nI nc) / 8 * 8)) : Int32)), (6, .int (if ((nI i) / 8) ≤ ((nI nc) / 8) then (((nI nc) / 8) - ((nI i) / 8)) else (((nI i) / 8) - ((nI nc) / 8)) : Int32)), (0, .ref (ad 0)), (1, .ref (ad 36)), (2, .ref (ad 37)), (3, .int (nI nc))]) cx.1 cx.2.1 dL_isCell_132 hl (k := 3) rfl (nI_1 i) (by decide) rfl (fun ls hl => ?_)
              refine lv_goto (tgt := 7) cx.1 cx.2.1 dL_isCell_135 (by decide) ?_
              have ha7 : lp_L_isCell_7 S F nc 10 (i + 1) = va + (if ((if ((nI i) / 8) ≤ ((nI nc) / 8) then (((nI nc) / 8) - ((nI i) / 8)) else (((nI i) / 8) - ((nI nc) / 8)) : Int32) + (if ((nI i) - (nI i) / 8 * 8) ≤ ((nI nc) - (nI nc) / 8 * 8) then (((nI nc) - (nI nc) / 8 * 8) - ((nI i) - (nI i) / 8 * 8)) else (((nI i) - (nI i) / 8 * 8) - ((nI nc) - (nI nc) / 8 * 8)) : Int32)) ≤ 2 then (if ¬ (S 20 i) = 4 then (if ¬ (S 20 i) = 5 then 0 else (-10)) else 5) else 0 : Int32) := by
                show bd_L_isCell_7 S F nc i (lp_L_isCell_7 S F nc 10 i) = _
                rw [hacc7]
                unfold bd_L_isCell_7
                rfl
              exact ih7 (i + 1) (va + (if ((if ((nI i) / 8) ≤ ((nI nc) / 8) then (((nI nc) / 8) - ((nI i) / 8)) else (((nI i) / 8) - ((nI nc) / 8)) : Int32) + (if ((nI i) - (nI i) / 8 * 8) ≤ ((nI nc) - (nI nc) / 8 * 8) then (((nI nc) - (nI nc) / 8 * 8) - ((nI i) - (nI i) / 8 * 8)) else (((nI i) - (nI i) / 8 * 8) - ((nI nc) - (nI nc) / 8 * 8)) : Int32)) ≤ 2 then (if ¬ (S 20 i) = 4 then (if ¬ (S 20 i) = 5 then 0 else (-10)) else 5) else 0 : Int32)) (by omega) ha7  (by omega) _ _ ls hP hS (lv_sub hl [0, 1, 4, 5, 6, 7] rfl)
            refine lv_iload cx.1 cx.2.1 dL_isCell_90 (lv_at hl 1 rfl) ?_
            refine lv_iload cx.1 cx.2.1 dL_isCell_92 (lv_at hl 0 rfl) ?_
            refine lv_iadd cx.1 cx.2.1 dL_isCell_94 ?_
            refine lv_iconst (v := 2) cx.1 cx.2.1 dL_isCell_95 (by decide) ?_
            refine lv_icmp_le (tgt := 103) cx.1 cx.2.1 dL_isCell_96 (by decide) (fun c4 => ?_) (fun c4 => ?_)
            · refine lv_aload_n cx.1 cx.2.1 dL_isCell_103 rfl (lv_at hl 5 rfl) ?_
              refine lv_iload cx.1 cx.2.1 dL_isCell_104 (lv_at hl 2 rfl) ?_
              refine zIldN cx hK hP 36 0 rfl rfl (i) (by omega) (by decide) rfl dL_isCell_106 ?_
              refine lv_iconst (v := 4) cx.1 cx.2.1 dL_isCell_107 (by decide) ?_
              refine lv_icmp_ne (tgt := 115) cx.1 cx.2.1 dL_isCell_108 (by decide) (fun c5 => ?_) (fun c5 => ?_)
              · refine lv_aload_n cx.1 cx.2.1 dL_isCell_115 rfl (lv_at hl 5 rfl) ?_
                refine lv_iload cx.1 cx.2.1 dL_isCell_116 (lv_at hl 2 rfl) ?_
                refine zIldN cx hK hP 36 0 rfl rfl (i) (by omega) (by decide) rfl dL_isCell_118 ?_
                refine lv_iconst (v := 5) cx.1 cx.2.1 dL_isCell_119 (by decide) ?_
                refine lv_icmp_ne (tgt := 128) cx.1 cx.2.1 dL_isCell_120 (by decide) (fun c6 => ?_) (fun c6 => ?_)
                · refine lv_iconst (v := 0) cx.1 cx.2.1 dL_isCell_128 (by decide) ?_
                  exact j129 _ _ _ (by first | (rw [if_pos c4, if_pos c5, if_pos c6]; done) | exact Eq.symm ((if_pos c4).trans ((if_pos c5).trans ((if_pos c6).trans (rfl))))) hP hS
                · refine lv_bipush (v := (-10)) cx.1 cx.2.1 dL_isCell_123 (by decide) ?_
                  refine lv_goto (tgt := 129) cx.1 cx.2.1 dL_isCell_125 (by decide) ?_
                  exact j129 _ _ _ (by first | (rw [if_pos c4, if_pos c5, if_neg (not_not_intro c6)]; done) | exact Eq.symm ((if_pos c4).trans ((if_pos c5).trans ((if_neg (not_not_intro c6)).trans (rfl))))) hP hS
              · refine lv_iconst (v := 5) cx.1 cx.2.1 dL_isCell_111 (by decide) ?_
                refine lv_goto (tgt := 129) cx.1 cx.2.1 dL_isCell_112 (by decide) ?_
                exact j129 _ _ _ (by first | (rw [if_pos c4, if_neg (not_not_intro c5)]; done) | exact Eq.symm ((if_pos c4).trans ((if_neg (not_not_intro c5)).trans (rfl)))) hP hS
            · refine lv_iconst (v := 0) cx.1 cx.2.1 dL_isCell_99 (by decide) ?_
              refine lv_goto (tgt := 129) cx.1 cx.2.1 dL_isCell_100 (by decide) ?_
              exact j129 _ _ _ (by first | (rw [if_neg c4]; done) | exact Eq.symm ((if_neg c4).trans (rfl))) hP hS
          refine lv_iload cx.1 cx.2.1 dL_isCell_51 (lv_at hl 1 rfl) ?_
          refine lv_bipush (v := 8) cx.1 cx.2.1 dL_isCell_53 (by decide) ?_
          refine lv_irem cx.1 cx.2.1 dL_isCell_55 (by decide) ?_
          refine lv_iload_n cx.1 cx.2.1 dL_isCell_56 rfl (lv_at hl 6 rfl) ?_
          refine lv_bipush (v := 8) cx.1 cx.2.1 dL_isCell_57 (by decide) ?_
          refine lv_irem cx.1 cx.2.1 dL_isCell_59 (by decide) ?_
          refine lv_icmp_le (tgt := 76) cx.1 cx.2.1 dL_isCell_60 (by decide) (fun c3 => ?_) (fun c3 => ?_)
          · refine lv_iload_n cx.1 cx.2.1 dL_isCell_76 rfl (lv_at hl 6 rfl) ?_
            refine lv_bipush (v := 8) cx.1 cx.2.1 dL_isCell_77 (by decide) ?_
            refine lv_irem cx.1 cx.2.1 dL_isCell_79 (by decide) ?_
            refine lv_iload cx.1 cx.2.1 dL_isCell_80 (lv_at hl 1 rfl) ?_
            refine lv_bipush (v := 8) cx.1 cx.2.1 dL_isCell_82 (by decide) ?_
            refine lv_irem cx.1 cx.2.1 dL_isCell_84 (by decide) ?_
            refine lv_isub cx.1 cx.2.1 dL_isCell_85 ?_
            exact j86 _ _ _ (by first | (rw [if_pos c3]; done) | exact Eq.symm ((if_pos c3).trans (rfl))) hP hS
          · refine lv_iload cx.1 cx.2.1 dL_isCell_63 (lv_at hl 1 rfl) ?_
            refine lv_bipush (v := 8) cx.1 cx.2.1 dL_isCell_65 (by decide) ?_
            refine lv_irem cx.1 cx.2.1 dL_isCell_67 (by decide) ?_
            refine lv_iload_n cx.1 cx.2.1 dL_isCell_68 rfl (lv_at hl 6 rfl) ?_
            refine lv_bipush (v := 8) cx.1 cx.2.1 dL_isCell_69 (by decide) ?_
            refine lv_irem cx.1 cx.2.1 dL_isCell_71 (by decide) ?_
            refine lv_isub cx.1 cx.2.1 dL_isCell_72 ?_
            refine lv_goto (tgt := 86) cx.1 cx.2.1 dL_isCell_73 (by decide) ?_
            exact j86 _ _ _ (by first | (rw [if_neg c3]; done) | exact Eq.symm ((if_neg c3).trans (rfl))) hP hS
        refine lv_iload cx.1 cx.2.1 dL_isCell_14 (lv_at hl 0 rfl) ?_
        refine lv_bipush (v := 8) cx.1 cx.2.1 dL_isCell_16 (by decide) ?_
        refine lv_idiv cx.1 cx.2.1 dL_isCell_18 (by decide) ?_
        refine lv_iload_n cx.1 cx.2.1 dL_isCell_19 rfl (lv_at hl 5 rfl) ?_
        refine lv_bipush (v := 8) cx.1 cx.2.1 dL_isCell_20 (by decide) ?_
        refine lv_idiv cx.1 cx.2.1 dL_isCell_22 (by decide) ?_
        refine lv_icmp_le (tgt := 39) cx.1 cx.2.1 dL_isCell_23 (by decide) (fun c2 => ?_) (fun c2 => ?_)
        · refine lv_iload_n cx.1 cx.2.1 dL_isCell_39 rfl (lv_at hl 5 rfl) ?_
          refine lv_bipush (v := 8) cx.1 cx.2.1 dL_isCell_40 (by decide) ?_
          refine lv_idiv cx.1 cx.2.1 dL_isCell_42 (by decide) ?_
          refine lv_iload cx.1 cx.2.1 dL_isCell_43 (lv_at hl 0 rfl) ?_
          refine lv_bipush (v := 8) cx.1 cx.2.1 dL_isCell_45 (by decide) ?_
          refine lv_idiv cx.1 cx.2.1 dL_isCell_47 (by decide) ?_
          refine lv_isub cx.1 cx.2.1 dL_isCell_48 ?_
          exact j49 _ _ _ (by first | (rw [if_pos c2]; done) | exact Eq.symm ((if_pos c2).trans (rfl))) hP hS
        · refine lv_iload cx.1 cx.2.1 dL_isCell_26 (lv_at hl 0 rfl) ?_
          refine lv_bipush (v := 8) cx.1 cx.2.1 dL_isCell_28 (by decide) ?_
          refine lv_idiv cx.1 cx.2.1 dL_isCell_30 (by decide) ?_
          refine lv_iload_n cx.1 cx.2.1 dL_isCell_31 rfl (lv_at hl 5 rfl) ?_
          refine lv_bipush (v := 8) cx.1 cx.2.1 dL_isCell_32 (by decide) ?_
          refine lv_idiv cx.1 cx.2.1 dL_isCell_34 (by decide) ?_
          refine lv_isub cx.1 cx.2.1 dL_isCell_35 ?_
          refine lv_goto (tgt := 49) cx.1 cx.2.1 dL_isCell_36 (by decide) ?_
          exact j49 _ _ _ (by first | (rw [if_neg c2]; done) | exact Eq.symm ((if_neg c2).trans (rfl))) hP hS
  exact lp7 (64 - 0 + 1) 0 10 (by omega) rfl  (Nat.lt_succ_self _) _ _ ls hP hS (lv_sub hl [0, 1, 2, 3, 4, 5] rfl)
set_option maxHeartbeats 4000000 in
set_option maxRecDepth 100000 in
theorem c_L_isCell1 (l : Launch) (dC : Nat → ClassId) (dI : Nat → Nat → Nat) (cyI cyB : ClassId) (ad : Nat → Nat) (hI : zI ad 39) (hlf : l.stackTraces = false) (S : zS) (F : zS) (hF : LF S F) (w : Nat) (nc : Nat) (hnc : nc < 64) (hw : w < 64) (hr : F 2 nc = nI w) : bMet l (dC, dI) (lTys cyI cyB) ad 39 xL (qw cyI ad) yL_isCell wsL_isCell ({ frames := 15, cells := 32, slots := 256, locals := 474 } : Room) [.ref (ad 0), .ref (ad 36), .ref (ad 37), .int (nI nc)] S 32 256 (fun v T => v = 1 ∧ T = S) := by
  refine bStart (by decide) rfl (Nat.le_of_ble_eq_true rfl) ?_
  intro p e s m args below meth c ls cx hrt hlk hP hK hXs hl
  have hl : lv_has ls 8 [(0, .ref (ad 0)), (1, .ref (ad 36)), (2, .ref (ad 37)), (3, .int (nI nc))] := hl
  have hS : va_S (zA ad 39 s.heap.size) s.heap s.heap [] := va_S.rf
  obtain ⟨Q, hQ⟩ : ∃ Q, Q = MQ below (zQi (dC, dI) (qw cyI ad) (fun v T => v = 1 ∧ T = S) (zA ad 39 s.heap.size)) args s 32 256 (zA ad 39 s.heap.size) := ⟨_, rfl⟩
  rw [← hQ]
  refine lv_bipush (v := 10) cx.1 cx.2.1 dL_isCell_0 (by decide) ?_
  refine lv_istore (lv' := [(4, .int 10), (0, .ref (ad 0)), (1, .ref (ad 36)), (2, .ref (ad 37)), (3, .int (nI nc))]) cx.1 cx.2.1 dL_isCell_2 hl (by decide) rfl (fun ls hl => ?_)
  refine lv_iconst (v := 0) cx.1 cx.2.1 dL_isCell_4 (by decide) ?_
  refine lv_istore (lv' := [(5, .int 0), (4, .int 10), (0, .ref (ad 0)), (1, .ref (ad 36)), (2, .ref (ad 37)), (3, .int (nI nc))]) cx.1 cx.2.1 dL_isCell_5 hl (by decide) rfl (fun ls hl => ?_)
  have lp7 : ∀ (fu i : Nat) (va : Int32) (hi7 : i ≤ 64) (hacc7 : lp_L_isCell_7 S F nc 10 i = va)  (_ : 64 - i < fu) (H : Heap) (locs : List Loc) (ls : Array Slot), va_P (dC, dI) vwCl (qw cyI ad S) H → va_S (zA ad 39 s.heap.size) s.heap H locs → lv_has ls 8 [(5, .int (nI i)), (4, .int va), (0, .ref (ad 0)), (1, .ref (ad 36)), (2, .ref (ad 37)), (3, .int (nI nc))] → W p l e (headSpec wsL_isCell ({ frames := 15, cells := 32, slots := 256, locals := 474 } : Room)).room s m args below meth c H locs 0 0 Q (F0 m 7 ls []) := by
    intro fu
    induction fu with
    | zero => intro i va hi7 hacc7  hm; exact absurd hm (Nat.not_lt_zero _)
    | succ fu ih7 =>
      intro i va hi7 hacc7  hm H locs ls hP hS hl
      refine lv_iload cx.1 cx.2.1 dL_isCell_7 (lv_at hl 0 rfl) ?_
      refine lv_bipush (v := 64) cx.1 cx.2.1 dL_isCell_9 (by decide) ?_
      refine lv_icmp_ge (tgt := 138) cx.1 cx.2.1 dL_isCell_11 (by decide) (fun c1 => ?_) (fun c1 => ?_)
      · have nc1 : 64 ≤ i := (nI_leI (a := 64) (b := i) (by first | decide | omega) (by first | decide | omega)).mp c1
        obtain rfl : i = 64 := by omega
        have hz0 : (lp_L_isCell_7 S F nc 10 64) = va := hacc7
        obtain ⟨N1, hN1⟩ : ∃ Z : Int32, (lp_L_isCell_7 S F nc 10 64) = Z := ⟨_, rfl⟩
        rw [hN1] at hz0
        subst hz0
        refine lv_aload_n cx.1 cx.2.1 dL_isCell_138 rfl (lv_at hl 3 rfl) ?_
        refine lv_iload_n cx.1 cx.2.1 dL_isCell_139 rfl (lv_at hl 5 rfl) ?_
        refine zThenIx (v := F 2 nc) (S' := S) hS (zRunS (As := [.ref (ad 36), .int (nI nc)]) (rest := []) _ 2 cx (c_L_road l dC dI cyI cyB ad hI S F hF nc (by omega)) gL_isCell_L_road rfl ⟨rfl, rfl⟩ (by decide +kernel) ⟨Nat.le_of_ble_eq_true rfl, Nat.le_of_ble_eq_true rfl⟩ (xL_X ad 39) hXs hK hP hS rfl hl.1 rfl (Nat.le_of_ble_eq_true rfl) dL_isCell_140 ⟨Nat.le_of_ble_eq_true rfl, Nat.le_of_ble_eq_true rfl⟩) (fun H locs hP hS => ?_)
        rw [hr]
        refine lv_istore (lv' := [(5, .int (nI w)), (4, .int N1), (0, .ref (ad 0)), (1, .ref (ad 36)), (2, .ref (ad 37)), (3, .int (nI nc))]) cx.1 cx.2.1 dL_isCell_143 hl (by decide) rfl (fun ls hl => ?_)
        refine lv_iload cx.1 cx.2.1 dL_isCell_145 (lv_at hl 1 rfl) ?_
        have j169 : ∀ (v : Int32) (H : Heap) (locs : List Loc), v = (if (S 20 nc) = 1 then 0 else (F 11 w) : Int32) → va_P (dC, dI) vwCl (qw cyI ad S) H → va_S (zA ad 39 s.heap.size) s.heap H locs → W p l e (headSpec wsL_isCell ({ frames := 15, cells := 32, slots := 256, locals := 474 } : Room)).room s m args below meth c H locs 0 0 Q (F0 m 169 ls (.int v :: [.int N1])) := by
          intro v H locs hv hP hS
          subst hv
          refine lv_isub cx.1 cx.2.1 dL_isCell_169 ?_
          refine lv_istore (lv' := [(4, .int (N1 - (if (S 20 nc) = 1 then 0 else (F 11 w) : Int32))), (5, .int (nI w)), (0, .ref (ad 0)), (1, .ref (ad 36)), (2, .ref (ad 37)), (3, .int (nI nc))]) cx.1 cx.2.1 dL_isCell_170 hl (by decide) rfl (fun ls hl => ?_)
          refine lv_iconst (v := 0) cx.1 cx.2.1 dL_isCell_172 (by decide) ?_
          refine lv_istore (lv' := [(6, .int 0), (4, .int (N1 - (if (S 20 nc) = 1 then 0 else (F 11 w) : Int32))), (5, .int (nI w)), (0, .ref (ad 0)), (1, .ref (ad 36)), (2, .ref (ad 37)), (3, .int (nI nc))]) cx.1 cx.2.1 dL_isCell_173 hl (by decide) rfl (fun ls hl => ?_)
          refine lv_iconst (v := 0) cx.1 cx.2.1 dL_isCell_175 (by decide) ?_
          refine lv_istore (lv' := [(7, .int 0), (6, .int 0), (4, .int (N1 - (if (S 20 nc) = 1 then 0 else (F 11 w) : Int32))), (5, .int (nI w)), (0, .ref (ad 0)), (1, .ref (ad 36)), (2, .ref (ad 37)), (3, .int (nI nc))]) cx.1 cx.2.1 dL_isCell_176 hl (by decide) rfl (fun ls hl => ?_)
          have lp178 : ∀ (fu i : Nat) (go : Int32) (hi178 : i ≤ 64) (hacc178 : lp_L_isCell_178 S F nc 0 i = go)  (_ : 64 - i < fu) (H : Heap) (locs : List Loc) (ls : Array Slot), va_P (dC, dI) vwCl (qw cyI ad S) H → va_S (zA ad 39 s.heap.size) s.heap H locs → lv_has ls 8 [(7, .int (nI i)), (6, .int go), (4, .int (N1 - (if (S 20 nc) = 1 then 0 else (F 11 w) : Int32))), (5, .int (nI w)), (0, .ref (ad 0)), (1, .ref (ad 36)), (2, .ref (ad 37)), (3, .int (nI nc))] → W p l e (headSpec wsL_isCell ({ frames := 15, cells := 32, slots := 256, locals := 474 } : Room)).room s m args below meth c H locs 0 0 Q (F0 m 178 ls []) := by
            intro fu
            induction fu with
            | zero => intro i go hi178 hacc178  hm; exact absurd hm (Nat.not_lt_zero _)
            | succ fu ih178 =>
              intro i go hi178 hacc178  hm H locs ls hP hS hl
              refine lv_iload cx.1 cx.2.1 dL_isCell_178 (lv_at hl 0 rfl) ?_
              refine lv_bipush (v := 64) cx.1 cx.2.1 dL_isCell_180 (by decide) ?_
              refine lv_icmp_ge (tgt := 247) cx.1 cx.2.1 dL_isCell_182 (by decide) (fun c9 => ?_) (fun c9 => ?_)
              · have nc9 : 64 ≤ i := (nI_leI (a := 64) (b := i) (by first | decide | omega) (by first | decide | omega)).mp c9
                obtain rfl : i = 64 := by omega
                have hz0 : (lp_L_isCell_178 S F nc 0 64) = go := hacc178
                obtain ⟨N2, hN2⟩ : ∃ Z : Int32, (lp_L_isCell_178 S F nc 0 64) = Z := ⟨_, rfl⟩
                rw [hN2] at hz0
                subst hz0
                refine lv_aload_n cx.1 cx.2.1 dL_isCell_247 rfl (lv_at hl 4 rfl) ?_
                refine lv_iload_n cx.1 cx.2.1 dL_isCell_248 rfl (lv_at hl 7 rfl) ?_
                refine zThenIx (v := F 9 nc) (S' := S) hS (zRunV (As := [.int (nI nc)]) (rest := []) _ 1 cx (bq_X6_placed l dC dI cyI cyB ad hI S F hF nc (by omega)) gL_isCell_X6_placed rfl ⟨rfl, rfl⟩ (by decide +kernel) ⟨Nat.le_of_ble_eq_true rfl, Nat.le_of_ble_eq_true rfl⟩ (xL_X ad 39) hXs hK hP hS 0 rfl rfl rfl rfl hl.1 rfl (Nat.le_of_ble_eq_true rfl) dL_isCell_249 ⟨Nat.le_of_ble_eq_true rfl, Nat.le_of_ble_eq_true rfl⟩) (fun H locs hP hS => ?_)
                refine lv_istore (lv' := [(7, .int (F 9 nc)), (6, .int N2), (4, .int (N1 - (if (S 20 nc) = 1 then 0 else (F 11 w) : Int32))), (5, .int (nI w)), (0, .ref (ad 0)), (1, .ref (ad 36)), (2, .ref (ad 37)), (3, .int (nI nc))]) cx.1 cx.2.1 dL_isCell_252 hl (by decide) rfl (fun ls hl => ?_)
                refine lv_aload_n cx.1 cx.2.1 dL_isCell_254 rfl (lv_at hl 4 rfl) ?_
                refine lv_iload_n cx.1 cx.2.1 dL_isCell_255 rfl (lv_at hl 7 rfl) ?_
                refine zThenIx (v := S 20 nc) (S' := S) hS (zRunV (As := [.int (nI nc)]) (rest := []) _ 1 cx (bq_X6_kind l dC dI cyI cyB ad hI S F hF nc (by omega)) gL_isCell_X6_kind rfl ⟨rfl, rfl⟩ (by decide +kernel) ⟨Nat.le_of_ble_eq_true rfl, Nat.le_of_ble_eq_true rfl⟩ (xL_X ad 39) hXs hK hP hS 0 rfl rfl rfl rfl hl.1 rfl (Nat.le_of_ble_eq_true rfl) dL_isCell_256 ⟨Nat.le_of_ble_eq_true rfl, Nat.le_of_ble_eq_true rfl⟩) (fun H locs hP hS => ?_)
                refine lv_aload_n cx.1 cx.2.1 dL_isCell_259 rfl (lv_at hl 5 rfl) ?_
                refine lv_iload_n cx.1 cx.2.1 dL_isCell_260 rfl (lv_at hl 7 rfl) ?_
                refine zIldN cx hK hP 36 0 rfl rfl (nc) (by omega) (by decide) rfl dL_isCell_261 ?_
                refine lv_icmp_ne (tgt := 376) cx.1 cx.2.1 dL_isCell_262 (by decide) (fun c16 => ?_) (fun c16 => ?_)
                · exact absurd rfl c16
                · refine lv_aload_n cx.1 cx.2.1 dL_isCell_265 rfl (lv_at hl 4 rfl) ?_
                  refine lv_iload_n cx.1 cx.2.1 dL_isCell_266 rfl (lv_at hl 7 rfl) ?_
                  refine zThenIx (v := S 21 nc) (S' := S) hS (zRunV (As := [.int (nI nc)]) (rest := []) _ 1 cx (bq_X6_level l dC dI cyI cyB ad hI S F hF nc (by omega)) gL_isCell_X6_level rfl ⟨rfl, rfl⟩ (by decide +kernel) ⟨Nat.le_of_ble_eq_true rfl, Nat.le_of_ble_eq_true rfl⟩ (xL_X ad 39) hXs hK hP hS 0 rfl rfl rfl rfl hl.1 rfl (Nat.le_of_ble_eq_true rfl) dL_isCell_267 ⟨Nat.le_of_ble_eq_true rfl, Nat.le_of_ble_eq_true rfl⟩) (fun H locs hP hS => ?_)
                  refine lv_aload_n cx.1 cx.2.1 dL_isCell_270 rfl (lv_at hl 6 rfl) ?_
                  refine lv_iload_n cx.1 cx.2.1 dL_isCell_271 rfl (lv_at hl 7 rfl) ?_
                  refine zIldN cx hK hP 37 0 rfl rfl (nc) (by omega) (by decide) rfl dL_isCell_272 ?_
                  refine lv_icmp_ne (tgt := 376) cx.1 cx.2.1 dL_isCell_273 (by decide) (fun c17 => ?_) (fun c17 => ?_)
                  · exact absurd rfl c17
                  · refine lv_aload_n cx.1 cx.2.1 dL_isCell_276 rfl (lv_at hl 4 rfl) ?_
                    refine lv_iload_n cx.1 cx.2.1 dL_isCell_277 rfl (lv_at hl 7 rfl) ?_
                    refine zThenIx (v := f_X7_valueOf F nc) (S' := S) hS (zRunV (As := [.int (nI nc)]) (rest := []) _ 1 cx (bq_X6_value l dC dI cyI cyB ad hI S F hF nc (by omega)) gL_isCell_X6_value rfl ⟨rfl, rfl⟩ (by decide +kernel) ⟨Nat.le_of_ble_eq_true rfl, Nat.le_of_ble_eq_true rfl⟩ (xL_X ad 39) hXs hK hP hS 0 rfl rfl rfl rfl hl.1 rfl (Nat.le_of_ble_eq_true rfl) dL_isCell_278 ⟨Nat.le_of_ble_eq_true rfl, Nat.le_of_ble_eq_true rfl⟩) (fun H locs hP hS => ?_)
                    have j292 : ∀ (v : Int32) (H : Heap) (locs : List Loc), v = (if 0 ≤ (N1 - (if (S 20 nc) = 1 then 0 else (F 11 w) : Int32)) then (N1 - (if (S 20 nc) = 1 then 0 else (F 11 w) : Int32)) else 0 : Int32) → va_P (dC, dI) vwCl (qw cyI ad S) H → va_S (zA ad 39 s.heap.size) s.heap H locs → W p l e (headSpec wsL_isCell ({ frames := 15, cells := 32, slots := 256, locals := 474 } : Room)).room s m args below meth c H locs 0 0 Q (F0 m 292 ls (.int v :: [.int (f_X7_valueOf F nc)])) := by
                      intro v H locs hv hP hS
                      subst hv
                      refine lv_icmp_ne (tgt := 376) cx.1 cx.2.1 dL_isCell_292 (by decide) (fun c19 => ?_) (fun c19 => ?_)
                      · exact absurd (cell_value1 hF hnc hw hr hN1) c19
                      · refine lv_iload cx.1 cx.2.1 dL_isCell_295 (lv_at hl 0 rfl) ?_
                        refine lv_iload cx.1 cx.2.1 dL_isCell_297 (lv_at hl 1 rfl) ?_
                        refine lv_icmp_ne (tgt := 376) cx.1 cx.2.1 dL_isCell_299 (by decide) (fun c20 => ?_) (fun c20 => ?_)
                        · exact absurd (cell_going hF hnc hN2) c20
                        · refine lv_iload cx.1 cx.2.1 dL_isCell_302 (lv_at hl 0 rfl) ?_
                          refine lv_if_lt (tgt := 376) cx.1 cx.2.1 dL_isCell_304 (by decide) (fun c21 => ?_) (fun c21 => ?_)
                          · exact absurd c21 (cell_p0 hF hnc)
                          · refine lv_iload cx.1 cx.2.1 dL_isCell_307 (lv_at hl 0 rfl) ?_
                            refine lv_iconst (v := 2) cx.1 cx.2.1 dL_isCell_309 (by decide) ?_
                            refine lv_aload_n cx.1 cx.2.1 dL_isCell_310 rfl (lv_at hl 6 rfl) ?_
                            refine lv_iload_n cx.1 cx.2.1 dL_isCell_311 rfl (lv_at hl 7 rfl) ?_
                            refine zIldN cx hK hP 37 0 rfl rfl (nc) (by omega) (by decide) rfl dL_isCell_312 ?_
                            refine lv_imul cx.1 cx.2.1 dL_isCell_313 ?_
                            refine lv_icmp_gt (tgt := 376) cx.1 cx.2.1 dL_isCell_314 (by decide) (fun c22 => ?_) (fun c22 => ?_)
                            · exact absurd c22 (cell_p2 hF hnc)
                            · have j332 : ∀ (H : Heap) (locs : List Loc), va_P (dC, dI) vwCl (qw cyI ad S) H → va_S (zA ad 39 s.heap.size) s.heap H locs → W p l e (headSpec wsL_isCell ({ frames := 15, cells := 32, slots := 256, locals := 474 } : Room)).room s m args below meth c H locs 0 0 Q (F0 m 332 ls []) := by
                                intro H locs hP hS
                                refine lv_aload_n cx.1 cx.2.1 dL_isCell_332 rfl (lv_at hl 4 rfl) ?_
                                refine lv_iload_n cx.1 cx.2.1 dL_isCell_333 rfl (lv_at hl 7 rfl) ?_
                                refine zThenIx (v := F 11 nc) (S' := S) hS (zRunV (As := [.int (nI nc)]) (rest := []) _ 1 cx (bq_X6_traffic l dC dI cyI cyB ad hI S F hF nc (by omega)) gL_isCell_X6_traffic rfl ⟨rfl, rfl⟩ (by decide +kernel) ⟨Nat.le_of_ble_eq_true rfl, Nat.le_of_ble_eq_true rfl⟩ (xL_X ad 39) hXs hK hP hS 0 rfl rfl rfl rfl hl.1 rfl (Nat.le_of_ble_eq_true rfl) dL_isCell_334 ⟨Nat.le_of_ble_eq_true rfl, Nat.le_of_ble_eq_true rfl⟩) (fun H locs hP hS => ?_)
                                refine lv_if_lt (tgt := 376) cx.1 cx.2.1 dL_isCell_337 (by decide) (fun c25 => ?_) (fun c25 => ?_)
                                · exact absurd c25 (cell_t1 hF hnc)
                                · refine lv_aload_n cx.1 cx.2.1 dL_isCell_340 rfl (lv_at hl 4 rfl) ?_
                                  refine lv_aload_n cx.1 cx.2.1 dL_isCell_341 rfl (lv_at hl 5 rfl) ?_
                                  refine lv_aload_n cx.1 cx.2.1 dL_isCell_342 rfl (lv_at hl 6 rfl) ?_
                                  refine lv_iload_n cx.1 cx.2.1 dL_isCell_343 rfl (lv_at hl 7 rfl) ?_
                                  refine bCall (As := [.ref (ad 0), .ref (ad 36), .ref (ad 37), .int (nI nc)]) (rest := []) 4 cx (c_L_isText l dC dI cyI cyB ad hI hlf S F hF nc (by omega)) gL_isCell_L_isText rfl ⟨rfl, rfl⟩ (by decide +kernel) ⟨Nat.le_of_ble_eq_true rfl, Nat.le_of_ble_eq_true rfl⟩ (xL_X ad 39) hXs hK hP hS rfl hl.1 rfl (Nat.le_of_ble_eq_true rfl) dL_isCell_344 ⟨Nat.le_of_ble_eq_true rfl, Nat.le_of_ble_eq_true rfl⟩ (fun r T26 H locs hp hP hS => ?_)
                                  obtain ⟨h7, h8⟩ := hp
                                  subst h7
                                  rw [h8] at hP
                                  refine lv_if_eq (tgt := 376) cx.1 cx.2.1 dL_isCell_347 (by decide) (fun c27 => ?_) (fun c27 => ?_)
                                  · exact absurd c27 (by decide)
                                  refine lv_aload_n cx.1 cx.2.1 dL_isCell_350 rfl (lv_at hl 5 rfl) ?_
                                  refine lv_iload_n cx.1 cx.2.1 dL_isCell_351 rfl (lv_at hl 7 rfl) ?_
                                  refine zIldN cx hK hP 36 0 rfl rfl (nc) (by omega) (by decide) rfl dL_isCell_352 ?_
                                  refine lv_iconst (v := 2) cx.1 cx.2.1 dL_isCell_353 (by decide) ?_
                                  refine lv_icmp_eq (tgt := 372) cx.1 cx.2.1 dL_isCell_354 (by decide) (fun c28 => ?_) (fun c28 => ?_)
                                  · refine lv_iconst (v := 1) cx.1 cx.2.1 dL_isCell_372 (by decide) ?_
                                    refine lv_goto (tgt := 377) cx.1 cx.2.1 dL_isCell_373 (by decide) ?_
                                    rw [hQ]
                                    exact bRet (v := 1) cx hrt hlk (by first | rfl | decide) hS hP ⟨rfl, rfl⟩ (Nat.le_of_ble_eq_true rfl) (Nat.le_of_ble_eq_true rfl) dL_isCell_377
                                  · have hz2 := c28
                                    refine lv_aload_n cx.1 cx.2.1 dL_isCell_357 rfl (lv_at hl 5 rfl) ?_
                                    refine lv_iload_n cx.1 cx.2.1 dL_isCell_358 rfl (lv_at hl 7 rfl) ?_
                                    refine zIldN cx hK hP 36 0 rfl rfl (nc) (by omega) (by decide) rfl dL_isCell_359 ?_
                                    refine lv_iconst (v := 3) cx.1 cx.2.1 dL_isCell_360 (by decide) ?_
                                    refine lv_icmp_eq (tgt := 372) cx.1 cx.2.1 dL_isCell_361 (by decide) (fun c29 => ?_) (fun c29 => ?_)
                                    · refine lv_iconst (v := 1) cx.1 cx.2.1 dL_isCell_372 (by decide) ?_
                                      refine lv_goto (tgt := 377) cx.1 cx.2.1 dL_isCell_373 (by decide) ?_
                                      rw [hQ]
                                      exact bRet (v := 1) cx hrt hlk (by first | rfl | decide) hS hP ⟨rfl, rfl⟩ (Nat.le_of_ble_eq_true rfl) (Nat.le_of_ble_eq_true rfl) dL_isCell_377
                                    · have hz3 := c29
                                      refine lv_aload_n cx.1 cx.2.1 dL_isCell_364 rfl (lv_at hl 4 rfl) ?_
                                      refine lv_iload_n cx.1 cx.2.1 dL_isCell_365 rfl (lv_at hl 7 rfl) ?_
                                      refine zThenIx (v := F 8 nc) (S' := S) hS (zRunV (As := [.int (nI nc)]) (rest := []) _ 1 cx (bq_X6_isServed l dC dI cyI cyB ad hI S F hF nc (by omega)) gL_isCell_X6_isServed rfl ⟨rfl, rfl⟩ (by decide +kernel) ⟨Nat.le_of_ble_eq_true rfl, Nat.le_of_ble_eq_true rfl⟩ (xL_X ad 39) hXs hK hP hS 0 rfl rfl rfl rfl hl.1 rfl (Nat.le_of_ble_eq_true rfl) dL_isCell_366 ⟨Nat.le_of_ble_eq_true rfl, Nat.le_of_ble_eq_true rfl⟩) (fun H locs hP hS => ?_)
                                      refine lv_if_ne (tgt := 376) cx.1 cx.2.1 dL_isCell_369 (by decide) (fun c30 => ?_) (fun c30 => ?_)
                                      · exact absurd (cell_s0 hF hnc hz2 hz3) c30
                                      · refine lv_iconst (v := 1) cx.1 cx.2.1 dL_isCell_372 (by decide) ?_
                                        refine lv_goto (tgt := 377) cx.1 cx.2.1 dL_isCell_373 (by decide) ?_
                                        rw [hQ]
                                        exact bRet (v := 1) cx hrt hlk (by first | rfl | decide) hS hP ⟨rfl, rfl⟩ (Nat.le_of_ble_eq_true rfl) (Nat.le_of_ble_eq_true rfl) dL_isCell_377
                              refine lv_aload_n cx.1 cx.2.1 dL_isCell_317 rfl (lv_at hl 5 rfl) ?_
                              refine lv_iload_n cx.1 cx.2.1 dL_isCell_318 rfl (lv_at hl 7 rfl) ?_
                              refine zIldN cx hK hP 36 0 rfl rfl (nc) (by omega) (by decide) rfl dL_isCell_319 ?_
                              refine lv_iconst (v := 1) cx.1 cx.2.1 dL_isCell_320 (by decide) ?_
                              refine lv_icmp_eq (tgt := 332) cx.1 cx.2.1 dL_isCell_321 (by decide) (fun c23 => ?_) (fun c23 => ?_)
                              · exact j332 _ _ hP hS
                              · have hnr := c23
                                refine lv_aload_n cx.1 cx.2.1 dL_isCell_324 rfl (lv_at hl 4 rfl) ?_
                                refine lv_iload_n cx.1 cx.2.1 dL_isCell_325 rfl (lv_at hl 7 rfl) ?_
                                refine zThenIx (v := F 11 nc) (S' := S) hS (zRunV (As := [.int (nI nc)]) (rest := []) _ 1 cx (bq_X6_traffic l dC dI cyI cyB ad hI S F hF nc (by omega)) gL_isCell_X6_traffic rfl ⟨rfl, rfl⟩ (by decide +kernel) ⟨Nat.le_of_ble_eq_true rfl, Nat.le_of_ble_eq_true rfl⟩ (xL_X ad 39) hXs hK hP hS 0 rfl rfl rfl rfl hl.1 rfl (Nat.le_of_ble_eq_true rfl) dL_isCell_326 ⟨Nat.le_of_ble_eq_true rfl, Nat.le_of_ble_eq_true rfl⟩) (fun H locs hP hS => ?_)
                                refine lv_if_ne (tgt := 376) cx.1 cx.2.1 dL_isCell_329 (by decide) (fun c24 => ?_) (fun c24 => ?_)
                                · exact absurd (cell_t0 hF hnc hnr) c24
                                · exact j332 _ _ hP hS
                    refine lv_iload cx.1 cx.2.1 dL_isCell_281 (lv_at hl 2 rfl) ?_
                    refine lv_if_ge (tgt := 290) cx.1 cx.2.1 dL_isCell_283 (by decide) (fun c18 => ?_) (fun c18 => ?_)
                    · refine lv_iload cx.1 cx.2.1 dL_isCell_290 (lv_at hl 2 rfl) ?_
                      exact j292 _ _ _ (by first | (rw [if_pos c18]; done) | exact Eq.symm ((if_pos c18).trans (rfl))) hP hS
                    · refine lv_iconst (v := 0) cx.1 cx.2.1 dL_isCell_286 (by decide) ?_
                      refine lv_goto (tgt := 292) cx.1 cx.2.1 dL_isCell_287 (by decide) ?_
                      exact j292 _ _ _ (by first | (rw [if_neg c18]; done) | exact Eq.symm ((if_neg c18).trans (rfl))) hP hS
              · have nc9 : ¬ 64 ≤ i := fun z => c9 ((nI_leI (a := 64) (b := i) (by first | decide | omega) (by first | decide | omega)).mpr z)
                refine lv_iload cx.1 cx.2.1 dL_isCell_185 (lv_at hl 1 rfl) ?_
                have j238 : ∀ (v : Int32) (H : Heap) (locs : List Loc), v = (if ¬ (S 20 nc) = 2 then (if ¬ (S 20 nc) = 3 then 0 else (if ¬ (S 20 i) = 2 then 0 else (F 10 (64 * i + nc)))) else (if ¬ (S 20 i) = 3 then (if ¬ (S 20 nc) = 3 then 0 else (if ¬ (S 20 i) = 2 then 0 else (F 10 (64 * i + nc)))) else (F 10 (64 * nc + i))) : Int32) → va_P (dC, dI) vwCl (qw cyI ad S) H → va_S (zA ad 39 s.heap.size) s.heap H locs → W p l e (headSpec wsL_isCell ({ frames := 15, cells := 32, slots := 256, locals := 474 } : Room)).room s m args below meth c H locs 0 0 Q (F0 m 238 ls (.int v :: [.int go])) := by
                  intro v H locs hv hP hS
                  subst hv
                  refine lv_iadd cx.1 cx.2.1 dL_isCell_238 ?_
                  refine lv_istore (lv' := [(6, .int (go + (if ¬ (S 20 nc) = 2 then (if ¬ (S 20 nc) = 3 then 0 else (if ¬ (S 20 i) = 2 then 0 else (F 10 (64 * i + nc)))) else (if ¬ (S 20 i) = 3 then (if ¬ (S 20 nc) = 3 then 0 else (if ¬ (S 20 i) = 2 then 0 else (F 10 (64 * i + nc)))) else (F 10 (64 * nc + i))) : Int32))), (7, .int (nI i)), (4, .int (N1 - (if (S 20 nc) = 1 then 0 else (F 11 w) : Int32))), (5, .int (nI w)), (0, .ref (ad 0)), (1, .ref (ad 36)), (2, .ref (ad 37)), (3, .int (nI nc))]) cx.1 cx.2.1 dL_isCell_239 hl (by decide) rfl (fun ls hl => ?_)
                  refine lv_iinc (v := nI (i + 1)) (lv' := [(7, .int (nI (i + 1))), (6, .int (go + (if ¬ (S 20 nc) = 2 then (if ¬ (S 20 nc) = 3 then 0 else (if ¬ (S 20 i) = 2 then 0 else (F 10 (64 * i + nc)))) else (if ¬ (S 20 i) = 3 then (if ¬ (S 20 nc) = 3 then 0 else (if ¬ (S 20 i) = 2 then 0 else (F 10 (64 * i + nc)))) else (F 10 (64 * nc + i))) : Int32))), (4, .int (N1 - (if (S 20 nc) = 1 then 0 else (F 11 w) : Int32))), (5, .int (nI w)), (0, .ref (ad 0)), (1, .ref (ad 36)), (2, .ref (ad 37)), (3, .int (nI nc))]) cx.1 cx.2.1 dL_isCell_241 hl (k := 1) rfl (nI_1 i) (by decide) rfl (fun ls hl => ?_)
                  refine lv_goto (tgt := 178) cx.1 cx.2.1 dL_isCell_244 (by decide) ?_
                  have ha178 : lp_L_isCell_178 S F nc 0 (i + 1) = go + (if ¬ (S 20 nc) = 2 then (if ¬ (S 20 nc) = 3 then 0 else (if ¬ (S 20 i) = 2 then 0 else (F 10 (64 * i + nc)))) else (if ¬ (S 20 i) = 3 then (if ¬ (S 20 nc) = 3 then 0 else (if ¬ (S 20 i) = 2 then 0 else (F 10 (64 * i + nc)))) else (F 10 (64 * nc + i))) : Int32) := by
                    show bd_L_isCell_178 S F nc i (lp_L_isCell_178 S F nc 0 i) = _
                    rw [hacc178]
                    unfold bd_L_isCell_178
                    rfl
                  exact ih178 (i + 1) (go + (if ¬ (S 20 nc) = 2 then (if ¬ (S 20 nc) = 3 then 0 else (if ¬ (S 20 i) = 2 then 0 else (F 10 (64 * i + nc)))) else (if ¬ (S 20 i) = 3 then (if ¬ (S 20 nc) = 3 then 0 else (if ¬ (S 20 i) = 2 then 0 else (F 10 (64 * i + nc)))) else (F 10 (64 * nc + i))) : Int32)) (by omega) ha178  (by omega) _ _ ls hP hS (lv_sub hl [0, 1, 2, 3, 4, 5, 6, 7] rfl)
                refine lv_aload_n cx.1 cx.2.1 dL_isCell_187 rfl (lv_at hl 5 rfl) ?_
                refine lv_iload_n cx.1 cx.2.1 dL_isCell_188 rfl (lv_at hl 7 rfl) ?_
                refine zIldN cx hK hP 36 0 rfl rfl (nc) (by omega) (by decide) rfl dL_isCell_189 ?_
                refine lv_iconst (v := 2) cx.1 cx.2.1 dL_isCell_190 (by decide) ?_
                refine lv_icmp_ne (tgt := 212) cx.1 cx.2.1 dL_isCell_191 (by decide) (fun c10 => ?_) (fun c10 => ?_)
                · refine lv_aload_n cx.1 cx.2.1 dL_isCell_212 rfl (lv_at hl 5 rfl) ?_
                  refine lv_iload_n cx.1 cx.2.1 dL_isCell_213 rfl (lv_at hl 7 rfl) ?_
                  refine zIldN cx hK hP 36 0 rfl rfl (nc) (by omega) (by decide) rfl dL_isCell_214 ?_
                  refine lv_iconst (v := 3) cx.1 cx.2.1 dL_isCell_215 (by decide) ?_
                  refine lv_icmp_ne (tgt := 237) cx.1 cx.2.1 dL_isCell_216 (by decide) (fun c11 => ?_) (fun c11 => ?_)
                  · refine lv_iconst (v := 0) cx.1 cx.2.1 dL_isCell_237 (by decide) ?_
                    exact j238 _ _ _ (by first | (rw [if_pos c10, if_pos c11]; done) | exact Eq.symm ((if_pos c10).trans ((if_pos c11).trans (rfl)))) hP hS
                  · refine lv_aload_n cx.1 cx.2.1 dL_isCell_219 rfl (lv_at hl 5 rfl) ?_
                    refine lv_iload cx.1 cx.2.1 dL_isCell_220 (lv_at hl 0 rfl) ?_
                    refine zIldN cx hK hP 36 0 rfl rfl (i) (by omega) (by decide) rfl dL_isCell_222 ?_
                    refine lv_iconst (v := 2) cx.1 cx.2.1 dL_isCell_223 (by decide) ?_
                    refine lv_icmp_ne (tgt := 237) cx.1 cx.2.1 dL_isCell_224 (by decide) (fun c12 => ?_) (fun c12 => ?_)
                    · refine lv_iconst (v := 0) cx.1 cx.2.1 dL_isCell_237 (by decide) ?_
                      exact j238 _ _ _ (by first | (rw [if_pos c10, if_neg (not_not_intro c11), if_pos c12]; done) | exact Eq.symm ((if_pos c10).trans ((if_neg (not_not_intro c11)).trans ((if_pos c12).trans (rfl))))) hP hS
                    · refine lv_aload_n cx.1 cx.2.1 dL_isCell_227 rfl (lv_at hl 4 rfl) ?_
                      refine lv_iload cx.1 cx.2.1 dL_isCell_228 (lv_at hl 0 rfl) ?_
                      refine lv_iload_n cx.1 cx.2.1 dL_isCell_230 rfl (lv_at hl 7 rfl) ?_
                      refine zThenIx (v := F 10 (64 * i + nc)) (S' := S) hS (zRunV (As := [.int (nI i), .int (nI nc)]) (rest := [.int go]) _ 2 cx (bq_X6_going l dC dI cyI cyB ad hI S F hF i (by omega) nc (by omega)) gL_isCell_X6_going rfl ⟨rfl, rfl⟩ (by decide +kernel) ⟨Nat.le_of_ble_eq_true rfl, Nat.le_of_ble_eq_true rfl⟩ (xL_X ad 39) hXs hK hP hS 0 rfl rfl rfl rfl hl.1 rfl (Nat.le_of_ble_eq_true rfl) dL_isCell_231 ⟨Nat.le_of_ble_eq_true rfl, Nat.le_of_ble_eq_true rfl⟩) (fun H locs hP hS => ?_)
                      refine lv_goto (tgt := 238) cx.1 cx.2.1 dL_isCell_234 (by decide) ?_
                      exact j238 _ _ _ (by first | (rw [if_pos c10, if_neg (not_not_intro c11), if_neg (not_not_intro c12)]; done) | exact Eq.symm ((if_pos c10).trans ((if_neg (not_not_intro c11)).trans ((if_neg (not_not_intro c12)).trans (rfl))))) hP hS
                · refine lv_aload_n cx.1 cx.2.1 dL_isCell_194 rfl (lv_at hl 5 rfl) ?_
                  refine lv_iload cx.1 cx.2.1 dL_isCell_195 (lv_at hl 0 rfl) ?_
                  refine zIldN cx hK hP 36 0 rfl rfl (i) (by omega) (by decide) rfl dL_isCell_197 ?_
                  refine lv_iconst (v := 3) cx.1 cx.2.1 dL_isCell_198 (by decide) ?_
                  refine lv_icmp_ne (tgt := 212) cx.1 cx.2.1 dL_isCell_199 (by decide) (fun c13 => ?_) (fun c13 => ?_)
                  · refine lv_aload_n cx.1 cx.2.1 dL_isCell_212 rfl (lv_at hl 5 rfl) ?_
                    refine lv_iload_n cx.1 cx.2.1 dL_isCell_213 rfl (lv_at hl 7 rfl) ?_
                    refine zIldN cx hK hP 36 0 rfl rfl (nc) (by omega) (by decide) rfl dL_isCell_214 ?_
                    refine lv_iconst (v := 3) cx.1 cx.2.1 dL_isCell_215 (by decide) ?_
                    refine lv_icmp_ne (tgt := 237) cx.1 cx.2.1 dL_isCell_216 (by decide) (fun c14 => ?_) (fun c14 => ?_)
                    · refine lv_iconst (v := 0) cx.1 cx.2.1 dL_isCell_237 (by decide) ?_
                      exact j238 _ _ _ (by first | (rw [if_neg (not_not_intro c10), if_pos c13, if_pos c14]; done) | exact Eq.symm ((if_neg (not_not_intro c10)).trans ((if_pos c13).trans ((if_pos c14).trans (rfl))))) hP hS
                    · refine lv_aload_n cx.1 cx.2.1 dL_isCell_219 rfl (lv_at hl 5 rfl) ?_
                      refine lv_iload cx.1 cx.2.1 dL_isCell_220 (lv_at hl 0 rfl) ?_
                      refine zIldN cx hK hP 36 0 rfl rfl (i) (by omega) (by decide) rfl dL_isCell_222 ?_
                      refine lv_iconst (v := 2) cx.1 cx.2.1 dL_isCell_223 (by decide) ?_
                      refine lv_icmp_ne (tgt := 237) cx.1 cx.2.1 dL_isCell_224 (by decide) (fun c15 => ?_) (fun c15 => ?_)
                      · refine lv_iconst (v := 0) cx.1 cx.2.1 dL_isCell_237 (by decide) ?_
                        exact j238 _ _ _ (by first | (rw [if_neg (not_not_intro c10), if_pos c13, if_neg (not_not_intro c14), if_pos c15]; done) | exact Eq.symm ((if_neg (not_not_intro c10)).trans ((if_pos c13).trans ((if_neg (not_not_intro c14)).trans ((if_pos c15).trans (rfl)))))) hP hS
                      · refine lv_aload_n cx.1 cx.2.1 dL_isCell_227 rfl (lv_at hl 4 rfl) ?_
                        refine lv_iload cx.1 cx.2.1 dL_isCell_228 (lv_at hl 0 rfl) ?_
                        refine lv_iload_n cx.1 cx.2.1 dL_isCell_230 rfl (lv_at hl 7 rfl) ?_
                        refine zThenIx (v := F 10 (64 * i + nc)) (S' := S) hS (zRunV (As := [.int (nI i), .int (nI nc)]) (rest := [.int go]) _ 2 cx (bq_X6_going l dC dI cyI cyB ad hI S F hF i (by omega) nc (by omega)) gL_isCell_X6_going rfl ⟨rfl, rfl⟩ (by decide +kernel) ⟨Nat.le_of_ble_eq_true rfl, Nat.le_of_ble_eq_true rfl⟩ (xL_X ad 39) hXs hK hP hS 0 rfl rfl rfl rfl hl.1 rfl (Nat.le_of_ble_eq_true rfl) dL_isCell_231 ⟨Nat.le_of_ble_eq_true rfl, Nat.le_of_ble_eq_true rfl⟩) (fun H locs hP hS => ?_)
                        refine lv_goto (tgt := 238) cx.1 cx.2.1 dL_isCell_234 (by decide) ?_
                        exact j238 _ _ _ (by first | (rw [if_neg (not_not_intro c10), if_pos c13, if_neg (not_not_intro c14), if_neg (not_not_intro c15)]; done) | exact Eq.symm ((if_neg (not_not_intro c10)).trans ((if_pos c13).trans ((if_neg (not_not_intro c14)).trans ((if_neg (not_not_intro c15)).trans (rfl)))))) hP hS
                  · refine lv_aload_n cx.1 cx.2.1 dL_isCell_202 rfl (lv_at hl 4 rfl) ?_
                    refine lv_iload_n cx.1 cx.2.1 dL_isCell_203 rfl (lv_at hl 7 rfl) ?_
                    refine lv_iload cx.1 cx.2.1 dL_isCell_204 (lv_at hl 0 rfl) ?_
                    refine zThenIx (v := F 10 (64 * nc + i)) (S' := S) hS (zRunV (As := [.int (nI nc), .int (nI i)]) (rest := [.int go]) _ 2 cx (bq_X6_going l dC dI cyI cyB ad hI S F hF nc (by omega) i (by omega)) gL_isCell_X6_going rfl ⟨rfl, rfl⟩ (by decide +kernel) ⟨Nat.le_of_ble_eq_true rfl, Nat.le_of_ble_eq_true rfl⟩ (xL_X ad 39) hXs hK hP hS 0 rfl rfl rfl rfl hl.1 rfl (Nat.le_of_ble_eq_true rfl) dL_isCell_206 ⟨Nat.le_of_ble_eq_true rfl, Nat.le_of_ble_eq_true rfl⟩) (fun H locs hP hS => ?_)
                    refine lv_goto (tgt := 238) cx.1 cx.2.1 dL_isCell_209 (by decide) ?_
                    exact j238 _ _ _ (by first | (rw [if_neg (not_not_intro c10), if_neg (not_not_intro c13)]; done) | exact Eq.symm ((if_neg (not_not_intro c10)).trans ((if_neg (not_not_intro c13)).trans (rfl)))) hP hS
          exact lp178 (64 - 0 + 1) 0 0 (by omega) rfl  (Nat.lt_succ_self _) _ _ ls hP hS (lv_sub hl [0, 1, 2, 3, 4, 5, 6, 7] rfl)
        refine lv_aload_n cx.1 cx.2.1 dL_isCell_147 rfl (lv_at hl 3 rfl) ?_
        refine lv_iload_n cx.1 cx.2.1 dL_isCell_148 rfl (lv_at hl 5 rfl) ?_
        refine zIldN cx hK hP 36 0 rfl rfl (nc) (by omega) (by decide) rfl dL_isCell_149 ?_
        refine lv_iconst (v := 1) cx.1 cx.2.1 dL_isCell_150 (by decide) ?_
        refine lv_icmp_eq (tgt := 168) cx.1 cx.2.1 dL_isCell_151 (by decide) (fun c7 => ?_) (fun c7 => ?_)
        · refine lv_iconst (v := 0) cx.1 cx.2.1 dL_isCell_168 (by decide) ?_
          exact j169 _ _ _ (by first | (rw [if_pos c7]; done) | exact Eq.symm ((if_pos c7).trans (rfl))) hP hS
        · refine lv_iload cx.1 cx.2.1 dL_isCell_154 (lv_at hl 0 rfl) ?_
          refine lv_if_lt (tgt := 168) cx.1 cx.2.1 dL_isCell_156 (by decide) (fun c8 => ?_) (fun c8 => ?_)
          · have nc8 : w < 0 := (nI_ltI (a := w) (b := 0) (by first | decide | omega) (by first | decide | omega)).mp c8
            exact absurd nc8 (Nat.not_lt_zero _)
          · have nc8 : ¬ w < 0 := fun z => c8 ((nI_ltI (a := w) (b := 0) (by first | decide | omega) (by first | decide | omega)).mpr z)
            refine lv_aload_n cx.1 cx.2.1 dL_isCell_159 rfl (lv_at hl 2 rfl) ?_
            refine lv_iload cx.1 cx.2.1 dL_isCell_160 (lv_at hl 0 rfl) ?_
            refine zThenIx (v := F 11 w) (S' := S) hS (zRunV (As := [.int (nI w)]) (rest := [.int N1]) _ 1 cx (bq_X6_traffic l dC dI cyI cyB ad hI S F hF w (by omega)) gL_isCell_X6_traffic rfl ⟨rfl, rfl⟩ (by decide +kernel) ⟨Nat.le_of_ble_eq_true rfl, Nat.le_of_ble_eq_true rfl⟩ (xL_X ad 39) hXs hK hP hS 0 rfl rfl rfl rfl hl.1 rfl (Nat.le_of_ble_eq_true rfl) dL_isCell_162 ⟨Nat.le_of_ble_eq_true rfl, Nat.le_of_ble_eq_true rfl⟩) (fun H locs hP hS => ?_)
            refine lv_goto (tgt := 169) cx.1 cx.2.1 dL_isCell_165 (by decide) ?_
            exact j169 _ _ _ (by first | (rw [if_neg c7]; done) | exact Eq.symm ((if_neg c7).trans (rfl))) hP hS
      · have nc1 : ¬ 64 ≤ i := fun z => c1 ((nI_leI (a := 64) (b := i) (by first | decide | omega) (by first | decide | omega)).mpr z)
        have j49 : ∀ (v : Int32) (H : Heap) (locs : List Loc), v = (if ((nI i) / 8) ≤ ((nI nc) / 8) then (((nI nc) / 8) - ((nI i) / 8)) else (((nI i) / 8) - ((nI nc) / 8)) : Int32) → va_P (dC, dI) vwCl (qw cyI ad S) H → va_S (zA ad 39 s.heap.size) s.heap H locs → W p l e (headSpec wsL_isCell ({ frames := 15, cells := 32, slots := 256, locals := 474 } : Room)).room s m args below meth c H locs 0 0 Q (F0 m 49 ls (.int v :: [])) := by
          intro v H locs hv hP hS
          subst hv
          refine lv_istore (lv' := [(6, .int (if ((nI i) / 8) ≤ ((nI nc) / 8) then (((nI nc) / 8) - ((nI i) / 8)) else (((nI i) / 8) - ((nI nc) / 8)) : Int32)), (5, .int (nI i)), (4, .int va), (0, .ref (ad 0)), (1, .ref (ad 36)), (2, .ref (ad 37)), (3, .int (nI nc))]) cx.1 cx.2.1 dL_isCell_49 hl (by decide) rfl (fun ls hl => ?_)
          have j86 : ∀ (v : Int32) (H : Heap) (locs : List Loc), v = (if ((nI i) - (nI i) / 8 * 8) ≤ ((nI nc) - (nI nc) / 8 * 8) then (((nI nc) - (nI nc) / 8 * 8) - ((nI i) - (nI i) / 8 * 8)) else (((nI i) - (nI i) / 8 * 8) - ((nI nc) - (nI nc) / 8 * 8)) : Int32) → va_P (dC, dI) vwCl (qw cyI ad S) H → va_S (zA ad 39 s.heap.size) s.heap H locs → W p l e (headSpec wsL_isCell ({ frames := 15, cells := 32, slots := 256, locals := 474 } : Room)).room s m args below meth c H locs 0 0 Q (F0 m 86 ls (.int v :: [])) := by
            intro v H locs hv hP hS
            subst hv
            refine lv_istore (lv' := [(7, .int (if ((nI i) - (nI i) / 8 * 8) ≤ ((nI nc) - (nI nc) / 8 * 8) then (((nI nc) - (nI nc) / 8 * 8) - ((nI i) - (nI i) / 8 * 8)) else (((nI i) - (nI i) / 8 * 8) - ((nI nc) - (nI nc) / 8 * 8)) : Int32)), (6, .int (if ((nI i) / 8) ≤ ((nI nc) / 8) then (((nI nc) / 8) - ((nI i) / 8)) else (((nI i) / 8) - ((nI nc) / 8)) : Int32)), (5, .int (nI i)), (4, .int va), (0, .ref (ad 0)), (1, .ref (ad 36)), (2, .ref (ad 37)), (3, .int (nI nc))]) cx.1 cx.2.1 dL_isCell_86 hl (by decide) rfl (fun ls hl => ?_)
            refine lv_iload cx.1 cx.2.1 dL_isCell_88 (lv_at hl 3 rfl) ?_
            have j129 : ∀ (v : Int32) (H : Heap) (locs : List Loc), v = (if ((if ((nI i) / 8) ≤ ((nI nc) / 8) then (((nI nc) / 8) - ((nI i) / 8)) else (((nI i) / 8) - ((nI nc) / 8)) : Int32) + (if ((nI i) - (nI i) / 8 * 8) ≤ ((nI nc) - (nI nc) / 8 * 8) then (((nI nc) - (nI nc) / 8 * 8) - ((nI i) - (nI i) / 8 * 8)) else (((nI i) - (nI i) / 8 * 8) - ((nI nc) - (nI nc) / 8 * 8)) : Int32)) ≤ 2 then (if ¬ (S 20 i) = 4 then (if ¬ (S 20 i) = 5 then 0 else (-10)) else 5) else 0 : Int32) → va_P (dC, dI) vwCl (qw cyI ad S) H → va_S (zA ad 39 s.heap.size) s.heap H locs → W p l e (headSpec wsL_isCell ({ frames := 15, cells := 32, slots := 256, locals := 474 } : Room)).room s m args below meth c H locs 0 0 Q (F0 m 129 ls (.int v :: [.int va])) := by
              intro v H locs hv hP hS
              subst hv
              refine lv_iadd cx.1 cx.2.1 dL_isCell_129 ?_
              refine lv_istore (lv' := [(4, .int (va + (if ((if ((nI i) / 8) ≤ ((nI nc) / 8) then (((nI nc) / 8) - ((nI i) / 8)) else (((nI i) / 8) - ((nI nc) / 8)) : Int32) + (if ((nI i) - (nI i) / 8 * 8) ≤ ((nI nc) - (nI nc) / 8 * 8) then (((nI nc) - (nI nc) / 8 * 8) - ((nI i) - (nI i) / 8 * 8)) else (((nI i) - (nI i) / 8 * 8) - ((nI nc) - (nI nc) / 8 * 8)) : Int32)) ≤ 2 then (if ¬ (S 20 i) = 4 then (if ¬ (S 20 i) = 5 then 0 else (-10)) else 5) else 0 : Int32))), (7, .int (if ((nI i) - (nI i) / 8 * 8) ≤ ((nI nc) - (nI nc) / 8 * 8) then (((nI nc) - (nI nc) / 8 * 8) - ((nI i) - (nI i) / 8 * 8)) else (((nI i) - (nI i) / 8 * 8) - ((nI nc) - (nI nc) / 8 * 8)) : Int32)), (6, .int (if ((nI i) / 8) ≤ ((nI nc) / 8) then (((nI nc) / 8) - ((nI i) / 8)) else (((nI i) / 8) - ((nI nc) / 8)) : Int32)), (5, .int (nI i)), (0, .ref (ad 0)), (1, .ref (ad 36)), (2, .ref (ad 37)), (3, .int (nI nc))]) cx.1 cx.2.1 dL_isCell_130 hl (by decide) rfl (fun ls hl => ?_)
              refine lv_iinc (v := nI (i + 1)) (lv' := [(5, .int (nI (i + 1))), (4, .int (va + (if ((if ((nI i) / 8) ≤ ((nI nc) / 8) then (((nI nc) / 8) - ((nI i) / 8)) else (((nI i) / 8) - ((nI nc) / 8)) : Int32) + (if ((nI i) - (nI i) / 8 * 8) ≤ ((nI nc) - (nI nc) / 8 * 8) then (((nI nc) - (nI nc) / 8 * 8) - ((nI i) - (nI i) / 8 * 8)) else (((nI i) - (nI i) / 8 * 8) - ((nI nc) - (nI nc) / 8 * 8)) : Int32)) ≤ 2 then (if ¬ (S 20 i) = 4 then (if ¬ (S 20 i) = 5 then 0 else (-10)) else 5) else 0 : Int32))), (7, .int (if ((nI i) - (nI i) / 8 * 8) ≤ ((nI nc) - (nI nc) / 8 * 8) then (((nI nc) - (nI nc) / 8 * 8) - ((nI i) - (nI i) / 8 * 8)) else (((nI i) - (nI i) / 8 * 8) - ((nI nc) - (nI nc) / 8 * 8)) : Int32)), (6, .int (if ((nI i) / 8) ≤ ((nI nc) / 8) then (((nI nc) / 8) - ((nI i) / 8)) else (((nI i) / 8) - ((nI nc) / 8)) : Int32)), (0, .ref (ad 0)), (1, .ref (ad 36)), (2, .ref (ad 37)), (3, .int (nI nc))]) cx.1 cx.2.1 dL_isCell_132 hl (k := 3) rfl (nI_1 i) (by decide) rfl (fun ls hl => ?_)
              refine lv_goto (tgt := 7) cx.1 cx.2.1 dL_isCell_135 (by decide) ?_
              have ha7 : lp_L_isCell_7 S F nc 10 (i + 1) = va + (if ((if ((nI i) / 8) ≤ ((nI nc) / 8) then (((nI nc) / 8) - ((nI i) / 8)) else (((nI i) / 8) - ((nI nc) / 8)) : Int32) + (if ((nI i) - (nI i) / 8 * 8) ≤ ((nI nc) - (nI nc) / 8 * 8) then (((nI nc) - (nI nc) / 8 * 8) - ((nI i) - (nI i) / 8 * 8)) else (((nI i) - (nI i) / 8 * 8) - ((nI nc) - (nI nc) / 8 * 8)) : Int32)) ≤ 2 then (if ¬ (S 20 i) = 4 then (if ¬ (S 20 i) = 5 then 0 else (-10)) else 5) else 0 : Int32) := by
                show bd_L_isCell_7 S F nc i (lp_L_isCell_7 S F nc 10 i) = _
                rw [hacc7]
                unfold bd_L_isCell_7
                rfl
              exact ih7 (i + 1) (va + (if ((if ((nI i) / 8) ≤ ((nI nc) / 8) then (((nI nc) / 8) - ((nI i) / 8)) else (((nI i) / 8) - ((nI nc) / 8)) : Int32) + (if ((nI i) - (nI i) / 8 * 8) ≤ ((nI nc) - (nI nc) / 8 * 8) then (((nI nc) - (nI nc) / 8 * 8) - ((nI i) - (nI i) / 8 * 8)) else (((nI i) - (nI i) / 8 * 8) - ((nI nc) - (nI nc) / 8 * 8)) : Int32)) ≤ 2 then (if ¬ (S 20 i) = 4 then (if ¬ (S 20 i) = 5 then 0 else (-10)) else 5) else 0 : Int32)) (by omega) ha7  (by omega) _ _ ls hP hS (lv_sub hl [0, 1, 4, 5, 6, 7] rfl)
            refine lv_iload cx.1 cx.2.1 dL_isCell_90 (lv_at hl 1 rfl) ?_
            refine lv_iload cx.1 cx.2.1 dL_isCell_92 (lv_at hl 0 rfl) ?_
            refine lv_iadd cx.1 cx.2.1 dL_isCell_94 ?_
            refine lv_iconst (v := 2) cx.1 cx.2.1 dL_isCell_95 (by decide) ?_
            refine lv_icmp_le (tgt := 103) cx.1 cx.2.1 dL_isCell_96 (by decide) (fun c4 => ?_) (fun c4 => ?_)
            · refine lv_aload_n cx.1 cx.2.1 dL_isCell_103 rfl (lv_at hl 5 rfl) ?_
              refine lv_iload cx.1 cx.2.1 dL_isCell_104 (lv_at hl 2 rfl) ?_
              refine zIldN cx hK hP 36 0 rfl rfl (i) (by omega) (by decide) rfl dL_isCell_106 ?_
              refine lv_iconst (v := 4) cx.1 cx.2.1 dL_isCell_107 (by decide) ?_
              refine lv_icmp_ne (tgt := 115) cx.1 cx.2.1 dL_isCell_108 (by decide) (fun c5 => ?_) (fun c5 => ?_)
              · refine lv_aload_n cx.1 cx.2.1 dL_isCell_115 rfl (lv_at hl 5 rfl) ?_
                refine lv_iload cx.1 cx.2.1 dL_isCell_116 (lv_at hl 2 rfl) ?_
                refine zIldN cx hK hP 36 0 rfl rfl (i) (by omega) (by decide) rfl dL_isCell_118 ?_
                refine lv_iconst (v := 5) cx.1 cx.2.1 dL_isCell_119 (by decide) ?_
                refine lv_icmp_ne (tgt := 128) cx.1 cx.2.1 dL_isCell_120 (by decide) (fun c6 => ?_) (fun c6 => ?_)
                · refine lv_iconst (v := 0) cx.1 cx.2.1 dL_isCell_128 (by decide) ?_
                  exact j129 _ _ _ (by first | (rw [if_pos c4, if_pos c5, if_pos c6]; done) | exact Eq.symm ((if_pos c4).trans ((if_pos c5).trans ((if_pos c6).trans (rfl))))) hP hS
                · refine lv_bipush (v := (-10)) cx.1 cx.2.1 dL_isCell_123 (by decide) ?_
                  refine lv_goto (tgt := 129) cx.1 cx.2.1 dL_isCell_125 (by decide) ?_
                  exact j129 _ _ _ (by first | (rw [if_pos c4, if_pos c5, if_neg (not_not_intro c6)]; done) | exact Eq.symm ((if_pos c4).trans ((if_pos c5).trans ((if_neg (not_not_intro c6)).trans (rfl))))) hP hS
              · refine lv_iconst (v := 5) cx.1 cx.2.1 dL_isCell_111 (by decide) ?_
                refine lv_goto (tgt := 129) cx.1 cx.2.1 dL_isCell_112 (by decide) ?_
                exact j129 _ _ _ (by first | (rw [if_pos c4, if_neg (not_not_intro c5)]; done) | exact Eq.symm ((if_pos c4).trans ((if_neg (not_not_intro c5)).trans (rfl)))) hP hS
            · refine lv_iconst (v := 0) cx.1 cx.2.1 dL_isCell_99 (by decide) ?_
              refine lv_goto (tgt := 129) cx.1 cx.2.1 dL_isCell_100 (by decide) ?_
              exact j129 _ _ _ (by first | (rw [if_neg c4]; done) | exact Eq.symm ((if_neg c4).trans (rfl))) hP hS
          refine lv_iload cx.1 cx.2.1 dL_isCell_51 (lv_at hl 1 rfl) ?_
          refine lv_bipush (v := 8) cx.1 cx.2.1 dL_isCell_53 (by decide) ?_
          refine lv_irem cx.1 cx.2.1 dL_isCell_55 (by decide) ?_
          refine lv_iload_n cx.1 cx.2.1 dL_isCell_56 rfl (lv_at hl 6 rfl) ?_
          refine lv_bipush (v := 8) cx.1 cx.2.1 dL_isCell_57 (by decide) ?_
          refine lv_irem cx.1 cx.2.1 dL_isCell_59 (by decide) ?_
          refine lv_icmp_le (tgt := 76) cx.1 cx.2.1 dL_isCell_60 (by decide) (fun c3 => ?_) (fun c3 => ?_)
          · refine lv_iload_n cx.1 cx.2.1 dL_isCell_76 rfl (lv_at hl 6 rfl) ?_
            refine lv_bipush (v := 8) cx.1 cx.2.1 dL_isCell_77 (by decide) ?_
            refine lv_irem cx.1 cx.2.1 dL_isCell_79 (by decide) ?_
            refine lv_iload cx.1 cx.2.1 dL_isCell_80 (lv_at hl 1 rfl) ?_
            refine lv_bipush (v := 8) cx.1 cx.2.1 dL_isCell_82 (by decide) ?_
            refine lv_irem cx.1 cx.2.1 dL_isCell_84 (by decide) ?_
            refine lv_isub cx.1 cx.2.1 dL_isCell_85 ?_
            exact j86 _ _ _ (by first | (rw [if_pos c3]; done) | exact Eq.symm ((if_pos c3).trans (rfl))) hP hS
          · refine lv_iload cx.1 cx.2.1 dL_isCell_63 (lv_at hl 1 rfl) ?_
            refine lv_bipush (v := 8) cx.1 cx.2.1 dL_isCell_65 (by decide) ?_
            refine lv_irem cx.1 cx.2.1 dL_isCell_67 (by decide) ?_
            refine lv_iload_n cx.1 cx.2.1 dL_isCell_68 rfl (lv_at hl 6 rfl) ?_
            refine lv_bipush (v := 8) cx.1 cx.2.1 dL_isCell_69 (by decide) ?_
            refine lv_irem cx.1 cx.2.1 dL_isCell_71 (by decide) ?_
            refine lv_isub cx.1 cx.2.1 dL_isCell_72 ?_
            refine lv_goto (tgt := 86) cx.1 cx.2.1 dL_isCell_73 (by decide) ?_
            exact j86 _ _ _ (by first | (rw [if_neg c3]; done) | exact Eq.symm ((if_neg c3).trans (rfl))) hP hS
        refine lv_iload cx.1 cx.2.1 dL_isCell_14 (lv_at hl 0 rfl) ?_
        refine lv_bipush (v := 8) cx.1 cx.2.1 dL_isCell_16 (by decide) ?_
        refine lv_idiv cx.1 cx.2.1 dL_isCell_18 (by decide) ?_
        refine lv_iload_n cx.1 cx.2.1 dL_isCell_19 rfl (lv_at hl 5 rfl) ?_
        refine lv_bipush (v := 8) cx.1 cx.2.1 dL_isCell_20 (by decide) ?_
        refine lv_idiv cx.1 cx.2.1 dL_isCell_22 (by decide) ?_
        refine lv_icmp_le (tgt := 39) cx.1 cx.2.1 dL_isCell_23 (by decide) (fun c2 => ?_) (fun c2 => ?_)
        · refine lv_iload_n cx.1 cx.2.1 dL_isCell_39 rfl (lv_at hl 5 rfl) ?_
          refine lv_bipush (v := 8) cx.1 cx.2.1 dL_isCell_40 (by decide) ?_
          refine lv_idiv cx.1 cx.2.1 dL_isCell_42 (by decide) ?_
          refine lv_iload cx.1 cx.2.1 dL_isCell_43 (lv_at hl 0 rfl) ?_
          refine lv_bipush (v := 8) cx.1 cx.2.1 dL_isCell_45 (by decide) ?_
          refine lv_idiv cx.1 cx.2.1 dL_isCell_47 (by decide) ?_
          refine lv_isub cx.1 cx.2.1 dL_isCell_48 ?_
          exact j49 _ _ _ (by first | (rw [if_pos c2]; done) | exact Eq.symm ((if_pos c2).trans (rfl))) hP hS
        · refine lv_iload cx.1 cx.2.1 dL_isCell_26 (lv_at hl 0 rfl) ?_
          refine lv_bipush (v := 8) cx.1 cx.2.1 dL_isCell_28 (by decide) ?_
          refine lv_idiv cx.1 cx.2.1 dL_isCell_30 (by decide) ?_
          refine lv_iload_n cx.1 cx.2.1 dL_isCell_31 rfl (lv_at hl 5 rfl) ?_
          refine lv_bipush (v := 8) cx.1 cx.2.1 dL_isCell_32 (by decide) ?_
          refine lv_idiv cx.1 cx.2.1 dL_isCell_34 (by decide) ?_
          refine lv_isub cx.1 cx.2.1 dL_isCell_35 ?_
          refine lv_goto (tgt := 49) cx.1 cx.2.1 dL_isCell_36 (by decide) ?_
          exact j49 _ _ _ (by first | (rw [if_neg c2]; done) | exact Eq.symm ((if_neg c2).trans (rfl))) hP hS
  exact lp7 (64 - 0 + 1) 0 10 (by omega) rfl  (Nat.lt_succ_self _) _ _ ls hP hS (lv_sub hl [0, 1, 2, 3, 4, 5] rfl)
theorem c_L_isCell (l : Launch) (dC : Nat → ClassId) (dI : Nat → Nat → Nat) (cyI cyB : ClassId) (ad : Nat → Nat) (hI : zI ad 39) (hlf : l.stackTraces = false) (S F : zS) (hF : LF S F) (nc : Nat) (hnc : nc < 64) : bMet l (dC, dI) (lTys cyI cyB) ad 39 xL (qw cyI ad) yL_isCell wsL_isCell ({ frames := 15, cells := 32, slots := 256, locals := 474 } : Room) [.ref (ad 0), .ref (ad 36), .ref (ad 37), .int (nI nc)] S 32 256 (fun v T => v = 1 ∧ T = S) := by
  rcases hF.rd hnc with hr | ⟨w, hw, hr, kw⟩
  · exact c_L_isCell0 l dC dI cyI cyB ad hI hlf S F hF nc hnc hr
  · exact c_L_isCell1 l dC dI cyI cyB ad hI hlf S F hF w nc hnc hw hr
