/-! THE LAW'S LOOP, and the six refusals behind it -/
set_option maxHeartbeats 4000000 in
set_option maxRecDepth 100000 in
theorem law_end {p : Program} {l : Launch} {e : Env} {s : State} {m : MethodId} {below : List Frame} {meth : Method} {c : Code} {dC : Nat → ClassId} {dI : Nat → Nat → Nat} {cyI cyB : ClassId} {ad : Nat → Nat} {b L : Nat} {xs : Nat → Int32} (hI : zI ad 39) (hlf : l.stackTraces = false) (cx : CallFix p m c cL_law 7 s #[Value.ref b] wsB_law RL) (hr : meth.sig.returnType = ret) (hlocks : meth.locks = false) (hK : va_K (dC, dI) vwCl (lTys cyI cyB) s) (hXs : xZ b L xs (zA ad 39 s.heap.size) s) (hA : zA ad 39 s.heap.size = lA s) (hLb : L < 2 ^ 31) {k : Nat} {S : zS} (hB : LBd S) {H : Heap} {locs : List Loc} {ls : Array Slot} {cells slots : Nat} (hP : va_P (dC, dI) vwCl (qw cyI ad S) H) (hS : va_S (zA ad 39 s.heap.size) s.heap H locs) (hl : lv_has ls 7 [(0, .ref b), (1, .ref (ad 0)), (2, .ref (ad 36)), (3, .ref (ad 37)), (4, .ref (ad 38)), (5, .int 1), (6, .int (nI k))]) (hc1 : cells + 24 ≤ 860307) (hc2 : slots + 144 ≤ 6520261) : W p l e room_1 s m #[Value.ref b] below meth c H locs cells slots (lw_Z below #[Value.ref b] s) (F0 m 135 ls []) := by
  refine lv_iload cx.1 cx.2.1 dL_law_135 (lv_at hl 5 rfl) ?_
  refine lv_if_eq (tgt := 217) cx.1 cx.2.1 dL_law_137 (by decide) (fun c0 => ?_) (fun c0 => ?_)
  · exact absurd c0 (by decide)
  refine lv_aload_n cx.1 cx.2.1 dL_law_140 rfl (lv_at hl 1 rfl) ?_
  refine lv_iconst (v := 0) cx.1 cx.2.1 dL_law_141 (by decide) ?_
  refine lv_iconst (v := (-1)) cx.1 cx.2.1 dL_law_142 (by decide) ?_
  refine lv_iconst (v := 0) cx.1 cx.2.1 dL_law_143 (by decide) ?_
  refine bCallW (As := [.ref (ad 0), .int 0, .int (-1), .int 0]) (rest := []) 4 cx (c_L_does0 l dC dI cyI cyB ad hI hlf S (-1) 0) gL_law_L_does rfl ⟨rfl, rfl⟩ (by decide +kernel) ⟨Nat.le_of_ble_eq_true rfl, Nat.le_of_ble_eq_true rfl⟩ (xL_X ad 39) hXs.1 hK hP hS rfl hl.1 rfl (Nat.le_of_ble_eq_true rfl) dL_law_144 ⟨by show cells + 4 ≤ 860307; omega, by show slots + 24 ≤ 6520261; omega⟩ (fun r0 T0 H locs hp hP hS => ?_)
  obtain ⟨h0, hB0⟩ := e_bld1 hB hp
  subst h0
  refine lv_ldc (own := RL) (v := (-3000000)) cx.1 cx.2.1 cx.2.2.2.1 (cx.2.2.2.2 (Cond.constant RL 33 (-3000000)) (inB (by decide +kernel))) dL_law_147 ?_
  refine lv_icmp_ne (tgt := 217) cx.1 cx.2.1 dL_law_149 (by decide) (fun c1 => ?_) (fun c1 => ?_)
  · exact absurd rfl c1
  refine lv_aload_n cx.1 cx.2.1 dL_law_152 rfl (lv_at hl 1 rfl) ?_
  refine lv_iconst (v := 0) cx.1 cx.2.1 dL_law_153 (by decide) ?_
  refine lv_iconst (v := 0) cx.1 cx.2.1 dL_law_154 (by decide) ?_
  refine lv_iconst (v := 0) cx.1 cx.2.1 dL_law_155 (by decide) ?_
  refine bCallW (As := [.ref (ad 0), .int 0, .int 0, .int 0]) (rest := []) 4 cx (c_L_does0 l dC dI cyI cyB ad hI hlf T0 0 0) gL_law_L_does rfl ⟨rfl, rfl⟩ (by decide +kernel) ⟨Nat.le_of_ble_eq_true rfl, Nat.le_of_ble_eq_true rfl⟩ (xL_X ad 39) hXs.1 hK hP hS rfl hl.1 rfl (Nat.le_of_ble_eq_true rfl) dL_law_156 ⟨by show cells + 4 + 4 ≤ 860307; omega, by show slots + 24 + 24 ≤ 6520261; omega⟩ (fun r1 T1 H locs hp hP hS => ?_)
  obtain ⟨h1, hB1⟩ := e_bld2 hB0 hp
  subst h1
  refine lv_ldc (own := RL) (v := (-2000000)) cx.1 cx.2.1 cx.2.2.2.1 (cx.2.2.2.2 (Cond.constant RL 36 (-2000000)) (inB (by decide +kernel))) dL_law_159 ?_
  refine lv_icmp_ne (tgt := 217) cx.1 cx.2.1 dL_law_161 (by decide) (fun c2 => ?_) (fun c2 => ?_)
  · exact absurd rfl c2
  refine lv_aload_n cx.1 cx.2.1 dL_law_164 rfl (lv_at hl 1 rfl) ?_
  refine lv_iconst (v := 1) cx.1 cx.2.1 dL_law_165 (by decide) ?_
  refine lv_bipush (v := 64) cx.1 cx.2.1 dL_law_166 (by decide) ?_
  refine lv_iconst (v := 0) cx.1 cx.2.1 dL_law_168 (by decide) ?_
  refine bCallW (As := [.ref (ad 0), .int 1, .int 64, .int 0]) (rest := []) 4 cx (c_L_does1 l dC dI cyI cyB ad hI hlf T1 64 0) gL_law_L_does rfl ⟨rfl, rfl⟩ (by decide +kernel) ⟨Nat.le_of_ble_eq_true rfl, Nat.le_of_ble_eq_true rfl⟩ (xL_X ad 39) hXs.1 hK hP hS rfl hl.1 rfl (Nat.le_of_ble_eq_true rfl) dL_law_169 ⟨by show cells + 4 + 4 + 4 ≤ 860307; omega, by show slots + 24 + 24 + 24 ≤ 6520261; omega⟩ (fun r2 T2 H locs hp hP hS => ?_)
  obtain ⟨h2, hB2⟩ := e_tear hB1 hp
  subst h2
  refine lv_ldc (own := RL) (v := (-3000000)) cx.1 cx.2.1 cx.2.2.2.1 (cx.2.2.2.2 (Cond.constant RL 33 (-3000000)) (inB (by decide +kernel))) dL_law_172 ?_
  refine lv_icmp_ne (tgt := 217) cx.1 cx.2.1 dL_law_174 (by decide) (fun c3 => ?_) (fun c3 => ?_)
  · exact absurd rfl c3
  refine lv_aload_n cx.1 cx.2.1 dL_law_177 rfl (lv_at hl 1 rfl) ?_
  refine lv_iconst (v := 2) cx.1 cx.2.1 dL_law_178 (by decide) ?_
  refine lv_iconst (v := (-1)) cx.1 cx.2.1 dL_law_179 (by decide) ?_
  refine lv_iconst (v := 0) cx.1 cx.2.1 dL_law_180 (by decide) ?_
  refine bCallW (As := [.ref (ad 0), .int 2, .int (-1), .int 0]) (rest := []) 4 cx (c_L_does2_0 l dC dI cyI cyB ad hI hlf T2 (-1)) gL_law_L_does rfl ⟨rfl, rfl⟩ (by decide +kernel) ⟨Nat.le_of_ble_eq_true rfl, Nat.le_of_ble_eq_true rfl⟩ (xL_X ad 39) hXs.1 hK hP hS rfl hl.1 rfl (Nat.le_of_ble_eq_true rfl) dL_law_181 ⟨by show cells + 4 + 4 + 4 + 4 ≤ 860307; omega, by show slots + 24 + 24 + 24 + 24 ≤ 6520261; omega⟩ (fun r3 T3 H locs hp hP hS => ?_)
  obtain ⟨h3, hB3⟩ := e_tax hB2 hp
  subst h3
  refine lv_ldc (own := RL) (v := (-2000000)) cx.1 cx.2.1 cx.2.2.2.1 (cx.2.2.2.2 (Cond.constant RL 36 (-2000000)) (inB (by decide +kernel))) dL_law_184 ?_
  refine lv_icmp_ne (tgt := 217) cx.1 cx.2.1 dL_law_186 (by decide) (fun c4 => ?_) (fun c4 => ?_)
  · exact absurd rfl c4
  refine lv_aload_n cx.1 cx.2.1 dL_law_189 rfl (lv_at hl 1 rfl) ?_
  refine lv_iconst (v := 3) cx.1 cx.2.1 dL_law_190 (by decide) ?_
  refine lv_iconst (v := 0) cx.1 cx.2.1 dL_law_191 (by decide) ?_
  refine lv_iconst (v := 0) cx.1 cx.2.1 dL_law_192 (by decide) ?_
  refine bCallW (As := [.ref (ad 0), .int 3, .int 0, .int 0]) (rest := []) 4 cx (c_L_does3 l dC dI cyI cyB ad hI hlf T3 0 0) gL_law_L_does rfl ⟨rfl, rfl⟩ (by decide +kernel) ⟨Nat.le_of_ble_eq_true rfl, Nat.le_of_ble_eq_true rfl⟩ (xL_X ad 39) hXs.1 hK hP hS rfl hl.1 rfl (Nat.le_of_ble_eq_true rfl) dL_law_193 ⟨by show cells + 4 + 4 + 4 + 4 + 4 ≤ 860307; omega, by show slots + 24 + 24 + 24 + 24 + 24 ≤ 6520261; omega⟩ (fun r4 T4 H locs hp hP hS => ?_)
  obtain ⟨h4, hB4⟩ := e_borrow hB3 hp
  subst h4
  refine lv_ldc (own := RL) (v := (-2000000)) cx.1 cx.2.1 cx.2.2.2.1 (cx.2.2.2.2 (Cond.constant RL 36 (-2000000)) (inB (by decide +kernel))) dL_law_196 ?_
  refine lv_icmp_ne (tgt := 217) cx.1 cx.2.1 dL_law_198 (by decide) (fun c5 => ?_) (fun c5 => ?_)
  · exact absurd rfl c5
  refine lv_aload_n cx.1 cx.2.1 dL_law_201 rfl (lv_at hl 1 rfl) ?_
  refine lv_iconst (v := 4) cx.1 cx.2.1 dL_law_202 (by decide) ?_
  refine lv_iconst (v := 0) cx.1 cx.2.1 dL_law_203 (by decide) ?_
  refine lv_iconst (v := 0) cx.1 cx.2.1 dL_law_204 (by decide) ?_
  refine bCallW (As := [.ref (ad 0), .int 4, .int 0, .int 0]) (rest := []) 4 cx (c_L_does4 l dC dI cyI cyB ad hI hlf T4 0 0) gL_law_L_does rfl ⟨rfl, rfl⟩ (by decide +kernel) ⟨Nat.le_of_ble_eq_true rfl, Nat.le_of_ble_eq_true rfl⟩ (xL_X ad 39) hXs.1 hK hP hS rfl hl.1 rfl (Nat.le_of_ble_eq_true rfl) dL_law_205 ⟨by show cells + 4 + 4 + 4 + 4 + 4 + 4 ≤ 860307; omega, by show slots + 24 + 24 + 24 + 24 + 24 + 24 ≤ 6520261; omega⟩ (fun r5 T5 H locs hp hP hS => ?_)
  obtain ⟨h5, hB5⟩ := e_repay hB4 hp
  subst h5
  refine lv_ldc (own := RL) (v := (-2000000)) cx.1 cx.2.1 cx.2.2.2.1 (cx.2.2.2.2 (Cond.constant RL 36 (-2000000)) (inB (by decide +kernel))) dL_law_208 ?_
  refine lv_icmp_ne (tgt := 217) cx.1 cx.2.1 dL_law_210 (by decide) (fun c6 => ?_) (fun c6 => ?_)
  · exact absurd rfl c6
  refine lv_iconst (v := 1) cx.1 cx.2.1 dL_law_213 (by decide) ?_
  refine lv_goto (tgt := 218) cx.1 cx.2.1 dL_law_214 (by decide) ?_
  rw [hA] at hS
  refine va_forget (fun q hq => hS.2.2 q hq) ?_
  refine W.widen (k := 860307) (n := 6520261) (by omega) (by omega) ?_
  exact lw_ret cx.1 cx.2.1 hr hlocks dL_law_218
set_option maxHeartbeats 4000000 in
set_option maxRecDepth 100000 in
theorem law_loop {p : Program} {l : Launch} {e : Env} {s : State} {m : MethodId} {below : List Frame} {meth : Method} {c : Code} {dC : Nat → ClassId} {dI : Nat → Nat → Nat} {cyI cyB : ClassId} {ad : Nat → Nat} {b L : Nat} {xs : Nat → Int32} (hI : zI ad 39) (hlf : l.stackTraces = false) (cx : CallFix p m c cL_law 7 s #[Value.ref b] wsB_law RL) (hr : meth.sig.returnType = ret) (hlocks : meth.locks = false) (hK : va_K (dC, dI) vwCl (lTys cyI cyB) s) (hXs : xZ b L xs (zA ad 39 s.heap.size) s) (hA : zA ad 39 s.heap.size = lA s) (hLb : L < 2 ^ 31) :
    ∀ (n k : Nat) (_ : k + n = 40) (S : zS) (_ : LBd S) (H : Heap) (locs : List Loc) (ls : Array Slot) (cells slots : Nat), va_P (dC, dI) vwCl (qw cyI ad S) H → va_S (zA ad 39 s.heap.size) s.heap H locs → lv_has ls 7 [(0, .ref b), (1, .ref (ad 0)), (2, .ref (ad 36)), (3, .ref (ad 37)), (4, .ref (ad 38)), (5, .int 1), (6, .int (nI k))] → cells + 162 * n + 24 ≤ 860307 → slots + 1608 * n + 144 ≤ 6520261 → W p l e room_1 s m #[Value.ref b] below meth c H locs cells slots (lw_Z below #[Value.ref b] s) (F0 m 56 ls []) := by
  intro n
  induction n with
  | zero =>
    intro k hk S hB H locs ls cells slots hP hS hl hc1 hc2
    refine lv_iload cx.1 cx.2.1 dL_law_56 (lv_at hl 6 rfl) ?_
    refine lv_bipush (v := nI 40) cx.1 cx.2.1 dL_law_58 (by decide) ?_
    refine lv_icmp_ge (tgt := 135) cx.1 cx.2.1 dL_law_60 (by decide) (fun c1 => ?_) (fun c1 => ?_)
    · exact law_end hI hlf cx hr hlocks hK hXs hA hLb hB hP hS hl (by omega) (by omega)
    · exact absurd ((nI_leI (a := 40) (b := k) (by omega) (by omega)).mpr (by omega)) c1
  | succ n ih =>
    intro k hk S hB H locs ls cells slots hP hS hl hc1 hc2
    refine lv_iload cx.1 cx.2.1 dL_law_56 (lv_at hl 6 rfl) ?_
    refine lv_bipush (v := nI 40) cx.1 cx.2.1 dL_law_58 (by decide) ?_
    refine lv_icmp_ge (tgt := 135) cx.1 cx.2.1 dL_law_60 (by decide) (fun c1 => ?_) (fun c1 => ?_)
    · have := (nI_leI (a := 40) (b := k) (by omega) (by omega)).mp c1
      omega
    refine lv_iload cx.1 cx.2.1 dL_law_63 (lv_at hl 5 rfl) ?_
    refine lv_if_eq (tgt := 135) cx.1 cx.2.1 dL_law_65 (by decide) (fun c2 => ?_) (fun c2 => ?_)
    · exact absurd c2 (by decide)
    refine lv_aload_n cx.1 cx.2.1 dL_law_68 rfl (lv_at hl 1 rfl) ?_
    refine lv_aload_n cx.1 cx.2.1 dL_law_69 rfl (lv_at hl 0 rfl) ?_
    refine lv_iconst (v := nI 3) cx.1 cx.2.1 dL_law_70 (by decide) ?_
    refine lv_iload cx.1 cx.2.1 dL_law_71 (lv_at hl 6 rfl) ?_
    refine zMulN (a := 3) (b := k) cx.1 cx.2.1 dL_law_73 ?_
    refine lv_aload_n cx.1 cx.2.1 dL_law_74 rfl (lv_at hl 2 rfl) ?_
    refine lv_aload_n cx.1 cx.2.1 dL_law_75 rfl (lv_at hl 3 rfl) ?_
    refine lv_aload cx.1 cx.2.1 dL_law_76 (lv_at hl 4 rfl) ?_
    refine bCall (As := [.ref (ad 0), .ref b, .int (nI (3 * k)), .ref (ad 36), .ref (ad 37), .ref (ad 38)]) (rest := []) 6 cx (c_L_isDone l dC dI cyI cyB ad hI b L xs hLb hlf S (3 * k) (by omega) hB) gL_law_L_isDone rfl ⟨rfl, rfl⟩ (by decide +kernel) ⟨Nat.le_of_ble_eq_true rfl, Nat.le_of_ble_eq_true rfl⟩ (xZ_X b L xs ad 39) hXs hK hP hS rfl hl.1 rfl (Nat.le_of_ble_eq_true rfl) dL_law_78 ⟨by show cells + 18 ≤ 860307; omega, by show slots + 456 ≤ 6520261; omega⟩ (fun r1 T H locs hp hP hS => ?_)
    obtain ⟨h1, hBT⟩ := hp
    subst h1
    refine lv_if_eq (tgt := 126) cx.1 cx.2.1 dL_law_81 (by decide) (fun c3 => ?_) (fun c3 => ?_)
    · exact absurd c3 (by decide)
    refine lv_aload_n cx.1 cx.2.1 dL_law_84 rfl (lv_at hl 1 rfl) ?_
    refine lv_aload_n cx.1 cx.2.1 dL_law_85 rfl (lv_at hl 2 rfl) ?_
    refine lv_aload_n cx.1 cx.2.1 dL_law_86 rfl (lv_at hl 3 rfl) ?_
    refine lv_aload cx.1 cx.2.1 dL_law_87 (lv_at hl 4 rfl) ?_
    refine lv_bipush (v := nI 16) cx.1 cx.2.1 dL_law_89 (by decide) ?_
    refine lv_aload_n cx.1 cx.2.1 dL_law_91 rfl (lv_at hl 0 rfl) ?_
    refine lv_iconst (v := nI 3) cx.1 cx.2.1 dL_law_92 (by decide) ?_
    refine lv_iload cx.1 cx.2.1 dL_law_93 (lv_at hl 6 rfl) ?_
    refine zMulN (a := 3) (b := k) cx.1 cx.2.1 dL_law_95 ?_
    refine lv_iconst (v := nI 1) cx.1 cx.2.1 dL_law_96 (by decide) ?_
    refine zAddN (a := 3 * k) (b := 1) cx.1 cx.2.1 dL_law_97 ?_
    refine lv_bipush (v := nI 40) cx.1 cx.2.1 dL_law_98 (by decide) ?_
    refine bCall (As := [.ref b, .int (nI (3 * k + 1)), .int (nI 40)]) (rest := [.int (nI 16), .ref (ad 38), .ref (ad 37), .ref (ad 36), .ref (ad 0)]) 3 cx (c_L_part l dC dI cyI cyB ad hI b L xs hLb T (3 * k + 1) 40 (by omega) (by decide) (by decide)) gL_law_L_part rfl ⟨rfl, rfl⟩ (by decide +kernel) ⟨Nat.le_of_ble_eq_true rfl, Nat.le_of_ble_eq_true rfl⟩ (xZ_X b L xs ad 39) hXs hK hP hS rfl hl.1 rfl (Nat.le_of_ble_eq_true rfl) dL_law_100 ⟨by show cells + 18 + 0 ≤ 860307; omega, by show slots + 456 + 0 ≤ 6520261; omega⟩ (fun r2 T2 H locs hp hP hS => ?_)
    obtain ⟨⟨w1, hw1, h2⟩, h3⟩ := hp
    subst h2
    rw [h3] at hP
    refine zAddN (a := 16) (b := w1) cx.1 cx.2.1 dL_law_103 ?_
    refine lv_aload_n cx.1 cx.2.1 dL_law_104 rfl (lv_at hl 0 rfl) ?_
    refine lv_iconst (v := nI 3) cx.1 cx.2.1 dL_law_105 (by decide) ?_
    refine lv_iload cx.1 cx.2.1 dL_law_106 (lv_at hl 6 rfl) ?_
    refine zMulN (a := 3) (b := k) cx.1 cx.2.1 dL_law_108 ?_
    refine lv_iconst (v := nI 2) cx.1 cx.2.1 dL_law_109 (by decide) ?_
    refine zAddN (a := 3 * k) (b := 2) cx.1 cx.2.1 dL_law_110 ?_
    refine lv_bipush (v := nI 64) cx.1 cx.2.1 dL_law_111 (by decide) ?_
    refine bCall (As := [.ref b, .int (nI (3 * k + 2)), .int (nI 64)]) (rest := [.int (nI (16 + w1)), .ref (ad 38), .ref (ad 37), .ref (ad 36), .ref (ad 0)]) 3 cx (c_L_part l dC dI cyI cyB ad hI b L xs hLb T (3 * k + 2) 64 (by omega) (by decide) (by decide)) gL_law_L_part rfl ⟨rfl, rfl⟩ (by decide +kernel) ⟨Nat.le_of_ble_eq_true rfl, Nat.le_of_ble_eq_true rfl⟩ (xZ_X b L xs ad 39) hXs hK hP hS rfl hl.1 rfl (Nat.le_of_ble_eq_true rfl) dL_law_113 ⟨by show cells + 18 + 0 + 0 ≤ 860307; omega, by show slots + 456 + 0 + 0 ≤ 6520261; omega⟩ (fun r3 T3 H locs hp hP hS => ?_)
    obtain ⟨⟨w2, hw2, h4⟩, h5⟩ := hp
    subst h4
    rw [h5] at hP
    refine bCall (As := [.ref (ad 0), .ref (ad 36), .ref (ad 37), .ref (ad 38), .int (nI (16 + w1)), .int (nI w2)]) (rest := []) 6 cx (c_L_isTownB l dC dI cyI cyB ad hI hlf T hBT (16 + w1) w2 (by omega) hw2) gL_law_L_isTown rfl ⟨rfl, rfl⟩ (by decide +kernel) ⟨Nat.le_of_ble_eq_true rfl, Nat.le_of_ble_eq_true rfl⟩ (xL_X ad 39) hXs.1 hK hP hS rfl hl.1 rfl (Nat.le_of_ble_eq_true rfl) dL_law_116 ⟨by show cells + 18 + 0 + 0 + 144 ≤ 860307; omega, by show slots + 456 + 0 + 0 + 1152 ≤ 6520261; omega⟩ (fun r4 T4 H locs hp hP hS => ?_)
    obtain ⟨h6, h7⟩ := hp
    subst h6
    rw [h7] at hP
    refine lv_if_eq (tgt := 126) cx.1 cx.2.1 dL_law_119 (by decide) (fun c4 => ?_) (fun c4 => ?_)
    · exact absurd c4 (by decide)
    refine lv_iconst (v := 1) cx.1 cx.2.1 dL_law_122 (by decide) ?_
    refine lv_goto (tgt := 127) cx.1 cx.2.1 dL_law_123 (by decide) ?_
    refine lv_istore (lv' := [(5, .int 1), (0, .ref b), (1, .ref (ad 0)), (2, .ref (ad 36)), (3, .ref (ad 37)), (4, .ref (ad 38)), (6, .int (nI k))]) cx.1 cx.2.1 dL_law_127 hl (by decide) rfl (fun ls hl => ?_)
    refine lv_iinc (v := nI (k + 1)) (lv' := [(6, .int (nI (k + 1))), (5, .int 1), (0, .ref b), (1, .ref (ad 0)), (2, .ref (ad 36)), (3, .ref (ad 37)), (4, .ref (ad 38))]) cx.1 cx.2.1 dL_law_129 hl (k := 6) rfl (nI_1 k) (by decide) rfl (fun ls hl => ?_)
    refine lv_goto (tgt := 56) cx.1 cx.2.1 dL_law_132 (by decide) ?_
    exact ih (k + 1) (by omega) T hBT H locs ls _ _ hP hS (lv_sub hl [2, 3, 4, 5, 6, 1, 0] rfl) (by omega) (by omega)
