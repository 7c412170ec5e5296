theorem lg_self (x : Int64) : lg_cmp x x = 0 := by
  unfold lg_cmp
  rw [if_neg (by simp), if_pos rfl]
theorem f7_01 (M : zS) (x : Int32) : f_X7_isServed M x = 0 ∨ f_X7_isServed M x = 1 := by
  unfold f_X7_isServed
  split
  · exact Or.inl rfl
  · split
    · exact Or.inl rfl
    · exact Or.inr rfl
theorem Rel.lv {C M : zS} (H : Rel C M) : lvOK (C 1) := by
  rw [(Rel_kl H).2]
  exact H.2.1
/-- what the law goes on with behind a call -/
def law_KK (p : Program) (l : Launch) (e : Env) (s : State) (m : MethodId) (below : List Frame) (meth : Method) (c : Code) (Q : State → Prop) (dC : Nat → ClassId) (dI : Nat → Nat → Nat) (cyI cyZ cyJ : ClassId) (aC aM : Nat → Nat) (b i cells slots : Nat) : Prop :=
  ∀ (C M : zS) (H : Heap) (locs : List Loc) (ls : Array Slot), RK C M → LI (dC, dI) cyI cyZ cyJ aC aM C M H → va_S (lA s) s.heap H locs → lv_has ls 7 [(0, .ref b), (1, .ref (aC 0)), (2, .ref (aM 0)), (3, .ref (aC 36)), (4, .int (nI i))] → W p l e room_1 s m #[Value.ref b] below meth c H locs (cells + 8) (slots + 64) Q (F0 m 1206 ls [])
set_option maxHeartbeats 1000000 in
set_option maxRecDepth 100000 in
theorem law_build {p : Program} {l : Launch} {e : Env} {s : State} {m : MethodId} {below : List Frame} {meth : Method} {c : Code} {Q : State → Prop} {dC : Nat → ClassId} {dI : Nat → Nat → Nat} {cyI cyZ cyJ cyB : ClassId} {aC aM : Nat → Nat} {b L i : Nat} {xs : Nat → Int32} (hlf : l.stackTraces = false) (cx : CallFix p m c cL_law 7 s #[Value.ref b] wsL_law RL) (hX : va_X b L xs s s.heap) (hbl : b < s.heap.size) (hL : LC (dC, dI) cyI cyZ cyJ cyB aC aM s) (hi : i + 3 ≤ L) (hLb : L ≤ 1536) {C M : zS} {H : Heap} {locs : List Loc} {ls : Array Slot} {cells slots : Nat} (hRel : RK C M) (hI : LI (dC, dI) cyI cyZ cyJ aC aM C M H) (hS : va_S (lA s) s.heap H locs) (hl : lv_has ls 7 [(0, .ref b), (1, .ref (aC 0)), (2, .ref (aM 0)), (3, .ref (aC 36)), (4, .int (nI i))]) (hcl : cells + 8 ≤ room_1.cells) (hsl : slots + 64 ≤ room_1.slots) (KK : law_KK p l e s m below meth c Q dC dI cyI cyZ cyJ aC aM b i cells slots) : W p l e room_1 s m #[Value.ref b] below meth c H locs cells slots Q (F0 m 132 ls []) := by
  obtain ⟨hx, hb, hml, hown, hts⟩ := id cx
  have hbA : ¬ lA s b := Nat.not_le.mpr hbl
  refine lv_aload_n hx hb dL_law_132 rfl (lv_at hl 1 rfl) ?_
  refine lv_aload_n hx hb dL_law_133 rfl (lv_at hl 0 rfl) ?_
  refine lv_iload hx hb dL_law_134 (lv_at hl 4 rfl) ?_
  refine lv_iconst (v := nI 1) hx hb dL_law_136 (by decide) ?_
  refine zAddN (a := i) (b := 1) hx hb dL_law_137 ?_
  refine va_sld hx hb hX hbl hbA hS (vp_in_nI (by omega) (by omega)) dL_law_138 ?_
  refine lv_aload_n hx hb dL_law_139 rfl (lv_at hl 0 rfl) ?_
  refine lv_iload hx hb dL_law_140 (lv_at hl 4 rfl) ?_
  refine lv_iconst (v := nI 2) hx hb dL_law_142 (by decide) ?_
  refine zAddN (a := i) (b := 2) hx hb dL_law_143 ?_
  refine va_sld hx hb hX hbl hbA hS (vp_in_nI (by omega) (by omega)) dL_law_144 ?_
  refine lv_aload_n hx hb dL_law_145 rfl (lv_at hl 3 rfl) ?_
  refine lawL (av := [.ref (aC 0), .int (xs (nI (i + 1)).toNatClampNeg), .int (xs (nI (i + 2)).toNatClampNeg), .ref (aC 36)]) (rest := []) 4 cx (c_L_build l dC dI cyI cyJ cyB aC hL.1 hlf C (xs (nI (i + 1)).toNatClampNeg) (xs (nI (i + 2)).toNatClampNeg)) gL_law_L_build rfl ⟨rfl, rfl⟩ (by decide +kernel) ⟨(Nat.le_of_ble_eq_true rfl), (Nat.le_of_ble_eq_true rfl)⟩ hL hI hS rfl hl.1 rfl (Nat.le_of_ble_eq_true rfl) dL_law_146 ⟨by omega, by omega⟩ (fun r5 T H locs hp hI hS => ?_)
  refine lv_istore (lv' := [(5, .int r5), (0, .ref b), (1, .ref (aC 0)), (2, .ref (aM 0)), (3, .ref (aC 36)), (4, .int (nI i))]) hx hb dL_law_149 hl (by decide) rfl (fun ls hl => ?_)
  refine lv_aload_n hx hb dL_law_151 rfl (lv_at hl 3 rfl) ?_
  refine lv_aload_n hx hb dL_law_152 rfl (lv_at hl 1 rfl) ?_
  refine lv_iload hx hb dL_law_153 (lv_at hl 5 rfl) ?_
  refine lv_iconst (v := nI 1) hx hb dL_law_155 (by decide) ?_
  refine zAddN (a := i) (b := 1) hx hb dL_law_156 ?_
  refine va_sld hx hb hX hbl hbA hS (vp_in_nI (by omega) (by omega)) dL_law_157 ?_
  refine lv_aload_n hx hb dL_law_158 rfl (lv_at hl 1 rfl) ?_
  refine lv_iload hx hb dL_law_159 (lv_at hl 5 rfl) ?_
  refine lv_iconst (v := nI 2) hx hb dL_law_161 (by decide) ?_
  refine zAddN (a := i) (b := 2) hx hb dL_law_162 ?_
  refine va_sld hx hb hX hbl hbA hS (vp_in_nI (by omega) (by omega)) dL_law_163 ?_
  refine lawM (As := [.int (xs (nI (i + 1)).toNatClampNeg), .int (xs (nI (i + 2)).toNatClampNeg)]) (rest := []) 2 cx (c_X7_build l dC dI cyI cyZ aM hL.2.1 M (xs (nI (i + 1)).toNatClampNeg) (xs (nI (i + 2)).toNatClampNeg)) gL_law_X7_build rfl ⟨rfl, rfl⟩ (by decide +kernel) ⟨(Nat.le_of_ble_eq_true rfl), (Nat.le_of_ble_eq_true rfl)⟩ hL hI hS rfl hl.1 rfl (Nat.le_of_ble_eq_true rfl) dL_law_164 ⟨by omega, by omega⟩ (fun r6 M1 H locs hm hI hS => ?_)
  obtain ⟨h6, h7⟩ := hm
  have hag := law_agree nfB hp (by rw [h7]; exact eq_buildC hRel.1 (xs (nI (i + 1)).toNatClampNeg) (xs (nI (i + 2)).toNatClampNeg) : LR nB (t_X6_build C (xs (nI (i + 1)).toNatClampNeg) (xs (nI (i + 2)).toNatClampNeg)) (f_X6_build C (xs (nI (i + 1)).toNatClampNeg) (xs (nI (i + 2)).toNatClampNeg)) (f_X7_build M (xs (nI (i + 1)).toNatClampNeg) (xs (nI (i + 2)).toNatClampNeg)) C (g_X6_build C (xs (nI (i + 1)).toNatClampNeg) (xs (nI (i + 2)).toNatClampNeg)) M1)
  refine lv_istore (lv' := [(6, .int r6), (5, .int r5), (0, .ref b), (1, .ref (aC 0)), (2, .ref (aM 0)), (3, .ref (aC 36)), (4, .int (nI i))]) hx hb dL_law_167 hl (by decide) rfl (fun ls hl => ?_)
  refine lv_aload_n hx hb dL_law_169 rfl (lv_at hl 4 rfl) ?_
  refine lawM (As := []) (rest := []) 0 cx (c_X7_thrown l dC dI cyI cyZ aM hL.2.1 M1) gL_law_X7_thrown rfl ⟨rfl, rfl⟩ (by decide +kernel) ⟨(Nat.le_of_ble_eq_true rfl), (Nat.le_of_ble_eq_true rfl)⟩ hL hI hS rfl hl.1 rfl (Nat.le_of_ble_eq_true rfl) dL_law_170 ⟨by omega, by omega⟩ (fun r7 M2 H locs hm hI hS => ?_)
  obtain ⟨h8, h9⟩ := hm
  rw [h9] at hI
  refine lv_iload hx hb dL_law_173 (lv_at hl 1 rfl) ?_
  have fin : W p l e room_1 s m #[Value.ref b] below meth c H locs (cells + 4) (slots + 24) Q (F0 m 197 ls []) := by
    refine lv_goto (tgt := 1206) hx hb dL_law_197 (by decide) ?_
    exact W.widen (by omega) (by omega) (KK _ _ _ _ ls ⟨hag.2.2, by rw [h7]; exact kk_build hRel.2 (xs (nI (i + 1)).toNatClampNeg) (xs (nI (i + 2)).toNatClampNeg)⟩ hI hS (lv_sub hl [2, 3, 4, 5, 6] rfl))
  refine lv_icmp_eq (tgt := 180) hx hb dL_law_175 (by decide) (fun c1 => ?_) (fun c1 => absurd (h8.trans hag.1) c1)
  refine lv_iload hx hb dL_law_180 (lv_at hl 1 rfl) ?_
  refine lv_if_ne (tgt := 197) hx hb dL_law_182 (by decide) (fun c2 => fin) (fun c2 => ?_)
  have h0 : r5 = 0 := c2
  refine lv_aload_n hx hb dL_law_185 rfl (lv_at hl 5 rfl) ?_
  refine lv_iconst (v := 0) hx hb dL_law_186 (by decide) ?_
  refine va_lald hx hb hL.2.2.2.2.2.1 hI.1 36 1 rfl rfl vp_01 dL_law_187 ?_
  have he : T 18 0 = r6 := (hag.2.1 h0).trans h6.symm
  refine lv_iload hx hb dL_law_188 (lv_at hl 0 rfl) ?_
  refine lv_i2l (v := r6.toInt64) hx hb dL_law_190 rfl ?_
  refine W.lcmp hx hb dL_law_191 ?_
  refine lv_if_eq (tgt := 197) hx hb dL_law_192 (by decide) (fun c3 => fin) (fun c3 => absurd (by rw [he]; exact lg_self _) c3)
set_option maxHeartbeats 1000000 in
set_option maxRecDepth 100000 in
theorem law_tear {p : Program} {l : Launch} {e : Env} {s : State} {m : MethodId} {below : List Frame} {meth : Method} {c : Code} {Q : State → Prop} {dC : Nat → ClassId} {dI : Nat → Nat → Nat} {cyI cyZ cyJ cyB : ClassId} {aC aM : Nat → Nat} {b L i : Nat} {xs : Nat → Int32} (hlf : l.stackTraces = false) (cx : CallFix p m c cL_law 7 s #[Value.ref b] wsL_law RL) (hX : va_X b L xs s s.heap) (hbl : b < s.heap.size) (hL : LC (dC, dI) cyI cyZ cyJ cyB aC aM s) (hi : i + 3 ≤ L) (hLb : L ≤ 1536) {C M : zS} {H : Heap} {locs : List Loc} {ls : Array Slot} {cells slots : Nat} (hRel : RK C M) (hI : LI (dC, dI) cyI cyZ cyJ aC aM C M H) (hS : va_S (lA s) s.heap H locs) (hl : lv_has ls 7 [(0, .ref b), (1, .ref (aC 0)), (2, .ref (aM 0)), (3, .ref (aC 36)), (4, .int (nI i))]) (hcl : cells + 8 ≤ room_1.cells) (hsl : slots + 64 ≤ room_1.slots) (KK : law_KK p l e s m below meth c Q dC dI cyI cyZ cyJ aC aM b i cells slots) : W p l e room_1 s m #[Value.ref b] below meth c H locs cells slots Q (F0 m 200 ls []) := by
  obtain ⟨hx, hb, hml, hown, hts⟩ := id cx
  have hbA : ¬ lA s b := Nat.not_le.mpr hbl
  refine lv_aload_n hx hb dL_law_200 rfl (lv_at hl 1 rfl) ?_
  refine lv_aload_n hx hb dL_law_201 rfl (lv_at hl 0 rfl) ?_
  refine lv_iload hx hb dL_law_202 (lv_at hl 4 rfl) ?_
  refine lv_iconst (v := nI 1) hx hb dL_law_204 (by decide) ?_
  refine zAddN (a := i) (b := 1) hx hb dL_law_205 ?_
  refine va_sld hx hb hX hbl hbA hS (vp_in_nI (by omega) (by omega)) dL_law_206 ?_
  refine lv_aload_n hx hb dL_law_207 rfl (lv_at hl 3 rfl) ?_
  refine lawL (av := [.ref (aC 0), .int (xs (nI (i + 1)).toNatClampNeg), .ref (aC 36)]) (rest := []) 3 cx (c_L_tear l dC dI cyI cyJ cyB aC hL.1 hlf C (xs (nI (i + 1)).toNatClampNeg)) gL_law_L_tear rfl ⟨rfl, rfl⟩ (by decide +kernel) ⟨(Nat.le_of_ble_eq_true rfl), (Nat.le_of_ble_eq_true rfl)⟩ hL hI hS rfl hl.1 rfl (Nat.le_of_ble_eq_true rfl) dL_law_208 ⟨by omega, by omega⟩ (fun r5 T H locs hp hI hS => ?_)
  refine lv_istore (lv' := [(5, .int r5), (0, .ref b), (1, .ref (aC 0)), (2, .ref (aM 0)), (3, .ref (aC 36)), (4, .int (nI i))]) hx hb dL_law_211 hl (by decide) rfl (fun ls hl => ?_)
  refine lv_aload_n hx hb dL_law_213 rfl (lv_at hl 3 rfl) ?_
  refine lv_aload_n hx hb dL_law_214 rfl (lv_at hl 1 rfl) ?_
  refine lv_iload hx hb dL_law_215 (lv_at hl 5 rfl) ?_
  refine lv_iconst (v := nI 1) hx hb dL_law_217 (by decide) ?_
  refine zAddN (a := i) (b := 1) hx hb dL_law_218 ?_
  refine va_sld hx hb hX hbl hbA hS (vp_in_nI (by omega) (by omega)) dL_law_219 ?_
  refine lawM (As := [.int (xs (nI (i + 1)).toNatClampNeg)]) (rest := []) 1 cx (c_X7_tear l dC dI cyI cyZ aM hL.2.1 M (xs (nI (i + 1)).toNatClampNeg)) gL_law_X7_tear rfl ⟨rfl, rfl⟩ (by decide +kernel) ⟨(Nat.le_of_ble_eq_true rfl), (Nat.le_of_ble_eq_true rfl)⟩ hL hI hS rfl hl.1 rfl (Nat.le_of_ble_eq_true rfl) dL_law_220 ⟨by omega, by omega⟩ (fun r6 M1 H locs hm hI hS => ?_)
  obtain ⟨h6, h7⟩ := hm
  have hag := law_agree nfT hp (by rw [h7]; exact eq_tearC hRel.1 (xs (nI (i + 1)).toNatClampNeg) : LR nT (t_X6_tear C (xs (nI (i + 1)).toNatClampNeg)) (f_X6_tear C (xs (nI (i + 1)).toNatClampNeg)) (f_X7_tear M (xs (nI (i + 1)).toNatClampNeg)) C (g_X6_tear C (xs (nI (i + 1)).toNatClampNeg)) M1)
  refine lv_istore (lv' := [(6, .int r6), (5, .int r5), (0, .ref b), (1, .ref (aC 0)), (2, .ref (aM 0)), (3, .ref (aC 36)), (4, .int (nI i))]) hx hb dL_law_223 hl (by decide) rfl (fun ls hl => ?_)
  refine lv_aload_n hx hb dL_law_225 rfl (lv_at hl 4 rfl) ?_
  refine lawM (As := []) (rest := []) 0 cx (c_X7_thrown l dC dI cyI cyZ aM hL.2.1 M1) gL_law_X7_thrown rfl ⟨rfl, rfl⟩ (by decide +kernel) ⟨(Nat.le_of_ble_eq_true rfl), (Nat.le_of_ble_eq_true rfl)⟩ hL hI hS rfl hl.1 rfl (Nat.le_of_ble_eq_true rfl) dL_law_226 ⟨by omega, by omega⟩ (fun r7 M2 H locs hm hI hS => ?_)
  obtain ⟨h8, h9⟩ := hm
  rw [h9] at hI
  refine lv_iload hx hb dL_law_229 (lv_at hl 1 rfl) ?_
  have fin : W p l e room_1 s m #[Value.ref b] below meth c H locs (cells + 4) (slots + 24) Q (F0 m 253 ls []) := by
    refine lv_goto (tgt := 1206) hx hb dL_law_253 (by decide) ?_
    exact W.widen (by omega) (by omega) (KK _ _ _ _ ls ⟨hag.2.2, by rw [h7]; exact kk_tear hRel.2 (xs (nI (i + 1)).toNatClampNeg)⟩ hI hS (lv_sub hl [2, 3, 4, 5, 6] rfl))
  refine lv_icmp_eq (tgt := 236) hx hb dL_law_231 (by decide) (fun c1 => ?_) (fun c1 => absurd (h8.trans hag.1) c1)
  refine lv_iload hx hb dL_law_236 (lv_at hl 1 rfl) ?_
  refine lv_if_ne (tgt := 253) hx hb dL_law_238 (by decide) (fun c2 => fin) (fun c2 => ?_)
  have h0 : r5 = 0 := c2
  refine lv_aload_n hx hb dL_law_241 rfl (lv_at hl 5 rfl) ?_
  refine lv_iconst (v := 0) hx hb dL_law_242 (by decide) ?_
  refine va_lald hx hb hL.2.2.2.2.2.1 hI.1 36 1 rfl rfl vp_01 dL_law_243 ?_
  have he : T 18 0 = r6 := (hag.2.1 h0).trans h6.symm
  refine lv_iload hx hb dL_law_244 (lv_at hl 0 rfl) ?_
  refine lv_i2l (v := r6.toInt64) hx hb dL_law_246 rfl ?_
  refine W.lcmp hx hb dL_law_247 ?_
  refine lv_if_eq (tgt := 253) hx hb dL_law_248 (by decide) (fun c3 => fin) (fun c3 => absurd (by rw [he]; exact lg_self _) c3)
set_option maxHeartbeats 1000000 in
set_option maxRecDepth 100000 in
theorem law_setTax {p : Program} {l : Launch} {e : Env} {s : State} {m : MethodId} {below : List Frame} {meth : Method} {c : Code} {Q : State → Prop} {dC : Nat → ClassId} {dI : Nat → Nat → Nat} {cyI cyZ cyJ cyB : ClassId} {aC aM : Nat → Nat} {b L i : Nat} {xs : Nat → Int32} (hlf : l.stackTraces = false) (cx : CallFix p m c cL_law 7 s #[Value.ref b] wsL_law RL) (hX : va_X b L xs s s.heap) (hbl : b < s.heap.size) (hL : LC (dC, dI) cyI cyZ cyJ cyB aC aM s) (hi : i + 3 ≤ L) (hLb : L ≤ 1536) {C M : zS} {H : Heap} {locs : List Loc} {ls : Array Slot} {cells slots : Nat} (hRel : RK C M) (hI : LI (dC, dI) cyI cyZ cyJ aC aM C M H) (hS : va_S (lA s) s.heap H locs) (hl : lv_has ls 7 [(0, .ref b), (1, .ref (aC 0)), (2, .ref (aM 0)), (3, .ref (aC 36)), (4, .int (nI i))]) (hcl : cells + 8 ≤ room_1.cells) (hsl : slots + 64 ≤ room_1.slots) (KK : law_KK p l e s m below meth c Q dC dI cyI cyZ cyJ aC aM b i cells slots) : W p l e room_1 s m #[Value.ref b] below meth c H locs cells slots Q (F0 m 256 ls []) := by
  obtain ⟨hx, hb, hml, hown, hts⟩ := id cx
  have hbA : ¬ lA s b := Nat.not_le.mpr hbl
  refine lv_aload_n hx hb dL_law_256 rfl (lv_at hl 1 rfl) ?_
  have tail1 : ∀ z0 : Int32, z0 = (if (xs (nI (i + 1)).toNatClampNeg) = 0 then 0 else 1) → W p l e room_1 s m #[Value.ref b] below meth c H locs cells slots Q (F0 m 271 ls (.int z0 :: [.ref (aC 0)])) := by
    intro z0 hz0
    refine lv_aload_n hx hb dL_law_271 rfl (lv_at hl 0 rfl) ?_
    refine lv_iload hx hb dL_law_272 (lv_at hl 4 rfl) ?_
    refine lv_iconst (v := nI 2) hx hb dL_law_274 (by decide) ?_
    refine zAddN (a := i) (b := 2) hx hb dL_law_275 ?_
    refine va_sld hx hb hX hbl hbA hS (vp_in_nI (by omega) (by omega)) dL_law_276 ?_
    refine lv_aload_n hx hb dL_law_277 rfl (lv_at hl 3 rfl) ?_
    refine lawL (av := [.ref (aC 0), .int z0, .int (xs (nI (i + 2)).toNatClampNeg), .ref (aC 36)]) (rest := []) 4 cx (c_L_setTax l dC dI cyI cyJ cyB aC hL.1 hlf C z0 (xs (nI (i + 2)).toNatClampNeg)) gL_law_L_setTax rfl ⟨rfl, rfl⟩ (by decide +kernel) ⟨(Nat.le_of_ble_eq_true rfl), (Nat.le_of_ble_eq_true rfl)⟩ hL hI hS rfl hl.1 rfl (Nat.le_of_ble_eq_true rfl) dL_law_278 ⟨by omega, by omega⟩ (fun r5 T H locs hp hI hS => ?_)
    refine lv_istore (lv' := [(5, .int r5), (0, .ref b), (1, .ref (aC 0)), (2, .ref (aM 0)), (3, .ref (aC 36)), (4, .int (nI i))]) hx hb dL_law_281 hl (by decide) rfl (fun ls hl => ?_)
    refine lv_aload_n hx hb dL_law_283 rfl (lv_at hl 3 rfl) ?_
    have tail2 : ∀ y0 : Int32, y0 = z0 → W p l e room_1 s m #[Value.ref b] below meth c H locs (cells + 4) (slots + 24) Q (F0 m 298 ls (.int y0 :: [.ref (aM 0)])) := by
      intro y0 hy0
      rw [hy0]
      refine lv_aload_n hx hb dL_law_298 rfl (lv_at hl 1 rfl) ?_
      refine lv_iload hx hb dL_law_299 (lv_at hl 5 rfl) ?_
      refine lv_iconst (v := nI 2) hx hb dL_law_301 (by decide) ?_
      refine zAddN (a := i) (b := 2) hx hb dL_law_302 ?_
      refine va_sld hx hb hX hbl hbA hS (vp_in_nI (by omega) (by omega)) dL_law_303 ?_
      refine lawM (As := [.int z0, .int (xs (nI (i + 2)).toNatClampNeg)]) (rest := []) 2 cx (c_X7_setTax l dC dI cyI cyZ aM hL.2.1 M z0 (xs (nI (i + 2)).toNatClampNeg)) gL_law_X7_setTax rfl ⟨rfl, rfl⟩ (by decide +kernel) ⟨(Nat.le_of_ble_eq_true rfl), (Nat.le_of_ble_eq_true rfl)⟩ hL hI hS rfl hl.1 rfl (Nat.le_of_ble_eq_true rfl) dL_law_304 ⟨by omega, by omega⟩ (fun r6 M1 H locs hm hI hS => ?_)
      obtain ⟨h6, h7⟩ := hm
      have hag := law_agree nfA hp (by rw [h7]; exact eq_setTaxC hRel.1 z0 (xs (nI (i + 2)).toNatClampNeg) : LR nA (t_X6_setTax C z0 (xs (nI (i + 2)).toNatClampNeg)) (f_X6_setTax C z0 (xs (nI (i + 2)).toNatClampNeg)) (f_X7_setTax M z0 (xs (nI (i + 2)).toNatClampNeg)) C (g_X6_setTax C z0 (xs (nI (i + 2)).toNatClampNeg)) M1)
      refine lv_istore (lv' := [(6, .int r6), (5, .int r5), (0, .ref b), (1, .ref (aC 0)), (2, .ref (aM 0)), (3, .ref (aC 36)), (4, .int (nI i))]) hx hb dL_law_307 hl (by decide) rfl (fun ls hl => ?_)
      refine lv_aload_n hx hb dL_law_309 rfl (lv_at hl 4 rfl) ?_
      refine lawM (As := []) (rest := []) 0 cx (c_X7_thrown l dC dI cyI cyZ aM hL.2.1 M1) gL_law_X7_thrown rfl ⟨rfl, rfl⟩ (by decide +kernel) ⟨(Nat.le_of_ble_eq_true rfl), (Nat.le_of_ble_eq_true rfl)⟩ hL hI hS rfl hl.1 rfl (Nat.le_of_ble_eq_true rfl) dL_law_310 ⟨by omega, by omega⟩ (fun r7 M2 H locs hm hI hS => ?_)
      obtain ⟨h8, h9⟩ := hm
      rw [h9] at hI
      refine lv_iload hx hb dL_law_313 (lv_at hl 1 rfl) ?_
      have fin : W p l e room_1 s m #[Value.ref b] below meth c H locs (cells + 4) (slots + 24) Q (F0 m 337 ls []) := by
        refine lv_goto (tgt := 1206) hx hb dL_law_337 (by decide) ?_
        exact W.widen (by omega) (by omega) (KK _ _ _ _ ls ⟨hag.2.2, by rw [h7]; exact kk_setTax hRel.2 z0 (xs (nI (i + 2)).toNatClampNeg)⟩ hI hS (lv_sub hl [2, 3, 4, 5, 6] rfl))
      refine lv_icmp_eq (tgt := 320) hx hb dL_law_315 (by decide) (fun c1 => ?_) (fun c1 => absurd (h8.trans hag.1) c1)
      refine lv_iload hx hb dL_law_320 (lv_at hl 1 rfl) ?_
      refine lv_if_ne (tgt := 337) hx hb dL_law_322 (by decide) (fun c2 => fin) (fun c2 => ?_)
      have h0 : r5 = 0 := c2
      refine lv_aload_n hx hb dL_law_325 rfl (lv_at hl 5 rfl) ?_
      refine lv_iconst (v := 0) hx hb dL_law_326 (by decide) ?_
      refine va_lald hx hb hL.2.2.2.2.2.1 hI.1 36 1 rfl rfl vp_01 dL_law_327 ?_
      have he : T 18 0 = r6 := (hag.2.1 h0).trans h6.symm
      refine lv_iload hx hb dL_law_328 (lv_at hl 0 rfl) ?_
      refine lv_i2l (v := r6.toInt64) hx hb dL_law_330 rfl ?_
      refine W.lcmp hx hb dL_law_331 ?_
      refine lv_if_eq (tgt := 337) hx hb dL_law_332 (by decide) (fun c3 => fin) (fun c3 => absurd (by rw [he]; exact lg_self _) c3)
    refine lv_aload_n hx hb dL_law_284 rfl (lv_at hl 1 rfl) ?_
    refine lv_iload hx hb dL_law_285 (lv_at hl 5 rfl) ?_
    refine lv_iconst (v := nI 1) hx hb dL_law_287 (by decide) ?_
    refine zAddN (a := i) (b := 1) hx hb dL_law_288 ?_
    refine va_sld hx hb hX hbl hbA hS (vp_in_nI (by omega) (by omega)) dL_law_289 ?_
    refine lv_if_eq (tgt := 297) hx hb dL_law_290 (by decide) (fun c1 => ?_) (fun c1 => ?_)
    · refine lv_iconst (v := 0) hx hb dL_law_297 (by decide) ?_
      exact tail2 0 (hz0.trans (if_pos c1)).symm
    · refine lv_iconst (v := 1) hx hb dL_law_293 (by decide) ?_
      refine lv_goto (tgt := 298) hx hb dL_law_294 (by decide) ?_
      exact tail2 1 (hz0.trans (if_neg c1)).symm
  refine lv_aload_n hx hb dL_law_257 rfl (lv_at hl 0 rfl) ?_
  refine lv_iload hx hb dL_law_258 (lv_at hl 4 rfl) ?_
  refine lv_iconst (v := nI 1) hx hb dL_law_260 (by decide) ?_
  refine zAddN (a := i) (b := 1) hx hb dL_law_261 ?_
  refine va_sld hx hb hX hbl hbA hS (vp_in_nI (by omega) (by omega)) dL_law_262 ?_
  refine lv_if_eq (tgt := 270) hx hb dL_law_263 (by decide) (fun c1 => ?_) (fun c1 => ?_)
  · refine lv_iconst (v := 0) hx hb dL_law_270 (by decide) ?_
    exact tail1 0 (if_pos c1).symm
  · refine lv_iconst (v := 1) hx hb dL_law_266 (by decide) ?_
    refine lv_goto (tgt := 271) hx hb dL_law_267 (by decide) ?_
    exact tail1 1 (if_neg c1).symm
set_option maxHeartbeats 1000000 in
set_option maxRecDepth 100000 in
theorem law_borrow {p : Program} {l : Launch} {e : Env} {s : State} {m : MethodId} {below : List Frame} {meth : Method} {c : Code} {Q : State → Prop} {dC : Nat → ClassId} {dI : Nat → Nat → Nat} {cyI cyZ cyJ cyB : ClassId} {aC aM : Nat → Nat} {b L i : Nat} {xs : Nat → Int32} (hlf : l.stackTraces = false) (cx : CallFix p m c cL_law 7 s #[Value.ref b] wsL_law RL) (hX : va_X b L xs s s.heap) (hbl : b < s.heap.size) (hL : LC (dC, dI) cyI cyZ cyJ cyB aC aM s) (hi : i + 3 ≤ L) (hLb : L ≤ 1536) {C M : zS} {H : Heap} {locs : List Loc} {ls : Array Slot} {cells slots : Nat} (hRel : RK C M) (hI : LI (dC, dI) cyI cyZ cyJ aC aM C M H) (hS : va_S (lA s) s.heap H locs) (hl : lv_has ls 7 [(0, .ref b), (1, .ref (aC 0)), (2, .ref (aM 0)), (3, .ref (aC 36)), (4, .int (nI i))]) (hcl : cells + 8 ≤ room_1.cells) (hsl : slots + 64 ≤ room_1.slots) (KK : law_KK p l e s m below meth c Q dC dI cyI cyZ cyJ aC aM b i cells slots) : W p l e room_1 s m #[Value.ref b] below meth c H locs cells slots Q (F0 m 340 ls []) := by
  obtain ⟨hx, hb, hml, hown, hts⟩ := id cx
  have hbA : ¬ lA s b := Nat.not_le.mpr hbl
  refine lv_aload_n hx hb dL_law_340 rfl (lv_at hl 1 rfl) ?_
  refine lv_aload_n hx hb dL_law_341 rfl (lv_at hl 0 rfl) ?_
  refine lv_iload hx hb dL_law_342 (lv_at hl 4 rfl) ?_
  refine lv_iconst (v := nI 1) hx hb dL_law_344 (by decide) ?_
  refine zAddN (a := i) (b := 1) hx hb dL_law_345 ?_
  refine va_sld hx hb hX hbl hbA hS (vp_in_nI (by omega) (by omega)) dL_law_346 ?_
  refine lv_aload_n hx hb dL_law_347 rfl (lv_at hl 3 rfl) ?_
  refine lawL (av := [.ref (aC 0), .int (xs (nI (i + 1)).toNatClampNeg), .ref (aC 36)]) (rest := []) 3 cx (c_L_borrow l dC dI cyI cyJ cyB aC hL.1 hlf C (xs (nI (i + 1)).toNatClampNeg)) gL_law_L_borrow rfl ⟨rfl, rfl⟩ (by decide +kernel) ⟨(Nat.le_of_ble_eq_true rfl), (Nat.le_of_ble_eq_true rfl)⟩ hL hI hS rfl hl.1 rfl (Nat.le_of_ble_eq_true rfl) dL_law_348 ⟨by omega, by omega⟩ (fun r5 T H locs hp hI hS => ?_)
  refine lv_istore (lv' := [(5, .int r5), (0, .ref b), (1, .ref (aC 0)), (2, .ref (aM 0)), (3, .ref (aC 36)), (4, .int (nI i))]) hx hb dL_law_351 hl (by decide) rfl (fun ls hl => ?_)
  refine lv_aload_n hx hb dL_law_353 rfl (lv_at hl 3 rfl) ?_
  refine lv_aload_n hx hb dL_law_354 rfl (lv_at hl 1 rfl) ?_
  refine lv_iload hx hb dL_law_355 (lv_at hl 5 rfl) ?_
  refine lv_iconst (v := nI 1) hx hb dL_law_357 (by decide) ?_
  refine zAddN (a := i) (b := 1) hx hb dL_law_358 ?_
  refine va_sld hx hb hX hbl hbA hS (vp_in_nI (by omega) (by omega)) dL_law_359 ?_
  refine lawM (As := [.int (xs (nI (i + 1)).toNatClampNeg)]) (rest := []) 1 cx (c_X7_borrow l dC dI cyI cyZ aM hL.2.1 M (xs (nI (i + 1)).toNatClampNeg)) gL_law_X7_borrow rfl ⟨rfl, rfl⟩ (by decide +kernel) ⟨(Nat.le_of_ble_eq_true rfl), (Nat.le_of_ble_eq_true rfl)⟩ hL hI hS rfl hl.1 rfl (Nat.le_of_ble_eq_true rfl) dL_law_360 ⟨by omega, by omega⟩ (fun r6 M1 H locs hm hI hS => ?_)
  obtain ⟨h6, h7⟩ := hm
  have hag := law_agree nfG hp (by rw [h7]; exact eq_borrowC hRel.1 (xs (nI (i + 1)).toNatClampNeg) : LR nG (t_X6_borrow C (xs (nI (i + 1)).toNatClampNeg)) (f_X6_borrow C (xs (nI (i + 1)).toNatClampNeg)) (f_X7_borrow M (xs (nI (i + 1)).toNatClampNeg)) C (g_X6_borrow C (xs (nI (i + 1)).toNatClampNeg)) M1)
  refine lv_istore (lv' := [(6, .int r6), (5, .int r5), (0, .ref b), (1, .ref (aC 0)), (2, .ref (aM 0)), (3, .ref (aC 36)), (4, .int (nI i))]) hx hb dL_law_363 hl (by decide) rfl (fun ls hl => ?_)
  refine lv_aload_n hx hb dL_law_365 rfl (lv_at hl 4 rfl) ?_
  refine lawM (As := []) (rest := []) 0 cx (c_X7_thrown l dC dI cyI cyZ aM hL.2.1 M1) gL_law_X7_thrown rfl ⟨rfl, rfl⟩ (by decide +kernel) ⟨(Nat.le_of_ble_eq_true rfl), (Nat.le_of_ble_eq_true rfl)⟩ hL hI hS rfl hl.1 rfl (Nat.le_of_ble_eq_true rfl) dL_law_366 ⟨by omega, by omega⟩ (fun r7 M2 H locs hm hI hS => ?_)
  obtain ⟨h8, h9⟩ := hm
  rw [h9] at hI
  refine lv_iload hx hb dL_law_369 (lv_at hl 1 rfl) ?_
  have fin : W p l e room_1 s m #[Value.ref b] below meth c H locs (cells + 4) (slots + 24) Q (F0 m 393 ls []) := by
    refine lv_goto (tgt := 1206) hx hb dL_law_393 (by decide) ?_
    exact W.widen (by omega) (by omega) (KK _ _ _ _ ls ⟨hag.2.2, by rw [h7]; exact kk_borrow hRel.2 (xs (nI (i + 1)).toNatClampNeg)⟩ hI hS (lv_sub hl [2, 3, 4, 5, 6] rfl))
  refine lv_icmp_eq (tgt := 376) hx hb dL_law_371 (by decide) (fun c1 => ?_) (fun c1 => absurd (h8.trans hag.1) c1)
  refine lv_iload hx hb dL_law_376 (lv_at hl 1 rfl) ?_
  refine lv_if_ne (tgt := 393) hx hb dL_law_378 (by decide) (fun c2 => fin) (fun c2 => ?_)
  have h0 : r5 = 0 := c2
  refine lv_aload_n hx hb dL_law_381 rfl (lv_at hl 5 rfl) ?_
  refine lv_iconst (v := 0) hx hb dL_law_382 (by decide) ?_
  refine va_lald hx hb hL.2.2.2.2.2.1 hI.1 36 1 rfl rfl vp_01 dL_law_383 ?_
  have he : T 18 0 = r6 := (hag.2.1 h0).trans h6.symm
  refine lv_iload hx hb dL_law_384 (lv_at hl 0 rfl) ?_
  refine lv_i2l (v := r6.toInt64) hx hb dL_law_386 rfl ?_
  refine W.lcmp hx hb dL_law_387 ?_
  refine lv_if_eq (tgt := 393) hx hb dL_law_388 (by decide) (fun c3 => fin) (fun c3 => absurd (by rw [he]; exact lg_self _) c3)
set_option maxHeartbeats 1000000 in
set_option maxRecDepth 100000 in
theorem law_repay {p : Program} {l : Launch} {e : Env} {s : State} {m : MethodId} {below : List Frame} {meth : Method} {c : Code} {Q : State → Prop} {dC : Nat → ClassId} {dI : Nat → Nat → Nat} {cyI cyZ cyJ cyB : ClassId} {aC aM : Nat → Nat} {b L i : Nat} {xs : Nat → Int32} (hlf : l.stackTraces = false) (cx : CallFix p m c cL_law 7 s #[Value.ref b] wsL_law RL) (hX : va_X b L xs s s.heap) (hbl : b < s.heap.size) (hL : LC (dC, dI) cyI cyZ cyJ cyB aC aM s) (hi : i + 3 ≤ L) (hLb : L ≤ 1536) {C M : zS} {H : Heap} {locs : List Loc} {ls : Array Slot} {cells slots : Nat} (hRel : RK C M) (hI : LI (dC, dI) cyI cyZ cyJ aC aM C M H) (hS : va_S (lA s) s.heap H locs) (hl : lv_has ls 7 [(0, .ref b), (1, .ref (aC 0)), (2, .ref (aM 0)), (3, .ref (aC 36)), (4, .int (nI i))]) (hcl : cells + 8 ≤ room_1.cells) (hsl : slots + 64 ≤ room_1.slots) (KK : law_KK p l e s m below meth c Q dC dI cyI cyZ cyJ aC aM b i cells slots) : W p l e room_1 s m #[Value.ref b] below meth c H locs cells slots Q (F0 m 396 ls []) := by
  obtain ⟨hx, hb, hml, hown, hts⟩ := id cx
  have hbA : ¬ lA s b := Nat.not_le.mpr hbl
  refine lv_aload_n hx hb dL_law_396 rfl (lv_at hl 1 rfl) ?_
  refine lv_aload_n hx hb dL_law_397 rfl (lv_at hl 0 rfl) ?_
  refine lv_iload hx hb dL_law_398 (lv_at hl 4 rfl) ?_
  refine lv_iconst (v := nI 1) hx hb dL_law_400 (by decide) ?_
  refine zAddN (a := i) (b := 1) hx hb dL_law_401 ?_
  refine va_sld hx hb hX hbl hbA hS (vp_in_nI (by omega) (by omega)) dL_law_402 ?_
  refine lv_aload_n hx hb dL_law_403 rfl (lv_at hl 3 rfl) ?_
  refine lawL (av := [.ref (aC 0), .int (xs (nI (i + 1)).toNatClampNeg), .ref (aC 36)]) (rest := []) 3 cx (c_L_repay l dC dI cyI cyJ cyB aC hL.1 hlf C (xs (nI (i + 1)).toNatClampNeg)) gL_law_L_repay rfl ⟨rfl, rfl⟩ (by decide +kernel) ⟨(Nat.le_of_ble_eq_true rfl), (Nat.le_of_ble_eq_true rfl)⟩ hL hI hS rfl hl.1 rfl (Nat.le_of_ble_eq_true rfl) dL_law_404 ⟨by omega, by omega⟩ (fun r5 T H locs hp hI hS => ?_)
  refine lv_istore (lv' := [(5, .int r5), (0, .ref b), (1, .ref (aC 0)), (2, .ref (aM 0)), (3, .ref (aC 36)), (4, .int (nI i))]) hx hb dL_law_407 hl (by decide) rfl (fun ls hl => ?_)
  refine lv_aload_n hx hb dL_law_409 rfl (lv_at hl 3 rfl) ?_
  refine lv_aload_n hx hb dL_law_410 rfl (lv_at hl 1 rfl) ?_
  refine lv_iload hx hb dL_law_411 (lv_at hl 5 rfl) ?_
  refine lv_iconst (v := nI 1) hx hb dL_law_413 (by decide) ?_
  refine zAddN (a := i) (b := 1) hx hb dL_law_414 ?_
  refine va_sld hx hb hX hbl hbA hS (vp_in_nI (by omega) (by omega)) dL_law_415 ?_
  refine lawM (As := [.int (xs (nI (i + 1)).toNatClampNeg)]) (rest := []) 1 cx (c_X7_repay l dC dI cyI cyZ aM hL.2.1 M (xs (nI (i + 1)).toNatClampNeg)) gL_law_X7_repay rfl ⟨rfl, rfl⟩ (by decide +kernel) ⟨(Nat.le_of_ble_eq_true rfl), (Nat.le_of_ble_eq_true rfl)⟩ hL hI hS rfl hl.1 rfl (Nat.le_of_ble_eq_true rfl) dL_law_416 ⟨by omega, by omega⟩ (fun r6 M1 H locs hm hI hS => ?_)
  obtain ⟨h6, h7⟩ := hm
  have hag := law_agree nfG hp (by rw [h7]; exact eq_repayC hRel.1 (xs (nI (i + 1)).toNatClampNeg) : LR nG (t_X6_repay C (xs (nI (i + 1)).toNatClampNeg)) (f_X6_repay C (xs (nI (i + 1)).toNatClampNeg)) (f_X7_repay M (xs (nI (i + 1)).toNatClampNeg)) C (g_X6_repay C (xs (nI (i + 1)).toNatClampNeg)) M1)
  refine lv_istore (lv' := [(6, .int r6), (5, .int r5), (0, .ref b), (1, .ref (aC 0)), (2, .ref (aM 0)), (3, .ref (aC 36)), (4, .int (nI i))]) hx hb dL_law_419 hl (by decide) rfl (fun ls hl => ?_)
  refine lv_aload_n hx hb dL_law_421 rfl (lv_at hl 4 rfl) ?_
  refine lawM (As := []) (rest := []) 0 cx (c_X7_thrown l dC dI cyI cyZ aM hL.2.1 M1) gL_law_X7_thrown rfl ⟨rfl, rfl⟩ (by decide +kernel) ⟨(Nat.le_of_ble_eq_true rfl), (Nat.le_of_ble_eq_true rfl)⟩ hL hI hS rfl hl.1 rfl (Nat.le_of_ble_eq_true rfl) dL_law_422 ⟨by omega, by omega⟩ (fun r7 M2 H locs hm hI hS => ?_)
  obtain ⟨h8, h9⟩ := hm
  rw [h9] at hI
  refine lv_iload hx hb dL_law_425 (lv_at hl 1 rfl) ?_
  have fin : W p l e room_1 s m #[Value.ref b] below meth c H locs (cells + 4) (slots + 24) Q (F0 m 449 ls []) := by
    refine lv_goto (tgt := 1206) hx hb dL_law_449 (by decide) ?_
    exact W.widen (by omega) (by omega) (KK _ _ _ _ ls ⟨hag.2.2, by rw [h7]; exact kk_repay hRel.2 (xs (nI (i + 1)).toNatClampNeg)⟩ hI hS (lv_sub hl [2, 3, 4, 5, 6] rfl))
  refine lv_icmp_eq (tgt := 432) hx hb dL_law_427 (by decide) (fun c1 => ?_) (fun c1 => absurd (h8.trans hag.1) c1)
  refine lv_iload hx hb dL_law_432 (lv_at hl 1 rfl) ?_
  refine lv_if_ne (tgt := 449) hx hb dL_law_434 (by decide) (fun c2 => fin) (fun c2 => ?_)
  have h0 : r5 = 0 := c2
  refine lv_aload_n hx hb dL_law_437 rfl (lv_at hl 5 rfl) ?_
  refine lv_iconst (v := 0) hx hb dL_law_438 (by decide) ?_
  refine va_lald hx hb hL.2.2.2.2.2.1 hI.1 36 1 rfl rfl vp_01 dL_law_439 ?_
  have he : T 18 0 = r6 := (hag.2.1 h0).trans h6.symm
  refine lv_iload hx hb dL_law_440 (lv_at hl 0 rfl) ?_
  refine lv_i2l (v := r6.toInt64) hx hb dL_law_442 rfl ?_
  refine W.lcmp hx hb dL_law_443 ?_
  refine lv_if_eq (tgt := 449) hx hb dL_law_444 (by decide) (fun c3 => fin) (fun c3 => absurd (by rw [he]; exact lg_self _) c3)
