theorem b12 : ∀ ch, ch < 128 → ((nI ch &&& 255).toUInt32 % 65536).toInt32 = nI ch := by decide +kernel
theorem b13 : ∀ ch, ch < 128 → narrow .char (.int (nI ch)) = .int (nI ch) := by decide +kernel
theorem b14 : ∀ ch, ch < 128 → fits .byte (.int (nI ch)) = true := by decide +kernel
theorem vaT_congr {ty : FieldType} {t N : Nat} {f g : Nat → Value} {A : Nat → Prop} {U : State} {H : Heap} (h : va_T ty t N f A U H) (e : ∀ j, j < N → f j = g j) : va_T ty t N g A U H := by
  obtain ⟨cell, h1, h2, h3, h4, h5, h6, h7⟩ := h
  exact ⟨cell, h1, h2, h3, h4, h5, fun j hj => by rw [← e j hj]; exact h6 j hj, h7⟩
theorem va_P_0 {D : va_G} {H : Heap} : va_P D vwCl [] H := fun k q h => by simp at h
theorem va_D_0 {A : Nat → Prop} : va_D A [] := ⟨fun i j p q h => by simp at h, fun k q h => by simp at h⟩
section JST
variable {l : Launch} {D : va_G} {tys : List (ClassId × FieldType)} {ad : Nat → Nat} {n : Nat} {X : (Nat → Prop) → State → Prop} {w : zS → va_W}
/-- how a method begins that may make cells -/
theorem jStart {Qm : Nat → Array Value → State → Outcome → State → Prop} {y : MethodName} {ws ws' : List Cond} {rm : Room} {av : List Value} {S : zS} {cc : ByteArray} {maxL mc ms : Nat} {ret : Option FieldType} (sz : Nat)
    (hy : plainName y.cls = true) (hw : ws = Cond.code y cc maxL ret :: ws') (hn : (lg_sl av).length ≤ maxL)
    (body : ∀ (p : Program) (e : Env) (s : State) (m : MethodId) (args : Array Value) (below : List Frame) (meth : Method) (c : Code) (ls : Array Slot), CallFix p m c cc maxL s args ws y.cls → meth.sig.returnType = ret → meth.locks = false → meth.name = y.name → va_P D vwCl (w S) s.heap → va_K D vwCl tys s → X (zA ad n s.heap.size) s → lv_has ls maxL (lv_args 0 av) →
      W p l e (headSpec ws rm).room s m args below meth c s.heap [] 0 0 (MQ below (Qm s.heap.size) args s mc ms (zA ad n s.heap.size)) (F0 m 0 ls [])) :
    Met l y ws rm (zPc D tys ad n X w av S sz) (Qm sz) mc ms (zA ad n sz) := by
  refine Met.ofW (cc := cc) (maxL := maxL) (ret := ret) hy hw ?_
  intro p e s m args below meth c s₁ B hml hv
  obtain ⟨rfl, hsz, hP, hK, hXs⟩ := hv
  subst hsz
  have hl := lv_entry av (n := maxL) hn
  have hts := atoms_spec (ws := ws) B.pre
  have hown : s.vm.findClass y.cls = some m.cls := findClass_of_methodNamed B.named
  rw [lg_entry_eq]
  exact body p e s m av.toArray below meth c _ ⟨B.exec, B.bytes, hml, hown, hts⟩ B.returns B.notSynchronized (name_of_methodNamed B.named B.method).1 hP hK hXs hl
end JST
set_option maxHeartbeats 1000000 in
set_option maxRecDepth 100000 in
theorem c_J7_checkLength_df160 (l : Launch) (dC : Nat → ClassId) (dI : Nat → Nat → Nat) {ad : Nat → Nat} {tys : List (ClassId × FieldType)} {n : Nat} {X : (Nat → Prop) → State → Prop} {w : zS → va_W} (S : zS) : zMv l (dC, dI) tys ad n X w yJ7_checkLength_df160 wsJ7_checkLength_df160 (rmk 0 0 0) [.int 0, .int (nI 2)] S (fun T => T = S) := by
  refine zStartV (by decide) rfl (Nat.le_of_ble_eq_true rfl) ?_
  intro p e s m args below meth c ls cx hrt hlk hP hK hXs hl
  have hl : lv_has ls 2 [(0, .int 0), (1, .int (nI 2))] := hl
  have hS : va_S (zA ad n s.heap.size) s.heap s.heap [] := va_S.rf
  refine lv_iload_n cx.1 cx.2.1 dJ7_checkLength_df160_0 rfl (lv_at hl 1 rfl) ?_
  refine lv_iload_n cx.1 cx.2.1 dJ7_checkLength_df160_1 rfl (lv_at hl 0 rfl) ?_
  refine lv_icmp_ge (tgt := 37) cx.1 cx.2.1 dJ7_checkLength_df160_2 (by decide) (fun c => ?_) (fun c => absurd (by decide) c)
  exact zRetV cx hrt hlk hS hP rfl dJ7_checkLength_df160_37
set_option maxHeartbeats 1000000 in
set_option maxRecDepth 100000 in
theorem c_J7_copyOfRangeByte_39247 (l : Launch) (dC : Nat → ClassId) (dI : Nat → Nat → Nat) (cyB : ClassId) (ad : Nat → Nat) (S : zS) (v : Nat) (f : Nat → Int32) (hf : ∀ j, j < 2 → fits .byte (.int (f j)) = true) : ∀ sz, Met l yJ7_copyOfRangeByte_39247 wsJ7_copyOfRangeByte_39247 (rmk 2 1 2) (zPc (dC, dI) [(cyB, .byte)] ad 0 (xV v 16 f) w0 [.ref v, .int 0, .int (nI 2)] S sz) ((fun sz => va_Qr (S := Nat → Int32) (fun g => ∀ j, j < 2 → g j = f j) (fun g a t => sz ≤ a ∧ va_P (dC, dI) vwCl [(a, .inl (cyB, 2, .inl g))] t.heap) (zA ad 0 sz)) sz) 1 2 (zA ad 0 sz) := by
  intro sz
  refine jStart (Qm := (fun sz => va_Qr (S := Nat → Int32) (fun g => ∀ j, j < 2 → g j = f j) (fun g a t => sz ≤ a ∧ va_P (dC, dI) vwCl [(a, .inl (cyB, 2, .inl g))] t.heap) (zA ad 0 sz))) sz (by decide) rfl (Nat.le_of_ble_eq_true rfl) ?_
  intro p e s m args below meth c ls cx hrt hlk hin hP hK hXs hl
  have hl : lv_has ls 5 [(0, .ref v), (1, .int 0), (2, .int (nI 2))] := hl
  have hS : va_S (zA ad 0 s.heap.size) s.heap s.heap [] := va_S.rf
  refine lv_iload_n cx.1 cx.2.1 dJ7_copyOfRangeByte_39247_0 rfl (lv_at hl 1 rfl) ?_
  refine lv_iload_n cx.1 cx.2.1 dJ7_copyOfRangeByte_39247_1 rfl (lv_at hl 2 rfl) ?_
  refine gThenV hS (gRunS (tys' := [(cyB, .byte)]) (ad' := ad) (X' := fun _ _ => True) (S := S) (As := [.int 0, .int (nI 2)]) (rest := []) (fun sz => zQv (dC, dI) w0 (fun T => T = S) (zA ad 0 sz)) 2 cx (c_J7_checkLength_df160 l dC dI S) gJ7_copyOfRangeByte_39247_J7_checkLength_df160 rfl ⟨rfl, rfl⟩ (by decide +kernel) ⟨(Nat.le_of_ble_eq_true rfl), (Nat.le_of_ble_eq_true rfl)⟩ zX_true (fun _ _ _ => trivial) hK rfl hl.1 rfl (Nat.le_of_ble_eq_true rfl) dJ7_copyOfRangeByte_39247_2 ⟨(Nat.le_of_ble_eq_true rfl), (Nat.le_of_ble_eq_true rfl)⟩) (fun T H locs _ hk hS => ?_)
  refine lv_iload_n cx.1 cx.2.1 dJ7_copyOfRangeByte_39247_5 rfl (lv_at hl 2 rfl) ?_
  refine lv_iload_n cx.1 cx.2.1 dJ7_copyOfRangeByte_39247_6 rfl (lv_at hl 1 rfl) ?_
  refine lv_isub cx.1 cx.2.1 dJ7_copyOfRangeByte_39247_7 ?_
  rw [show (nI 2 - 0 : Int32) = nI 2 by decide]
  refine lv_istore_n (lv' := [(3, .int (nI 2)), (0, .ref v), (1, .int 0), (2, .int (nI 2))]) cx.1 cx.2.1 dJ7_copyOfRangeByte_39247_8 rfl hl (by decide) rfl (fun ls hl => ?_)
  refine lv_iload_n cx.1 cx.2.1 dJ7_copyOfRangeByte_39247_9 rfl (lv_at hl 0 rfl) ?_
  refine va_newa (atype := .byte) (a0 := (2, .inl (fun _ => 0))) (N' := 2) cx.1 cx.2.1 (cx.2.2.2.2 (.arrayClass .byte) (by decide +kernel)) rfl hK va_P_0 va_D_0 hS (fun q h => Or.inr h) (fun _ => rfl) (by decide) (by decide) (Nat.le_of_ble_eq_true rfl) (Nat.le_of_ble_eq_true rfl) (Nat.le_of_ble_eq_true rfl) dJ7_copyOfRangeByte_39247_10 (fun q cA H hK2 hP hD hS => ?_)
  obtain rfl : cyB = cA := Option.some.inj ((va_nm_byte (hK2.2 0 _ rfl).2).symm.trans (va_nm_byte (hK2.2 1 _ rfl).2))
  have hP : va_P (dC, dI) vwCl [(q, .inl (cyB, 2, .inl (fun _ => 0)))] H := hP
  have hD : va_D (zA ad 0 s.heap.size) [(q, .inl (cyB, 2, .inl (fun _ => 0)))] := hD
  have hq0 : s.heap.size ≤ q := (hD.2 0 _ rfl).elim (fun ⟨k, hk, _⟩ => absurd hk (Nat.not_lt_zero k)) id
  refine lv_astore (lv' := [(4, .ref q), (3, .int (nI 2)), (0, .ref v), (1, .int 0), (2, .int (nI 2))]) cx.1 cx.2.1 dJ7_copyOfRangeByte_39247_12 hl (by decide) rfl (fun ls hl => ?_)
  refine lv_aload_n cx.1 cx.2.1 dJ7_copyOfRangeByte_39247_14 rfl (lv_at hl 2 rfl) ?_
  refine lv_iload_n cx.1 cx.2.1 dJ7_copyOfRangeByte_39247_15 rfl (lv_at hl 3 rfl) ?_
  refine lv_aload cx.1 cx.2.1 dJ7_copyOfRangeByte_39247_16 (lv_at hl 0 rfl) ?_
  refine lv_iconst (v := 0) cx.1 cx.2.1 dJ7_copyOfRangeByte_39247_18 (by decide) ?_
  refine lv_aload_n cx.1 cx.2.1 dJ7_copyOfRangeByte_39247_19 rfl (lv_at hl 2 rfl) ?_
  refine va_tlen cx.1 cx.2.1 hXs.2 hS (v := nI 16) rfl dJ7_copyOfRangeByte_39247_20 ?_
  refine lv_iload_n cx.1 cx.2.1 dJ7_copyOfRangeByte_39247_21 rfl (lv_at hl 3 rfl) ?_
  refine lv_isub cx.1 cx.2.1 dJ7_copyOfRangeByte_39247_22 ?_
  rw [show (nI 16 - 0 : Int32) = nI 16 by decide]
  refine lv_iload_n cx.1 cx.2.1 dJ7_copyOfRangeByte_39247_23 rfl (lv_at hl 1 rfl) ?_
  refine va_mmin cx.1 cx.2.1 (cx.2.2.1.trans hl.1.symm) cx.2.2.2.1 (cx.2.2.2.2 (.methodLink RJ7 304 Lib.Math.min.name) (by decide +kernel)) (cx.2.2.2.2 (.static Lib.Math.min.name) (by decide +kernel)) (cx.2.2.2.2 (.initialized "java/lang/Math") (by decide +kernel)) (cx.2.2.2.2 (.code Lib.Math.min.name Lib.Math.min.code 2 (some .int)) (by decide +kernel)) (Nat.le_of_ble_eq_true rfl) (Nat.le_of_ble_eq_true rfl) (Nat.le_of_ble_eq_true rfl) (Nat.le_of_ble_eq_true rfl) dJ7_copyOfRangeByte_39247_24 ?_
  rw [if_pos (show nI 2 < nI 16 by decide)]
  refine vk_copyt cx.1 cx.2.1 (cx.2.2.1.trans hl.1.symm) cx.2.2.2.1 (cx.2.2.2.2 (.methodLink RJ7 150 arraycopyName) (by decide +kernel)) (cx.2.2.2.2 (.native arraycopyName) (by decide +kernel)) (cx.2.2.2.2 (.static arraycopyName) (by decide +kernel)) (cx.2.2.2.2 (.initialized "java/lang/System") (by decide +kernel)) hK hP hD hS hXs.2 0 0 rfl rfl (by decide) (by decide) (by decide) (by decide) (by decide) (fun i hi => ?_) (Nat.le_of_ble_eq_true rfl) (Nat.le_of_ble_eq_true rfl) dJ7_copyOfRangeByte_39247_27 (fun H locs hP hD hS => ?_)
  · rw [sb_cl0, Nat.zero_add]
    exact hf i (by rw [nI_clamp (by decide)] at hi; exact hi)
  refine lv_aload cx.1 cx.2.1 dJ7_copyOfRangeByte_39247_30 (lv_at hl 0 rfl) ?_
  rw [sb_cl0, nI_clamp (n := 2) (by decide)] at hP
  refine W.aret cx.1 cx.2.1 hrt (Or.inr ⟨_, rfl⟩) (Or.inr ⟨q, rfl⟩) (fun t ht _ => ⟨⟨va_cpy f (fun _ => 0) 0 0 2, q, rfl, fun j hj => ?_, hq0, by rw [ht]; exact hP⟩, hS.F ht⟩) hS.2.2 dJ7_copyOfRangeByte_39247_32
  unfold va_cpy
  rw [if_pos ⟨Nat.zero_le _, by omega⟩]
  congr 1
  omega
set_option maxHeartbeats 1000000 in
set_option maxRecDepth 100000 in
theorem c_J7_copyOfRange_39247 (l : Launch) (dC : Nat → ClassId) (dI : Nat → Nat → Nat) (cyB : ClassId) (ad : Nat → Nat) (S : zS) (v : Nat) (f : Nat → Int32) (hf : ∀ j, j < 2 → fits .byte (.int (f j)) = true) : ∀ sz, Met l yJ7_copyOfRange_39247 wsJ7_copyOfRange_39247 (rmk 3 1 2) (zPc (dC, dI) [(cyB, .byte)] ad 0 (xV v 16 f) w0 [.ref v, .int 0, .int (nI 2)] S sz) ((fun sz => va_Qr (S := Nat → Int32) (fun g => ∀ j, j < 2 → g j = f j) (fun g a t => sz ≤ a ∧ va_P (dC, dI) vwCl [(a, .inl (cyB, 2, .inl g))] t.heap) (zA ad 0 sz)) sz) 1 2 (zA ad 0 sz) := by
  intro sz
  refine jStart (Qm := (fun sz => va_Qr (S := Nat → Int32) (fun g => ∀ j, j < 2 → g j = f j) (fun g a t => sz ≤ a ∧ va_P (dC, dI) vwCl [(a, .inl (cyB, 2, .inl g))] t.heap) (zA ad 0 sz))) sz (by decide) rfl (Nat.le_of_ble_eq_true rfl) ?_
  intro p e s m args below meth c ls cx hrt hlk hin hP hK hXs hl
  have hl : lv_has ls 3 [(0, .ref v), (1, .int 0), (2, .int (nI 2))] := hl
  have hS : va_S (zA ad 0 s.heap.size) s.heap s.heap [] := va_S.rf
  refine lv_iload_n cx.1 cx.2.1 dJ7_copyOfRange_39247_0 rfl (lv_at hl 1 rfl) ?_
  refine lv_if_ne (tgt := 10) cx.1 cx.2.1 dJ7_copyOfRange_39247_1 (by decide) (fun c => absurd rfl c) (fun c => ?_)
  refine lv_iload_n cx.1 cx.2.1 dJ7_copyOfRange_39247_4 rfl (lv_at hl 2 rfl) ?_
  refine lv_aload_n cx.1 cx.2.1 dJ7_copyOfRange_39247_5 rfl (lv_at hl 0 rfl) ?_
  refine va_tlen cx.1 cx.2.1 hXs.2 hS (v := nI 16) rfl dJ7_copyOfRange_39247_6 ?_
  refine lv_icmp_eq (tgt := 17) cx.1 cx.2.1 dJ7_copyOfRange_39247_7 (by decide) (fun c => absurd c (by decide)) (fun c => ?_)
  refine lv_aload_n cx.1 cx.2.1 dJ7_copyOfRange_39247_10 rfl (lv_at hl 0 rfl) ?_
  refine lv_iload_n cx.1 cx.2.1 dJ7_copyOfRange_39247_11 rfl (lv_at hl 1 rfl) ?_
  refine lv_iload_n cx.1 cx.2.1 dJ7_copyOfRange_39247_12 rfl (lv_at hl 2 rfl) ?_
  refine va_callr (gRunS (tys' := [(cyB, .byte)]) (ad' := ad) (X' := xV v 16 f) (S := S) (As := [.ref v, .int 0, .int (nI 2)]) (rest := []) (fun sz => va_Qr (S := Nat → Int32) (fun g => ∀ j, j < 2 → g j = f j) (fun g a t => sz ≤ a ∧ va_P (dC, dI) vwCl [(a, .inl (cyB, 2, .inl g))] t.heap) (zA ad 0 sz)) 3 cx (c_J7_copyOfRangeByte_39247 l dC dI cyB ad S v f hf) gJ7_copyOfRange_39247_J7_copyOfRangeByte_39247 rfl ⟨rfl, rfl⟩ (by decide +kernel) ⟨(Nat.le_of_ble_eq_true rfl), (Nat.le_of_ble_eq_true rfl)⟩ (xV_X v 16 f ad 0) (fun U hU hW => (xV_X v 16 f ad 0).1 s U _ _ hXs hU hW hS) hK rfl hl.1 rfl (Nat.le_of_ble_eq_true rfl) dJ7_copyOfRange_39247_13 ⟨(Nat.le_of_ble_eq_true rfl), (Nat.le_of_ble_eq_true rfl)⟩) hS (fun q _ h => zOld hS q h) (zOld hS) (fun gg ra t H locs ht hvm hg hB hz1 hk1 hS => ?_)
  rw [ht] at hB
  exact W.aret cx.1 cx.2.1 hrt (Or.inr ⟨_, rfl⟩) (Or.inr ⟨ra, rfl⟩) (fun t2 ht2 _ => ⟨⟨gg, ra, rfl, hg, hB.1, by rw [ht2]; exact hB.2⟩, hS.F ht2⟩) hS.2.2 dJ7_copyOfRange_39247_16
def w3 (cyB : ClassId) (ad : Nat → Nat) (S : zS) : va_W := bw cyB ad S ++ [(ad 2, .inr (0, [.null, .int 0, .int 0, .int 0]))]
theorem w3_W (cyB : ClassId) (ad : Nat → Nat) : zW ad 3 (w3 cyB ad) := fun _ => rfl
section J3
variable {p : Program} {l : Launch} {e : Env} {R : Room} {s : State} {m : MethodId} {args : Array Value} {below : List Frame} {meth : Method} {c : Code} {H : Heap} {locs : List Loc} {cells slots : Nat} {Q : State → Prop}
variable {D : va_G} {tys : List (ClassId × FieldType)} {ad : Nat → Nat} {cyB : ClassId} {S : zS} {pc : Nat} {ls : Array Slot} {st rest : List Value} {av : Array Value} {E : Nat × va_E} {f : Int32} {r : Nat}
theorem j3_in (hS : va_S (zA ad 3 s.heap.size) s.heap H locs) : ∀ q, zA ad 2 H.size q → zA ad 3 s.heap.size q := fun q h => h.elim (fun ⟨k, hk, e⟩ => Or.inl ⟨k, by omega, e⟩) (fun h => Or.inr (Nat.le_trans hS.1 h))
theorem j3_keep {H1 : Heap} {x : va_E} (hI : zI ad 3) (hP : va_P D vwCl [(ad 2, x)] H) (hk : ∀ q : Nat, q < H.size → ¬ zA ad 2 H.size q → H1[q]? = H[q]?) : va_P D vwCl [(ad 2, x)] H1 := by
  refine hP.kept (fun k q hq => ?_)
  have hlo : ad 2 < H.size := (hP 0 _ rfl).lt
  have e : q.1 = ad 2 := by
    match k, hq with
    | 0, hq => exact (congrArg Prod.fst (Option.some.inj hq)).symm
    | k + 1, hq => simp at hq
  rw [e]
  refine hk _ hlo ?_
  rintro (⟨k, hk, e⟩ | h)
  · have := hI 2 k (by decide) (by omega) e
    omega
  · omega
theorem j3_pre (hK : va_K D vwCl tys s) (hXs : xB (zA ad 3 s.heap.size) s) (hP : va_P D vwCl (bw cyB ad S) H) (hS : va_S (zA ad 3 s.heap.size) s.heap H locs) (av : List Value) : ∀ U : State, U.heap = H → s.WarmedH U.vm → zPc D tys ad 2 xB (bw cyB ad) av S H.size av.toArray U :=
  fun U hU hW => ⟨rfl, by rw [hU], by rw [hU]; exact hP, va_K.moved hW.alike hK, by
    show xJ (zA ad 2 H.size) U U.heap
    rw [hU]
    exact ((xJ.moved hW.alike hXs).kept hS.2.1).narrow (j3_in hS)⟩
theorem j3_I {x : va_E} (hI : zI ad 3) (hPA : va_P D vwCl [(ad 2, x)] H) (hS : va_S (zA ad 3 s.heap.size) s.heap H locs) (hr : va_Run p l e R s m args below meth c H locs cells slots 0 0 (F0 m pc ls st) rest (zQi D (bw cyB ad) (fun v T => v = f ∧ T = S) (zA ad 2 H.size) av) (zA ad 2 H.size))
    (kk : ∀ (H1 : Heap) (locs1 : List Loc), va_P D vwCl (bw cyB ad S) H1 → va_P D vwCl [(ad 2, x)] H1 → va_S (zA ad 3 s.heap.size) s.heap H1 locs1 → W p l e R s m args below meth c H1 locs1 cells slots Q (F0 m (pc + 3) ls (.int f :: rest))) : W p l e R s m args below meth c H locs cells slots Q (F0 m pc ls st) :=
  va_calli hr hS (fun q _ h => j3_in hS q h) (j3_in hS) (fun v T t H1 locs1 ht _ hw hB _ hk1 hS1 => by
    obtain ⟨h1, h2⟩ := hw
    rw [h1]
    refine kk H1 locs1 ?_ (j3_keep hI hPA hk1) hS1
    have h3 : va_P D vwCl (bw cyB ad T) t.heap := hB
    rw [ht, h2] at h3
    exact h3)
theorem j3_R {x : va_E} (hI : zI ad 3) (hPA : va_P D vwCl [(ad 2, x)] H) (hS : va_S (zA ad 3 s.heap.size) s.heap H locs) (hr : va_Run p l e R s m args below meth c H locs cells slots 0 0 (F0 m pc ls st) rest (va_Qr (fun T => T = S) (fun T a t => a = r ∧ va_P D vwCl (bw cyB ad T) t.heap) (zA ad 2 H.size) av) (zA ad 2 H.size))
    (kk : ∀ (H1 : Heap) (locs1 : List Loc), va_P D vwCl (bw cyB ad S) H1 → va_P D vwCl [(ad 2, x)] H1 → va_S (zA ad 3 s.heap.size) s.heap H1 locs1 → W p l e R s m args below meth c H1 locs1 cells slots Q (F0 m (pc + 3) ls (.ref r :: rest))) : W p l e R s m args below meth c H locs cells slots Q (F0 m pc ls st) :=
  va_callr hr hS (fun q _ h => j3_in hS q h) (j3_in hS) (fun T ra t H1 locs1 ht _ hw hB _ hk1 hS1 => by
    obtain ⟨h1, h2⟩ := hB
    rw [h1]
    refine kk H1 locs1 ?_ (j3_keep hI hPA hk1) hS1
    rw [ht, hw] at h2
    exact h2)
theorem va_D_ad {n : Nat} {sz : Nat} {w : zS → va_W} (hW : zW ad n w) (hI : zI ad n) (S : zS) : va_D (zA ad n sz) (w S) := zD hW hI S (fun _ h => zA_ad h)
end J3
theorem va_D_cons {ad : Nat → Nat} {n sz : Nat} {w : zS → va_W} {q : Nat × va_E} (hW : zW ad n w) (hI : zI ad n) (S : zS) (hne : ∀ k, k < n → ad k ≠ q.1) (hA : zA ad n sz q.1) : va_D (zA ad n sz) (w S ++ [q]) := by
  have hd := va_D_ad (sz := sz) hW hI S
  have hlen : (w S).length = n := by
    have h := congrArg List.length (hW S)
    rw [List.length_map, List.length_map, List.length_range] at h
    exact h
  have at' : ∀ (i : Nat) (x : Nat × va_E), (w S ++ [q])[i]? = some x → (i < n ∧ (w S)[i]? = some x ∧ x.1 = ad i) ∨ (i = n ∧ x = q) := by
    intro i x h
    rcases Nat.lt_or_ge i (w S).length with hl | hl
    · rw [List.getElem?_append_left hl] at h
      exact Or.inl ⟨by omega, h, (zW_at hW h).2⟩
    · rw [List.getElem?_append_right hl] at h
      have h1 : i - (w S).length < 1 := (List.getElem?_eq_some_iff.mp h).1
      rw [show i - (w S).length = 0 by omega] at h
      exact Or.inr ⟨by omega, (Option.some.inj h).symm⟩
  refine ⟨fun i j x y hx hy e => ?_, fun k x hx => ?_⟩
  · rcases at' i x hx with ⟨h1, h2, h3⟩ | ⟨h1, h2⟩
    · rcases at' j y hy with ⟨g1, g2, g3⟩ | ⟨g1, g2⟩
      · exact hd.1 i j x y h2 g2 e
      · exact absurd (by rw [← h3, e, g2]) (hne i h1)
    · rcases at' j y hy with ⟨g1, g2, g3⟩ | ⟨g1, g2⟩
      · exact absurd (by rw [← g3, ← e, h2]) (hne j g1)
      · rw [h1, g1]
  · rcases at' k x hx with ⟨h1, h2, h3⟩ | ⟨h1, h2⟩
    · exact hd.2 k x h2
    · rw [h2]
      exact hA
set_option maxHeartbeats 1000000 in
set_option maxRecDepth 100000 in
theorem c_J0_init_db425 (l : Launch) (dC : Nat → ClassId) (dI : Nat → Nat → Nat) (cyB : ClassId) (ad : Nat → Nat) (hI : zI ad 3) (S : zS) (hn : S 1 0 = nI 2) (hf : ∀ j, j < 2 → fits .byte (.int (S 0 j)) = true) : ∀ sz, Met l yJ0_init_db425 wsJ0_init_db425 (rmk 4 1 2) (zPc (dC, dI) [(cyB, .byte)] ad 3 xB (w3 cyB ad) [.ref (ad 2), .ref (ad 0), .null] S sz) ((fun sz => va_Qv (S := Unit) (fun _ => True) (fun _ t => xStr (ad 2) 2 (S 0) (fun q => t.heap.size ≤ q) t t.heap) (zA ad 3 sz)) sz) 1 2 (zA ad 3 sz) := by
  intro sz
  refine jStart (Qm := (fun sz => va_Qv (S := Unit) (fun _ => True) (fun _ t => xStr (ad 2) 2 (S 0) (fun q => t.heap.size ≤ q) t t.heap) (zA ad 3 sz))) sz (by decide) rfl (Nat.le_of_ble_eq_true rfl) ?_
  intro p e s m args below meth c ls cx hrt hlk hin hP hK hXs hl
  have hl : lv_has ls 5 [(0, .ref (ad 2)), (1, .ref (ad 0)), (2, .null)] := hl
  have hS : va_S (zA ad 3 s.heap.size) s.heap s.heap [] := va_S.rf
  have hinJ0 : ∀ w ∈ u_ws RJ0 TJ0 4, w ∈ wsJ0_init_db425 := by decide +kernel
  have hI2 : zI ad 2 := fun i j hi hj => hI i j (by omega) (by omega)
  have hPB : va_P (dC, dI) vwCl (bw cyB ad S) s.heap := hP.sub [0, 1] rfl
  have hPA : va_P (dC, dI) vwCl [(ad 2, .inr (0, [.null, .int 0, .int 0, .int 0]))] s.heap := hP.sub [2] rfl
  refine lv_aload_n cx.1 cx.2.1 dJ0_init_db425_0 rfl (lv_at hl 0 rfl) ?_
  refine W.objInit cx.1 cx.2.1 cx.2.2.2.1 (cx.2.2.2.2 (.methodLink RJ0 1 objectInit) (by decide +kernel)) (cx.2.2.2.2 (.instanceMethod objectInit) (by decide +kernel)) (cx.2.2.2.2 (.code objectInit ⟨#[0xb1]⟩ 1 none) (by decide +kernel)) rfl (hl.1.trans cx.2.2.1.symm) rfl dJ0_init_db425_1 (Nat.le_of_ble_eq_true rfl) (Nat.le_of_ble_eq_true rfl) ?_
  refine W.eq (g2 := F0 m 4 ls []) rfl ?_
  refine lv_aload_n cx.1 cx.2.1 dJ0_init_db425_4 rfl (lv_at hl 1 rfl) ?_
  refine j3_R hI hPA hS (va_runU (As := []) (rest := []) cx (c_J5_getValue_6d5f1 l dC dI cyB ad hI2 S s.heap.size) (va_cwU 0 cx.2.2.2.2 gJ0_init_db425_J5_getValue_6d5f1_u552J4 rfl rfl rfl rfl (by decide +kernel) ⟨(Nat.le_of_ble_eq_true rfl), (Nat.le_of_ble_eq_true rfl)⟩) ⟨zBlind (xB_X ad 2), va_recv (ci := 1) (q0 := 0) hK hPB rfl rfl, j3_pre hK hXs hPB hS _⟩ rfl rfl hl.1 rfl (lv_room (Nat.le_of_ble_eq_true rfl)) dJ0_init_db425_5 ⟨(Nat.le_of_ble_eq_true rfl), (Nat.le_of_ble_eq_true rfl)⟩) (fun H locs hPB hPA hS => ?_)
  refine lv_astore_n (lv' := [(3, .ref (ad 1)), (0, .ref (ad 2)), (1, .ref (ad 0)), (2, .null)]) cx.1 cx.2.1 dJ0_init_db425_8 rfl hl (by decide) rfl (fun ls hl => ?_)
  refine lv_aload_n cx.1 cx.2.1 dJ0_init_db425_9 rfl (lv_at hl 2 rfl) ?_
  refine j3_I hI hPA hS (va_runU (As := []) (rest := []) cx (c_J4_length_8abf5 l dC dI cyB ad hI2 S _) (va_cwO 0 cx.2.2.2.2 gJ0_init_db425_J4_length_8abf5_u549J4 rfl rfl rfl (b0 := cJ5_length_8abf5) (m0 := 1) (r0 := some .int) (by decide +kernel) (by decide +kernel) ⟨(Nat.le_of_ble_eq_true rfl), (Nat.le_of_ble_eq_true rfl)⟩) ⟨zBlind (xB_X ad 2), va_recv (ci := 1) (q0 := 0) hK hPB rfl rfl, j3_pre hK hXs hPB hS _⟩ rfl rfl hl.1 rfl (lv_room (Nat.le_of_ble_eq_true rfl)) dJ0_init_db425_10 ⟨(Nat.le_of_ble_eq_true rfl), (Nat.le_of_ble_eq_true rfl)⟩) (fun H locs hPB hPA hS => ?_)
  rw [hn]
  refine lv_istore (lv' := [(4, .int (nI 2)), (3, .ref (ad 1)), (0, .ref (ad 2)), (1, .ref (ad 0)), (2, .null)]) cx.1 cx.2.1 dJ0_init_db425_13 hl (by decide) rfl (fun ls hl => ?_)
  refine lv_aload_n cx.1 cx.2.1 dJ0_init_db425_15 rfl (lv_at hl 3 rfl) ?_
  refine j3_I hI hPA hS (va_runU (As := []) (rest := []) cx (c_J5_isLatin1_aae02 l dC dI cyB ad hI2 S _) (va_cwU 0 cx.2.2.2.2 gJ0_init_db425_J5_isLatin1_aae02_u1047J4 rfl rfl rfl rfl (by decide +kernel) ⟨(Nat.le_of_ble_eq_true rfl), (Nat.le_of_ble_eq_true rfl)⟩) ⟨zBlind (xB_X ad 2), va_recv (ci := 1) (q0 := 0) hK hPB rfl rfl, j3_pre hK hXs hPB hS _⟩ rfl rfl hl.1 rfl (lv_room (Nat.le_of_ble_eq_true rfl)) dJ0_init_db425_16 ⟨(Nat.le_of_ble_eq_true rfl), (Nat.le_of_ble_eq_true rfl)⟩) (fun H locs hPB hPA hS => ?_)
  refine lv_if_eq (tgt := 41) cx.1 cx.2.1 dJ0_init_db425_19 (by decide) (fun c => absurd c (by decide)) (fun c => ?_)
  refine lv_aload_n cx.1 cx.2.1 dJ0_init_db425_22 rfl (lv_at hl 2 rfl) ?_
  refine lv_iconst (v := 0) cx.1 cx.2.1 dJ0_init_db425_23 (by decide) ?_
  have hP3 : va_P (dC, dI) vwCl (w3 cyB ad S) H := hPB.app hPA
  have hD3 : va_D (zA ad 3 s.heap.size) (w3 cyB ad S) := va_D_ad (w3_W cyB ad) hI S
  refine va_putF (D := (dC, dI)) (ci := 0) (v := .int 0) (ty := .byte) (C := RJ0) (T := TJ0) (N := 4) cx.1 cx.2.1 cx.2.2.2.2 hinJ0 tyJ0 tyJ0_ok nmJ0 cx.2.2.2.1 hK hP3 hD3 hS 2 rfl rfl 1 (by decide) (cx.2.2.2.2 (.fieldLink RJ0 15 "java/lang/String" "coder" "B") (by decide +kernel)) (fun _ h9 => h9) rfl hin rfl (by decide +kernel) rfl rfl (Nat.le_of_ble_eq_true rfl) dJ0_init_db425_24 (fun H locs hP3 hD3 hS => ?_)
  have hP3 : va_P (dC, dI) vwCl (w3 cyB ad S) H := hP3
  have hP1 : va_P (dC, dI) vwCl [(ad 1, .inl (cyB, 16, .inl (S 0)))] H := hP3.sub [1] rfl
  have hlt : ad 1 < H.size := (hP1 0 _ rfl).lt
  refine lv_aload_n cx.1 cx.2.1 dJ0_init_db425_27 rfl (lv_at hl 2 rfl) ?_
  refine lv_aload_n cx.1 cx.2.1 dJ0_init_db425_28 rfl (lv_at hl 1 rfl) ?_
  refine lv_iconst (v := 0) cx.1 cx.2.1 dJ0_init_db425_29 (by decide) ?_
  refine lv_iload cx.1 cx.2.1 dJ0_init_db425_30 (lv_at hl 0 rfl) ?_
  have hSo := hS
  have hPo := hP3
  refine va_callr (gRunS (tys' := [(cyB, .byte)]) (ad' := ad) (X' := xV (ad 1) 16 (S 0)) (S := S) (As := [.ref (ad 1), .int 0, .int (nI 2)]) (rest := [.ref (ad 2)]) (fun sz => va_Qr (S := Nat → Int32) (fun g => ∀ j, j < 2 → g j = S 0 j) (fun g a t => sz ≤ a ∧ va_P (dC, dI) vwCl [(a, .inl (cyB, 2, .inl g))] t.heap) (zA ad 0 sz)) 3 cx (c_J7_copyOfRange_39247 l dC dI cyB ad S (ad 1) (S 0) hf) gJ0_init_db425_J7_copyOfRange_39247 rfl ⟨rfl, rfl⟩ (by decide +kernel) ⟨(Nat.le_of_ble_eq_true rfl), (Nat.le_of_ble_eq_true rfl)⟩ (xV_X (ad 1) 16 (S 0) ad 0) (fun U hU hW => ?_) hK rfl hl.1 rfl (Nat.le_of_ble_eq_true rfl) dJ0_init_db425_32 ⟨(Nat.le_of_ble_eq_true rfl), (Nat.le_of_ble_eq_true rfl)⟩) hS (fun q _ h => zOld hS q h) (zOld hS) (fun gg ra t H1 locs ht hvm hg hB hz1 hk1 hS => ?_)
  · refine ⟨?_, ?_⟩
    · show xJ (zA ad 0 H.size) U U.heap
      rw [hU]
      exact ((xJ.moved hW.alike hXs).kept hS.2.1).narrow (zOld hS)
    · rw [hU]
      exact va_T.moved hW.alike (vaT_of (t0 := 0) hK rfl hP1 (zNew hlt))
  obtain ⟨hra, hPq⟩ := hB
  rw [ht] at hPq
  have hP3 : va_P (dC, dI) vwCl (w3 cyB ad S) H1 := hP3.kept (fun k q hq => hk1 q.1 (hP3 k q hq).lt (zNew (hP3 k q hq).lt))
  have hP4 : va_P (dC, dI) vwCl (w3 cyB ad S ++ [(ra, .inl (cyB, 2, .inl gg))]) H1 := hP3.app hPq
  have hne : ∀ k, k < 3 → ad k ≠ ra := fun k hk e9 => by
    have h9 : ∃ x, (w3 cyB ad S)[k]? = some (ad k, x) := by rcases (show k = 0 ∨ k = 1 ∨ k = 2 by omega) with rfl | rfl | rfl <;> exact ⟨_, rfl⟩
    obtain ⟨x, hx⟩ := h9
    have := (hPo k _ hx).lt
    have h8 : ad k < H.size := this
    omega
  have hD4 : va_D (zA ad 3 s.heap.size) (w3 cyB ad S ++ [(ra, .inl (cyB, 2, .inl gg))]) := va_D_cons (w3_W cyB ad) hI S hne (Or.inr (Nat.le_trans hSo.1 hra))
  refine va_putF (D := (dC, dI)) (ci := 0) (v := .ref ra) (ty := .array .byte) (C := RJ0) (T := TJ0) (N := 4) cx.1 cx.2.1 cx.2.2.2.2 hinJ0 tyJ0 tyJ0_ok nmJ0 cx.2.2.2.1 hK hP4 hD4 hS 2 rfl rfl 0 (by decide) (cx.2.2.2.2 (.fieldLink RJ0 9 "java/lang/String" "value" "[B") (by decide +kernel)) (fun _ h9 => h9) rfl hin rfl (by decide +kernel) rfl rfl (Nat.le_of_ble_eq_true rfl) dJ0_init_db425_35 (fun H locs hP4 hD4 hS => ?_)
  refine lv_goto (tgt := 97) cx.1 cx.2.1 dJ0_init_db425_38 (by decide) ?_
  have hPa : va_P (dC, dI) vwCl [(ad 2, .inr (0, [.ref ra, .int 0, .int 0, .int 0]))] H := hP4.sub [2] rfl
  have hPb : va_P (dC, dI) vwCl [(ra, .inl (cyB, 2, .inl gg))] H := hP4.sub [3] rfl
  have hx9 : xStr (ad 2) 2 (S 0) (fun q => H.size ≤ q) s H := xStr_of cx.2.2.2.2 hinJ0 hK hPa (vaT_congr (vaT_of (t0 := 0) hK rfl hPb (Nat.not_le.mpr (hPb 0 _ rfl).lt)) (fun j hj => by rw [hg j hj])) (Nat.not_le.mpr (hPa 0 _ rfl).lt)
  exact W.vret cx.1 cx.2.1 hrt (fun t ht hW => ⟨⟨(), rfl, trivial, by show xStr _ _ _ _ t t.heap; rw [ht]; exact hx9.moved hW.alike⟩, hS.F ht⟩) hS.2.2 dJ0_init_db425_97
set_option maxHeartbeats 1000000 in
set_option maxRecDepth 100000 in
theorem c_J0_init_81219 (l : Launch) (dC : Nat → ClassId) (dI : Nat → Nat → Nat) (cyB : ClassId) (ad : Nat → Nat) (hI : zI ad 3) (S : zS) (hn : S 1 0 = nI 2) (hf : ∀ j, j < 2 → fits .byte (.int (S 0 j)) = true) : ∀ sz, Met l yJ0_init_81219 wsJ0_init_81219 (rmk 5 1 2) (zPc (dC, dI) [(cyB, .byte)] ad 3 xB (w3 cyB ad) [.ref (ad 2), .ref (ad 0)] S sz) ((fun sz => va_Qv (S := Unit) (fun _ => True) (fun _ t => xStr (ad 2) 2 (S 0) (fun q => t.heap.size ≤ q) t t.heap) (zA ad 3 sz)) sz) 1 2 (zA ad 3 sz) := by
  intro sz
  refine jStart (Qm := (fun sz => va_Qv (S := Unit) (fun _ => True) (fun _ t => xStr (ad 2) 2 (S 0) (fun q => t.heap.size ≤ q) t t.heap) (zA ad 3 sz))) sz (by decide) rfl (Nat.le_of_ble_eq_true rfl) ?_
  intro p e s m args below meth c ls cx hrt hlk hin hP hK hXs hl
  have hl : lv_has ls 2 [(0, .ref (ad 2)), (1, .ref (ad 0))] := hl
  have hS : va_S (zA ad 3 s.heap.size) s.heap s.heap [] := va_S.rf
  refine lv_aload_n cx.1 cx.2.1 dJ0_init_81219_0 rfl (lv_at hl 0 rfl) ?_
  refine lv_aload_n cx.1 cx.2.1 dJ0_init_81219_1 rfl (lv_at hl 1 rfl) ?_
  refine lv_null cx.1 cx.2.1 dJ0_init_81219_2 ?_
  refine va_callv (va_runI (As := [.ref (ad 0), .null]) (rest := []) cx (c_J0_init_db425 l dC dI cyB ad hI S hn hf s.heap.size) (cwI 2 cx.2.2.2.2 gJ0_init_81219_J0_init_db425 rfl rfl rfl (cx.2.2.2.2 (.initialized RJ0) (by decide +kernel)) (cx.2.2.2.2 (.methodLink RJ0 489 yJ0_init_db425) (by decide +kernel)) (cx.2.2.2.2 (.instanceMethod yJ0_init_db425) (by decide +kernel)) rfl (by decide +kernel) ⟨(Nat.le_of_ble_eq_true rfl), (Nat.le_of_ble_eq_true rfl)⟩) ⟨zBlind (xB_X ad 3), zPre (xB_X ad 3) hK hXs hP hS _⟩ rfl rfl hl.1 rfl (lv_room (Nat.le_of_ble_eq_true rfl)) dJ0_init_81219_3 ⟨(Nat.le_of_ble_eq_true rfl), (Nat.le_of_ble_eq_true rfl)⟩) hS (zHf hS).1 (zHf hS).2 (fun u t H locs ht hvm _ hB hz1 hk1 hS => ?_)
  rw [ht] at hB
  exact W.vret cx.1 cx.2.1 hrt (fun t2 ht2 hW => ⟨⟨(), rfl, trivial, by show xStr _ _ _ _ t2 t2.heap; rw [ht2]; exact (xStr.moved hvm.symm hB).moved hW.alike⟩, hS.F ht2⟩) hS.2.2 dJ0_init_81219_6
set_option maxHeartbeats 1000000 in
set_option maxRecDepth 100000 in
theorem c_J4_toString_0e30d (l : Launch) (dC : Nat → ClassId) (dI : Nat → Nat → Nat) (cyB : ClassId) (ad : Nat → Nat) (hI : zI ad 2) (S : zS) (hn : S 1 0 = nI 2) (hf : ∀ j, j < 2 → fits .byte (.int (S 0 j)) = true) : ∀ sz, Met l yJ4_toString_0e30d wsJ4_toString_0e30d (rmk 6 2 6) (zPc (dC, dI) [(cyB, .byte)] ad 2 xB (bw cyB ad) [.ref (ad 0)] S sz) ((fun sz => va_Qr (S := Unit) (fun _ => True) (fun _ a t => xStr a 2 (S 0) (fun q => t.heap.size ≤ q) t t.heap) (zA ad 2 sz)) sz) 2 6 (zA ad 2 sz) := by
  intro sz
  refine jStart (Qm := (fun sz => va_Qr (S := Unit) (fun _ => True) (fun _ a t => xStr a 2 (S 0) (fun q => t.heap.size ≤ q) t t.heap) (zA ad 2 sz))) sz (by decide) rfl (Nat.le_of_ble_eq_true rfl) ?_
  intro p e s m args below meth c ls cx hrt hlk hin hP hK hXs hl
  have hl : lv_has ls 1 [(0, .ref (ad 0))] := hl
  have hS : va_S (zA ad 2 s.heap.size) s.heap s.heap [] := va_S.rf
  have hinJ0 : ∀ w ∈ u_ws RJ0 TJ0 4, w ∈ wsJ4_toString_0e30d := by decide +kernel
  have hD : va_D (zA ad 2 s.heap.size) (bw cyB ad S) := va_D_ad (bw_W cyB ad) hI S
  refine va_new (ci := 0) (fs := [.null, .int 0, .int 0, .int 0]) (C := RJ0) (T := TJ0) (N := 4) cx.1 cx.2.1 cx.2.2.2.2 hinJ0 tyJ0 tyJ0_ok cx.2.2.2.1 (cx.2.2.2.2 (.classLink RJ4 18 RJ0) (by decide +kernel)) (cx.2.2.2.2 (.instantiable RJ0 4) (by decide +kernel)) (cx.2.2.2.2 (.initialized RJ0) (by decide +kernel)) hK hP hD hS (fun q h => Or.inr h) rfl (fun j hj => by rcases (show j = 0 ∨ j = 1 ∨ j = 2 ∨ j = 3 by omega) with rfl | rfl | rfl | rfl <;> rfl) (Nat.le_of_ble_eq_true rfl) (Nat.le_of_ble_eq_true rfl) dJ4_toString_0e30d_0 (fun a H hP hD hS => ?_)
  refine lv_dup cx.1 cx.2.1 dJ4_toString_0e30d_3 rfl ?_
  refine lv_aload_n cx.1 cx.2.1 dJ4_toString_0e30d_4 rfl (lv_at hl 0 rfl) ?_
  obtain ⟨ad3, had⟩ : ∃ ad3 : Nat → Nat, ad3 = fun k => if k = 2 then a else ad k := ⟨_, rfl⟩
  have e0 : ad3 0 = ad 0 := by rw [had]; rfl
  have e1 : ad3 1 = ad 1 := by rw [had]; rfl
  have e2 : ad3 2 = a := by rw [had]; rfl
  have hw : w3 cyB ad3 S = bw cyB ad S ++ [(a, .inr (0, [.null, .int 0, .int 0, .int 0]))] := by unfold w3 bw; rw [e0, e1, e2]
  have hI3 : zI ad3 3 := by
    have h9 : va_D (zA ad 2 s.heap.size) (w3 cyB ad3 S) := by rw [hw]; exact hD
    intro i j hi hj e9
    have hq : ∀ k, k < 3 → ∃ x, (w3 cyB ad3 S)[k]? = some (ad3 k, x) := fun k hk => by rcases (show k = 0 ∨ k = 1 ∨ k = 2 by omega) with rfl | rfl | rfl <;> exact ⟨_, rfl⟩
    obtain ⟨x, hx⟩ := hq i hi
    obtain ⟨y, hy⟩ := hq j hj
    exact h9.1 i j _ _ hx hy e9
  have hlt : ∀ k, k < 2 → ad3 k = ad k := fun k hk => by rw [had]; exact if_neg (by omega)
  have ha : s.heap.size ≤ a := (hD.2 2 _ rfl).elim (fun ⟨k, hk, e9⟩ => absurd (hI3 2 k (by decide) (by omega) (by rw [e2, hlt k hk]; exact e9)) (by omega)) id
  have hz3 : ∀ q, zA ad3 3 H.size q → zA ad 2 s.heap.size q := by
    rintro q (⟨k, hk, e9⟩ | h)
    · rcases (show k = 0 ∨ k = 1 ∨ k = 2 by omega) with rfl | rfl | rfl
      · exact Or.inl ⟨0, by decide, e9.trans e0⟩
      · exact Or.inl ⟨1, by decide, e9.trans e1⟩
      · exact Or.inr (by rw [e9, e2]; exact ha)
    · exact Or.inr (Nat.le_trans hS.1 h)
  have c3 := c_J0_init_81219 l dC dI cyB ad3 hI3 S hn hf
  rw [e2, e0] at c3
  refine va_callv (va_runI (b := a) (As := [.ref (ad 0)]) (rest := [.ref a]) cx (c3 H.size) (cwI 1 cx.2.2.2.2 gJ4_toString_0e30d_J0_init_81219 rfl rfl rfl (cx.2.2.2.2 (.initialized RJ0) (by decide +kernel)) (cx.2.2.2.2 (.methodLink RJ4 137 yJ0_init_81219) (by decide +kernel)) (cx.2.2.2.2 (.instanceMethod yJ0_init_81219) (by decide +kernel)) rfl (by decide +kernel) ⟨(Nat.le_of_ble_eq_true rfl), (Nat.le_of_ble_eq_true rfl)⟩) ⟨zBlind (xB_X ad3 3), fun U hU hW => ⟨rfl, by rw [hU], by rw [hU, hw]; exact hP, va_K.moved hW.alike hK, ?_⟩⟩ rfl rfl hl.1 rfl (lv_room (Nat.le_of_ble_eq_true rfl)) dJ4_toString_0e30d_5 ⟨(Nat.le_of_ble_eq_true rfl), (Nat.le_of_ble_eq_true rfl)⟩) hS (fun q _ h => hz3 q h) hz3 (fun u t H locs ht hvm _ hB hz1 hk1 hS => ?_)
  · show xJ (zA ad3 3 H.size) U U.heap
    rw [hU]
    exact ((xJ.moved hW.alike hXs).kept hS.2.1).narrow hz3
  rw [ht] at hB
  exact W.aret cx.1 cx.2.1 hrt (Or.inl ⟨_, rfl⟩) (Or.inr ⟨a, rfl⟩) (fun t2 ht2 hW => ⟨⟨(), a, rfl, trivial, by show xStr _ _ _ _ t2 t2.heap; rw [ht2]; exact (xStr.moved hvm.symm hB).moved hW.alike⟩, hS.F ht2⟩) hS.2.2 dJ4_toString_0e30d_8
