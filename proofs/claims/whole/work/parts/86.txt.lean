theorem b12 : ∀ ch, ch < 128 → ((nI ch &&& 255).toUInt32 % 65536).toInt32 = nI ch := by decide +kernel
theorem b13 : ∀ ch, ch < 128 → narrow .char (.int (nI ch)) = .int (nI ch) := by decide +kernel
theorem b14 : ∀ ch, ch < 128 → fits .byte (.int (nI ch)) = true := by decide +kernel
theorem vaT_congr {ty : FieldType} {t N : Nat} {f g : Nat → Value} {A : Nat → Prop} {U : State} {H : Heap} (h : va_T ty t N f A U H) (e : ∀ j, j < N → f j = g j) : va_T ty t N g A U H := by
  obtain ⟨cell, h1, h2, h3, h4, h5, h6, h7⟩ := h
  exact ⟨cell, h1, h2, h3, h4, h5, fun j hj => by rw [← e j hj]; exact h6 j hj, h7⟩
theorem va_P_0 {D : va_G} {H : Heap} : va_P D vwCl [] H := fun k q h => by simp at h
theorem va_D_0 {A : Nat → Prop} : va_D A [] := ⟨fun i j p q h => by simp at h, fun k q h => by simp at h⟩
section JST
variable {l : Launch} {D : va_G} {tys : List (ClassId × FieldType)} {ad : Nat → Nat} {n : Nat} {X : (Nat → Prop) → State → Prop} {w : zS → va_W}
/-- how a method begins that may make cells -/
theorem jStart {Qm : Nat → Array Value → State → Outcome → State → Prop} {y : MethodName} {ws ws' : List Cond} {rm : Room} {av : List Value} {S : zS} {cc : ByteArray} {maxL mc ms : Nat} {ret : Option FieldType} (sz : Nat)
    (hy : plainName y.cls = true) (hw : ws = Cond.code y cc maxL ret :: ws') (hn : (lg_sl av).length ≤ maxL)
    (body : ∀ (p : Program) (e : Env) (s : State) (m : MethodId) (args : Array Value) (below : List Frame) (meth : Method) (c : Code) (ls : Array Slot), CallFix p m c cc maxL s args ws y.cls → meth.sig.returnType = ret → meth.locks = false → meth.name = y.name → va_P D vwCl (w S) s.heap → va_K D vwCl tys s → X (zA ad n s.heap.size) s → lv_has ls maxL (lv_args 0 av) →
      W p l e (headSpec ws rm).room s m args below meth c s.heap [] 0 0 (MQ below (Qm s.heap.size) args s mc ms (zA ad n s.heap.size)) (F0 m 0 ls [])) :
    Met l y ws rm (zPc D tys ad n X w av S sz) (Qm sz) mc ms (zA ad n sz) := by
  refine Met.ofW (cc := cc) (maxL := maxL) (ret := ret) hy hw ?_
  intro p e s m args below meth c s₁ B hml hv
  obtain ⟨rfl, hsz, hP, hK, hXs⟩ := hv
  subst hsz
  have hl := lv_entry av (n := maxL) hn
  have hts := atoms_spec (ws := ws) B.pre
  have hown : s.vm.findClass y.cls = some m.cls := findClass_of_methodNamed B.named
  rw [lg_entry_eq]
  exact body p e s m av.toArray below meth c _ ⟨B.exec, B.bytes, hml, hown, hts⟩ B.returns B.notSynchronized (name_of_methodNamed B.named B.method).1 hP hK hXs hl
end JST
set_option maxHeartbeats 1000000 in
set_option maxRecDepth 100000 in
theorem c_J7_checkLength_df160 (l : Launch) (dC : Nat → ClassId) (dI : Nat → Nat → Nat) {ad : Nat → Nat} {tys : List (ClassId × FieldType)} {n : Nat} {X : (Nat → Prop) → State → Prop} {w : zS → va_W} (S : zS) : zMv l (dC, dI) tys ad n X w yJ7_checkLength_df160 wsJ7_checkLength_df160 (rmk 0 0 0) [.int 0, .int (nI 2)] S (fun T => T = S) := by
  refine zStartV (by decide) rfl (Nat.le_of_ble_eq_true rfl) ?_
  intro p e s m args below meth c ls cx hrt hlk hP hK hXs hl
  have hl : lv_has ls 2 [(0, .int 0), (1, .int (nI 2))] := hl
  have hS : va_S (zA ad n s.heap.size) s.heap s.heap [] := va_S.rf
  refine lv_iload_n cx.1 cx.2.1 dJ7_checkLength_df160_0 rfl (lv_at hl 1 rfl) ?_
  refine lv_iload_n cx.1 cx.2.1 dJ7_checkLength_df160_1 rfl (lv_at hl 0 rfl) ?_
  refine lv_icmp_ge (tgt := 37) cx.1 cx.2.1 dJ7_checkLength_df160_2 (by decide) (fun c => ?_) (fun c => absurd (by decide) c)
  exact zRetV cx hrt hlk hS hP rfl dJ7_checkLength_df160_37
set_option maxHeartbeats 1000000 in
set_option maxRecDepth 100000 in
theorem c_J7_copyOfRangeByte_39247 (l : Launch) (dC : Nat → ClassId) (dI : Nat → Nat → Nat) (cyB : ClassId) (ad : Nat → Nat) (S : zS) (v : Nat) (f : Nat → Int32) (hf : ∀ j, j < 2 → fits .byte (.int (f j)) = true) : ∀ sz, Met l yJ7_copyOfRangeByte_39247 wsJ7_copyOfRangeByte_39247 (rmk 2 1 2) (zPc (dC, dI) [(cyB, .byte)] ad 0 (xV v 16 f) w0 [.ref v, .int 0, .int (nI 2)] S sz) ((fun sz => va_Qr (S := Nat → Int32) (fun g => ∀ j, j < 2 → g j = f j) (fun g a t => sz ≤ a ∧ va_P (dC, dI) vwCl [(a, .inl (cyB, 2, .inl g))] t.heap) (zA ad 0 sz)) sz) 1 2 (zA ad 0 sz) := by
  intro sz
  refine jStart (Qm := (fun sz => va_Qr (S := Nat → Int32) (fun g => ∀ j, j < 2 → g j = f j) (fun g a t => sz ≤ a ∧ va_P (dC, dI) vwCl [(a, .inl (cyB, 2, .inl g))] t.heap) (zA ad 0 sz))) sz (by decide) rfl (Nat.le_of_ble_eq_true rfl) ?_
  intro p e s m args below meth c ls cx hrt hlk hin hP hK hXs hl
  have hl : lv_has ls 5 [(0, .ref v), (1, .int 0), (2, .int (nI 2))] := hl
  have hS : va_S (zA ad 0 s.heap.size) s.heap s.heap [] := va_S.rf
  refine lv_iload_n cx.1 cx.2.1 dJ7_copyOfRangeByte_39247_0 rfl (lv_at hl 1 rfl) ?_
  refine lv_iload_n cx.1 cx.2.1 dJ7_copyOfRangeByte_39247_1 rfl (lv_at hl 2 rfl) ?_
  refine gThenV hS (gRunS (tys' := [(cyB, .byte)]) (ad' := ad) (X' := fun _ _ => True) (S := S) (As := [.int 0, .int (nI 2)]) (rest := []) (fun sz => zQv (dC, dI) w0 (fun T => T = S) (zA ad 0 sz)) 2 cx (c_J7_checkLength_df160 l dC dI S) gJ7_copyOfRangeByte_39247_J7_checkLength_df160 rfl ⟨rfl, rfl⟩ (by decide +kernel) ⟨(Nat.le_of_ble_eq_true rfl), (Nat.le_of_ble_eq_true rfl)⟩ zX_true (fun _ _ _ => trivial) hK rfl hl.1 rfl (Nat.le_of_ble_eq_true rfl) dJ7_copyOfRangeByte_39247_2 ⟨(Nat.le_of_ble_eq_true rfl), (Nat.le_of_ble_eq_true rfl)⟩) (fun T H locs _ hk hS => ?_)
  refine lv_iload_n cx.1 cx.2.1 dJ7_copyOfRangeByte_39247_5 rfl (lv_at hl 2 rfl) ?_
  refine lv_iload_n cx.1 cx.2.1 dJ7_copyOfRangeByte_39247_6 rfl (lv_at hl 1 rfl) ?_
  refine lv_isub cx.1 cx.2.1 dJ7_copyOfRangeByte_39247_7 ?_
  rw [show (nI 2 - 0 : Int32) = nI 2 by decide]
  refine lv_istore_n (lv' := [(3, .int (nI 2)), (0, .ref v), (1, .int 0), (2, .int (nI 2))]) cx.1 cx.2.1 dJ7_copyOfRangeByte_39247_8 rfl hl (by decide) rfl (fun ls hl => ?_)
  refine lv_iload_n cx.1 cx.2.1 dJ7_copyOfRangeByte_39247_9 rfl (lv_at hl 0 rfl) ?_
  refine va_newa (atype := .byte) (a0 := (2, .inl (fun _ => 0))) (N' := 2) cx.1 cx.2.1 (cx.2.2.2.2 (.arrayClass .byte) (by decide +kernel)) rfl hK va_P_0 va_D_0 hS (fun q h => Or.inr h) (fun _ => rfl) (by decide) (by decide) (Nat.le_of_ble_eq_true rfl) (Nat.le_of_ble_eq_true rfl) (Nat.le_of_ble_eq_true rfl) dJ7_copyOfRangeByte_39247_10 (fun q cA H hK2 hP hD hS => ?_)
  obtain rfl : cyB = cA := Option.some.inj ((va_nm_byte (hK2.2 0 _ rfl).2).symm.trans (va_nm_byte (hK2.2 1 _ rfl).2))
  have hP : va_P (dC, dI) vwCl [(q, .inl (cyB, 2, .inl (fun _ => 0)))] H := hP
  have hD : va_D (zA ad 0 s.heap.size) [(q, .inl (cyB, 2, .inl (fun _ => 0)))] := hD
  have hq0 : s.heap.size ≤ q := (hD.2 0 _ rfl).elim (fun ⟨k, hk, _⟩ => absurd hk (Nat.not_lt_zero k)) id
  refine lv_astore (lv' := [(4, .ref q), (3, .int (nI 2)), (0, .ref v), (1, .int 0), (2, .int (nI 2))]) cx.1 cx.2.1 dJ7_copyOfRangeByte_39247_12 hl (by decide) rfl (fun ls hl => ?_)
  refine lv_aload_n cx.1 cx.2.1 dJ7_copyOfRangeByte_39247_14 rfl (lv_at hl 2 rfl) ?_
  refine lv_iload_n cx.1 cx.2.1 dJ7_copyOfRangeByte_39247_15 rfl (lv_at hl 3 rfl) ?_
  refine lv_aload cx.1 cx.2.1 dJ7_copyOfRangeByte_39247_16 (lv_at hl 0 rfl) ?_
  refine lv_iconst (v := 0) cx.1 cx.2.1 dJ7_copyOfRangeByte_39247_18 (by decide) ?_
  refine lv_aload_n cx.1 cx.2.1 dJ7_copyOfRangeByte_39247_19 rfl (lv_at hl 2 rfl) ?_
  refine va_tlen cx.1 cx.2.1 hXs.2 hS (v := nI 16) rfl dJ7_copyOfRangeByte_39247_20 ?_
  refine lv_iload_n cx.1 cx.2.1 dJ7_copyOfRangeByte_39247_21 rfl (lv_at hl 3 rfl) ?_
  refine lv_isub cx.1 cx.2.1 dJ7_copyOfRangeByte_39247_22 ?_
  rw [show (nI 16 - 0 : Int32) = nI 16 by decide]
  refine lv_iload_n cx.1 cx.2.1 dJ7_copyOfRangeByte_39247_23 rfl (lv_at hl 1 rfl) ?_
  refine va_mmin cx.1 cx.2.1 (cx.2.2.1.trans hl.1.symm) cx.2.2.2.1 (cx.2.2.2.2 (.methodLink RJ7 304 Lib.Math.min.name) (by decide +kernel)) (cx.2.2.2.2 (.static Lib.Math.min.name) (by decide +kernel)) (cx.2.2.2.2 (.initialized "java/lang/Math") (by decide +kernel)) (cx.2.2.2.2 (.code Lib.Math.min.name Lib.Math.min.code 2 (some .int)) (by decide +kernel)) (Nat.le_of_ble_eq_true rfl) (Nat.le_of_ble_eq_true rfl) (Nat.le_of_ble_eq_true rfl) (Nat.le_of_ble_eq_true rfl) dJ7_copyOfRangeByte_39247_24 ?_
  rw [if_pos (show nI 2 < nI 16 by decide)]
  refine vk_copyt cx.1 cx.2.1 (cx.2.2.1.trans hl.1.symm) cx.2.2.2.1 (cx.2.2.2.2 (.methodLink RJ7 150 arraycopyName) (by decide +kernel)) (cx.2.2.2.2 (.native arraycopyName) (by decide +kernel)) (cx.2.2.2.2 (.static arraycopyName) (by decide +kernel)) (cx.2.2.2.2 (.initialized "java/lang/System") (by decide +kernel)) hK hP hD hS hXs.2 0 0 rfl rfl (by decide) (by decide) (by decide) (by decide) (by decide) (fun i hi => ?_) (Nat.le_of_ble_eq_true rfl) (Nat.le_of_ble_eq_true rfl) dJ7_copyOfRangeByte_39247_27 (fun H locs hP hD hS => ?_)
  · rw [sb_cl0, Nat.zero_add]
    exact hf i (by rw [nI_clamp (by decide)] at hi; exact hi)
  refine lv_aload cx.1 cx.2.1 dJ7_copyOfRangeByte_39247_30 (lv_at hl 0 rfl) ?_
  rw [sb_cl0, nI_clamp (n := 2) (by decide)] at hP
  refine W.aret cx.1 cx.2.1 hrt (Or.inr ⟨_, rfl⟩) (Or.inr ⟨q, rfl⟩) (fun t ht _ => ⟨⟨va_cpy f (fun _ => 0) 0 0 2, q, rfl, fun j hj => ?_, hq0, by rw [ht]; exact hP⟩, hS.F ht⟩) hS.2.2 dJ7_copyOfRangeByte_39247_32
  unfold va_cpy
  rw [if_pos ⟨Nat.zero_le _, by omega⟩]
  congr 1
  omega
set_option maxHeartbeats 1000000 in
set_option maxRecDepth 100000 in
theorem c_J7_copyOfRange_39247 (l : Launch) (dC : Nat → ClassId) (dI : Nat → Nat → Nat) (cyB : ClassId) (ad : Nat → Nat) (S : zS) (v : Nat) (f : Nat → Int32) (hf : ∀ j, j < 2 → fits .byte (.int (f j)) = true) : ∀ sz, Met l yJ7_copyOfRange_39247 wsJ7_copyOfRange_39247 (rmk 3 1 2) (zPc (dC, dI) [(cyB, .byte)] ad 0 (xV v 16 f) w0 [.ref v, .int 0, .int (nI 2)] S sz) ((fun sz => va_Qr (S := Nat → Int32) (fun g => ∀ j, j < 2 → g j = f j) (fun g a t => sz ≤ a ∧ va_P (dC, dI) vwCl [(a, .inl (cyB, 2, .inl g))] t.heap) (zA ad 0 sz)) sz) 1 2 (zA ad 0 sz) := by
  intro sz
  refine jStart (Qm := (fun sz => va_Qr (S := Nat → Int32) (fun g => ∀ j, j < 2 → g j = f j) (fun g a t => sz ≤ a ∧ va_P (dC, dI) vwCl [(a, .inl (cyB, 2, .inl g))] t.heap) (zA ad 0 sz))) sz (by decide) rfl (Nat.le_of_ble_eq_true rfl) ?_
  intro p e s m args below meth c ls cx hrt hlk hin hP hK hXs hl
  have hl : lv_has ls 3 [(0, .ref v), (1, .int 0), (2, .int (nI 2))] := hl
  have hS : va_S (zA ad 0 s.heap.size) s.heap s.heap [] := va_S.rf
  refine lv_iload_n cx.1 cx.2.1 dJ7_copyOfRange_39247_0 rfl (lv_at hl 1 rfl) ?_
  refine lv_if_ne (tgt := 10) cx.1 cx.2.1 dJ7_copyOfRange_39247_1 (by decide) (fun c => absurd rfl c) (fun c => ?_)
  refine lv_iload_n cx.1 cx.2.1 dJ7_copyOfRange_39247_4 rfl (lv_at hl 2 rfl) ?_
  refine lv_aload_n cx.1 cx.2.1 dJ7_copyOfRange_39247_5 rfl (lv_at hl 0 rfl) ?_
  refine va_tlen cx.1 cx.2.1 hXs.2 hS (v := nI 16) rfl dJ7_copyOfRange_39247_6 ?_
  refine lv_icmp_eq (tgt := 17) cx.1 cx.2.1 dJ7_copyOfRange_39247_7 (by decide) (fun c => absurd c (by decide)) (fun c => ?_)
  refine lv_aload_n cx.1 cx.2.1 dJ7_copyOfRange_39247_10 rfl (lv_at hl 0 rfl) ?_
  refine lv_iload_n cx.1 cx.2.1 dJ7_copyOfRange_39247_11 rfl (lv_at hl 1 rfl) ?_
  refine lv_iload_n cx.1 cx.2.1 dJ7_copyOfRange_39247_12 rfl (lv_at hl 2 rfl) ?_
  refine va_callr (gRunS (tys' := [(cyB, .byte)]) (ad' := ad) (X' := xV v 16 f) (S := S) (As := [.ref v, .int 0, .int (nI 2)]) (rest := []) (fun sz => va_Qr (S := Nat → Int32) (fun g => ∀ j, j < 2 → g j = f j) (fun g a t => sz ≤ a ∧ va_P (dC, dI) vwCl [(a, .inl (cyB, 2, .inl g))] t.heap) (zA ad 0 sz)) 3 cx (c_J7_copyOfRangeByte_39247 l dC dI cyB ad S v f hf) gJ7_copyOfRange_39247_J7_copyOfRangeByte_39247 rfl ⟨rfl, rfl⟩ (by decide +kernel) ⟨(Nat.le_of_ble_eq_true rfl), (Nat.le_of_ble_eq_true rfl)⟩ (xV_X v 16 f ad 0) (fun U hU hW => (xV_X v 16 f ad 0).1 s U _ _ hXs hU hW hS) hK rfl hl.1 rfl (Nat.le_of_ble_eq_true rfl) dJ7_copyOfRange_39247_13 ⟨(Nat.le_of_ble_eq_true rfl), (Nat.le_of_ble_eq_true rfl)⟩) hS (fun q _ h => zOld hS q h) (zOld hS) (fun gg ra t H locs ht hvm hg hB hz1 hk1 hS => ?_)
  rw [ht] at hB
  exact W.aret cx.1 cx.2.1 hrt (Or.inr ⟨_, rfl⟩) (Or.inr ⟨ra, rfl⟩) (fun t2 ht2 _ => ⟨⟨gg, ra, rfl, hg, hB.1, by rw [ht2]; exact hB.2⟩, hS.F ht2⟩) hS.2.2 dJ7_copyOfRange_39247_16
