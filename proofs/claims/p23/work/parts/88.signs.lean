/-! sign: it throws, or answers a letter of the cell's text -/
def chOK (L : List Int32) : Bool := L.all (fun x => (List.range 128).any (fun ch => x == nI ch))
theorem chOK_at {L : List Int32} (h : chOK L = true) (j : Nat) : ∃ ch, ch < 128 ∧ L.getD j 0 = nI ch := by
  rw [List.getD_eq_getElem?_getD]
  cases hj : L[j]? with
  | none => exact ⟨0, by decide, rfl⟩
  | some x =>
    have hx := List.all_eq_true.mp h x (List.mem_of_getElem? hj)
    obtain ⟨ch, h1, h2⟩ := List.any_eq_true.mp hx
    exact ⟨ch, List.mem_range.mp h1, eq_of_beq h2⟩
theorem ch_t2 : ∀ d, d < 4 → chOK (textL 2 (nI d)) = true := by decide +kernel
theorem ch_t3 : ∀ d, d < 4 → chOK (textL 3 (nI d)) = true := by decide +kernel
theorem chOK_text (v : Int32) (d : Nat) (hd : d < 4) : chOK (textL v (nI d)) = true := by
  rcases pk_ix v (show 7 < 2 ^ 31 by decide) with h | h | ⟨j, hj, rfl⟩
  · rw [tx_out (Or.inl h)]
    decide +kernel
  · rw [tx_out (Or.inr (Or.inl h))]
    decide +kernel
  rcases (show j = 0 ∨ j = 1 ∨ j = 2 ∨ j = 3 ∨ j = 4 ∨ j = 5 ∨ j = 6 by omega) with rfl | rfl | rfl | rfl | rfl | rfl | rfl
  · exact (show chOK [46] = true by decide +kernel)
  · exact (show chOK [35] = true by decide +kernel)
  · exact ch_t2 d hd
  · exact ch_t3 d hd
  · exact (show chOK [112, 97, 114, 107] = true by decide +kernel)
  · exact (show chOK [112, 111, 119, 101, 114] = true by decide +kernel)
  · exact (show chOK [119, 97, 116, 101, 114] = true by decide +kernel)
theorem lv_lt4 {S : zS} {x : Int32} (hlv : lvOK (S 1)) (h : t_X6_requireCell x = none) : ∃ d, d < 4 ∧ rg 64 (S 1) x = nI d := by
  rcases cell_c x with ⟨k, hk, rfl, -, -⟩ | ⟨h1, -⟩
  · rw [rg_nI hk (by decide)]
    rcases hlv k hk with z | z | z | z
    · exact ⟨0, by decide, z⟩
    · exact ⟨1, by decide, z⟩
    · exact ⟨2, by decide, z⟩
    · exact ⟨3, by decide, z⟩
  · rw [h] at h1
    cases h1
section XSG
variable {l : Launch} {D : va_G} {tys : List (ClassId × FieldType)} {ad : Nat → Nat} {n : Nat} {X : (Nat → Prop) → State → Prop} {w : zS → va_W}
theorem sgStart {Qm : Nat → Array Value → State → Outcome → State → Prop} {Xm : Nat → String → State → State → Prop} {y : MethodName} {ws ws' : List Cond} {rm : Room} {av : List Value} {S : zS} {cc : ByteArray} {maxL mc ms : Nat} {ret : Option FieldType} (sz : Nat)
    (hy : plainName y.cls = true) (hw : ws = Cond.code y cc maxL ret :: ws') (hn : (lg_sl av).length ≤ maxL)
    (body : ∀ (p : Program) (e : Env) (s : State) (m : MethodId) (args : Array Value) (below : List Frame) (meth : Method) (c : Code) (ls : Array Slot), CallFix p m c cc maxL s args ws y.cls → meth.sig.returnType = ret → meth.locks = false → (∀ x ∈ c.exceptionTable.toList, False) → va_P D vwCl (w S) s.heap → va_K D vwCl tys s → X (zA ad n s.heap.size) s → lv_has ls maxL (lv_args 0 av) →
      W p l e (headSpec ws rm).room s m args below meth c s.heap [] 0 0 (vx_MQ below (Qm s.heap.size) (Xm s.heap.size) args s mc ms (zA ad n s.heap.size)) (F0 m 0 ls [])) :
    vx_Met l y ws rm (zPc D tys ad n X w av S sz) (Qm sz) (Xm sz) mc ms (zA ad n sz) := by
  refine vx_ofW (cc := cc) (maxL := maxL) (ret := ret) hy hw ?_
  intro p e s m args below meth c s₁ B hml hex hv
  obtain ⟨rfl, hsz, hP, hK, hXs⟩ := hv
  subst hsz
  have hl := lv_entry av (n := maxL) hn
  have hts := atoms_spec (ws := ws) B.pre
  have hown : s.vm.findClass y.cls = some m.cls := findClass_of_methodNamed B.named
  rw [lg_entry_eq]
  exact body p e s m av.toArray below meth c _ ⟨B.exec, B.bytes, hml, hown, hts⟩ B.returns B.notSynchronized hex hP hK hXs hl
end XSG
set_option maxHeartbeats 4000000 in
set_option maxRecDepth 100000 in
theorem c_X6_sign (l : Launch) (dC : Nat → ClassId) (dI : Nat → Nat → Nat) (cyI cyB : ClassId) (ad : Nat → Nat) (hI : zI ad 36) (hlf : l.stackTraces = false) (S : zS) (x0 x1 : Int32) (hlv : lvOK (S 1)) : ∀ sz, vx_Met l yX6_sign wsX6_sign ({ frames := 12, cells := 8, slots := 64, locals := 400 } : Room) (zPc (dC, dI) [(cyI, .int), (cyB, .byte)] ad 36 xS (cw cyI ad) [.ref (ad 0), .int x0, .int x1] S sz) (zQi (dC, dI) (cw cyI ad) (fun v T => v = f_X6_sign S x0 x1 ∧ T = S ∧ t_X6_sign S x0 x1 = none) (zA ad 36 sz)) (xXC (dC, dI) (cw cyI ad) S (t_X6_sign S x0 x1) (zA ad 36 sz)) 8 64 (zA ad 36 sz) := by
  intro sz
  refine sgStart (Qm := fun sz => zQi (dC, dI) (cw cyI ad) (fun v T => v = f_X6_sign S x0 x1 ∧ T = S ∧ t_X6_sign S x0 x1 = none) (zA ad 36 sz)) (Xm := fun sz => xXC (dC, dI) (cw cyI ad) S (t_X6_sign S x0 x1) (zA ad 36 sz)) sz (by decide) rfl (Nat.le_of_ble_eq_true rfl) ?_
  intro p e s m args below meth c ls cx hrt hlk hex hP hK hXs hl
  have hl : lv_has ls 4 [(0, .ref (ad 0)), (1, .int x0), (2, .int x1)] := hl
  have hS : va_S (zA ad 36 s.heap.size) s.heap s.heap [] := va_S.rf
  have hinX6 : ∀ w ∈ u_ws RX6 TX6 5, w ∈ wsX6_sign := by decide +kernel
  have hKI : va_K (dC, dI) vwCl [(cyI, .int)] s := hK.sub [0] rfl
  have hKB : va_K (dC, dI) vwCl [(cyB, .byte)] s := hK.sub [1] rfl
  refine lv_iload_n cx.1 cx.2.1 dX6_sign_0 rfl (lv_at hl 1 rfl) ?_
  refine xThenV hex hlk hS ⟨Nat.le_of_ble_eq_true rfl, Nat.le_of_ble_eq_true rfl⟩ (fun E h => by unfold t_X6_sign; exact tOr_s h) (xRunS (As := [.int x0]) (rest := []) _ _ 1 cx (c_X6_requireCell l dC dI cyI ad hI hlf S x0) gX6_sign_X6_requireCell rfl ⟨rfl, rfl⟩ (by decide +kernel) ⟨Nat.le_of_ble_eq_true rfl, Nat.le_of_ble_eq_true rfl⟩ hXs.1 hKI hP hS rfl hl.1 rfl (Nat.le_of_ble_eq_true rfl) dX6_sign_1 ⟨Nat.le_of_ble_eq_true rfl, Nat.le_of_ble_eq_true rfl⟩) (fun T2 H locs hp hP hS => ?_)
  obtain ⟨hT2, t1⟩ := hp
  rw [hT2] at hP
  obtain ⟨d, hd4, hd⟩ := lv_lt4 hlv t1
  refine lv_aload_n cx.1 cx.2.1 dX6_sign_4 rfl (lv_at hl 0 rfl) ?_
  refine zGet (v := .ref (ad 1)) (own := RX6) cx hinX6 hKI hP 0 rfl rfl 0 (by decide) (by decide +kernel) rfl rfl dX6_sign_5 ?_
  refine lv_iload_n cx.1 cx.2.1 dX6_sign_8 rfl (lv_at hl 1 rfl) ?_
  refine va_callr (va_runV (b := ad 1) (As := [.int x0]) (rest := []) cx (c_X0_textOf l dC dI cyI cyB ad hI S x0 d hd4 hd H.size) (cwV 1 cx.2.2.2.2 gX6_sign_X0_textOf rfl rfl rfl (by decide +kernel) ⟨Nat.le_of_ble_eq_true rfl, Nat.le_of_ble_eq_true rfl⟩) ⟨zBlind (xS_X ad 36), va_recv (q0 := 1) (ci := 2) hK hP rfl rfl, zPre (xS_X ad 36) hK hXs hP hS _⟩ rfl rfl hl.1 rfl (lv_room (Nat.le_of_ble_eq_true rfl)) dX6_sign_9 ⟨Nat.le_of_ble_eq_true rfl, Nat.le_of_ble_eq_true rfl⟩) hS (zHf hS).1 (zHf hS).2 (fun u a t H1 locs ht hvm _ hB hz1 hk1 hS => ?_)
  obtain ⟨hP, hx⟩ := hB
  rw [ht] at hP hx
  obtain ⟨L, hL⟩ : ∃ L, L = txL S x0 := ⟨_, rfl⟩
  rw [← hL] at hx
  have hlen : 0 < L.length ∧ L.length ≤ 5 := by rw [hL]; exact text_len _ _
  have hchs : chOK L = true := by
    rw [hL]
    unfold txL
    rw [hd]
    exact chOK_text _ d hd4
  have hn31 : L.length < 2 ^ 31 := Nat.lt_of_le_of_lt hlen.2 (by decide)
  have hx : xStr a L.length (fun j => L.getD j 0) (fun q => H1.size ≤ q) s H1 := xStr.moved hvm.symm hx
  refine lv_astore_n (lv' := [(3, .ref a), (0, .ref (ad 0)), (1, .int x0), (2, .int x1)]) cx.1 cx.2.1 dX6_sign_12 rfl hl (by decide) rfl (fun ls hl => ?_)
  refine lv_iload_n cx.1 cx.2.1 dX6_sign_13 rfl (lv_at hl 3 rfl) ?_
  refine lv_if_lt (tgt := 25) cx.1 cx.2.1 dX6_sign_14 (by decide) (fun c1 => ?_) (fun c1 => ?_)
  · exact xThrow (text := "no such place") (cls := xIO) (ik := 117) (is := 119) (ic := 121) cx hlf hex hlk hXs.1 rfl (by decide +kernel) (by decide +kernel) (by decide +kernel) (by decide +kernel) (by decide +kernel) (by decide +kernel) (by decide +kernel) (by decide +kernel) hS hP hl.1 (by unfold t_X6_sign; rw [tOr_n t1, if_pos c1]) dX6_sign_25 dX6_sign_28 dX6_sign_29 dX6_sign_31 dX6_sign_34 ⟨Nat.le_of_ble_eq_true rfl, Nat.le_of_ble_eq_true rfl, Nat.le_of_ble_eq_true rfl, Nat.le_of_ble_eq_true rfl⟩ ⟨Nat.le_of_ble_eq_true rfl, Nat.le_of_ble_eq_true rfl⟩
  refine lv_iload_n cx.1 cx.2.1 dX6_sign_17 rfl (lv_at hl 3 rfl) ?_
  refine lv_aload_n cx.1 cx.2.1 dX6_sign_18 rfl (lv_at hl 0 rfl) ?_
  refine gThenI hS (gRunQ (a := a) (k := L.length) (f := fun j => L.getD j 0) (tys' := [(cyB, .byte)]) (ad' := ad) (S := S) (As := []) (rest := [.int x1]) (fun sz => zQi (dC, dI) w0 (fun v T => v = nI L.length ∧ T = S) (zA ad 0 sz)) 0 cx (c_J0_length_8abf5 l dC dI cyB ad S a L.length (fun j => L.getD j 0)) gX6_sign_J0_length_8abf5 rfl ⟨rfl, rfl⟩ (by decide +kernel) ⟨Nat.le_of_ble_eq_true rfl, Nat.le_of_ble_eq_true rfl⟩ (fun U hU hW => ?_) ?_ hKB rfl hl.1 rfl (Nat.le_of_ble_eq_true rfl) dX6_sign_19 ⟨Nat.le_of_ble_eq_true rfl, Nat.le_of_ble_eq_true rfl⟩) (fun r T H2 locs hr hk2 hS2 => ?_)
  · rw [xQ, hU]
    exact ⟨((xJ.moved hW.alike hXs.2.1).kept hS.2.1).narrow (zOld hS), (xStr.moved hW.alike hx).narrow (fun q h => h.elim (fun ⟨k, hk, _⟩ => absurd hk (Nat.not_lt_zero k)) id)⟩
  · obtain ⟨v, ⟨cell, g1, g2, g3, -⟩, -⟩ := hx
    exact ⟨cell, g1, g2, g3⟩
  rw [hr.1]
  have hP2 : va_P (dC, dI) vwCl (cw cyI ad S) H2 := hP.kept (fun i q hq => hk2 q.1 ((hP i q hq).lt))
  have hx2 : xStr a L.length (fun j => L.getD j 0) (fun q => H2.size ≤ q) s H2 := (hx.kept (fun q hq _ => hk2 q hq)).narrow (fun q h => Nat.le_trans (keep_size hk2) h)
  refine lv_icmp_lt (tgt := 35) cx.1 cx.2.1 dX6_sign_22 (by decide) (fun c2 => ?_) (fun c2 => ?_)
  · rcases pk_ix x1 hn31 with h | h | ⟨j, hj, rfl⟩
    · exact absurd h c1
    · exact absurd c2 (Int32.not_lt.mpr h)
    obtain ⟨ch, hch, hf⟩ := chOK_at hchs j
    refine lv_aload_n cx.1 cx.2.1 dX6_sign_35 rfl (lv_at hl 0 rfl) ?_
    refine lv_iload_n cx.1 cx.2.1 dX6_sign_36 rfl (lv_at hl 3 rfl) ?_
    refine gThenI hS2 (gRunQ (a := a) (k := L.length) (f := fun j => L.getD j 0) (tys' := [(cyB, .byte)]) (ad' := ad) (S := S) (As := [.int (nI j)]) (rest := []) (fun sz => zQi (dC, dI) w0 (fun v T => v = nI ch ∧ T = S) (zA ad 0 sz)) 1 cx (c_J0_charAt_5068e l dC dI cyB ad S a L.length (fun j => L.getD j 0) j hj hn31 ch hch hf) gX6_sign_J0_charAt_5068e rfl ⟨rfl, rfl⟩ (by decide +kernel) ⟨Nat.le_of_ble_eq_true rfl, Nat.le_of_ble_eq_true rfl⟩ (fun U hU hW => ?_) ?_ hKB rfl hl.1 rfl (Nat.le_of_ble_eq_true rfl) dX6_sign_37 ⟨Nat.le_of_ble_eq_true rfl, Nat.le_of_ble_eq_true rfl⟩) (fun r T H3 locs hr3 hk3 hS3 => ?_)
    · rw [xQ, hU]
      exact ⟨((xJ.moved hW.alike hXs.2.1).kept hS2.2.1).narrow (zOld hS2), (xStr.moved hW.alike hx2).narrow (fun q h => h.elim (fun ⟨k, hk, _⟩ => absurd hk (Nat.not_lt_zero k)) id)⟩
    · obtain ⟨v, ⟨cell, g1, g2, g3, -⟩, -⟩ := hx2
      exact ⟨cell, g1, g2, g3⟩
    rw [hr3.1]
    have hP3 : va_P (dC, dI) vwCl (cw cyI ad S) H3 := hP2.kept (fun i q hq => hk3 q.1 ((hP2 i q hq).lt))
    refine vx_ret (W.widen (k := 8) (n := 64) (Nat.le_of_ble_eq_true rfl) (Nat.le_of_ble_eq_true rfl) ?_)
    refine zRetI cx hrt hlk (b13 ch hch) hS3 hP3 ⟨?_, rfl, ?_⟩ dX6_sign_40
    · unfold f_X6_sign
      rw [nI_clamp (Nat.lt_trans hj hn31), ← hL]
      exact hf.symm
    · unfold t_X6_sign
      rw [tOr_n t1, if_neg c1, ← hL, if_neg (Int32.not_le.mpr c2)]
  · exact xThrow (text := "no such place") (cls := xIO) (ik := 117) (is := 119) (ic := 121) cx hlf hex hlk hXs.1 rfl (by decide +kernel) (by decide +kernel) (by decide +kernel) (by decide +kernel) (by decide +kernel) (by decide +kernel) (by decide +kernel) (by decide +kernel) hS2 hP2 hl.1 (by unfold t_X6_sign; rw [tOr_n t1, if_neg c1, ← hL, if_pos (Int32.not_lt.mp c2)]) dX6_sign_25 dX6_sign_28 dX6_sign_29 dX6_sign_31 dX6_sign_34 ⟨Nat.le_of_ble_eq_true rfl, Nat.le_of_ble_eq_true rfl, Nat.le_of_ble_eq_true rfl, Nat.le_of_ble_eq_true rfl⟩ ⟨Nat.le_of_ble_eq_true rfl, Nat.le_of_ble_eq_true rfl⟩
