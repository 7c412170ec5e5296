/-! THE TEXT OF A CELL: Board.zoneText and Board.textOf -/
theorem xStr.congr {a n : Nat} {f g : Nat → Int32} {A : Nat → Prop} {U : State} {H : Heap} (h : xStr a n f A U H) (e : ∀ j, j < n → f j = g j) : xStr a n g A U H := by
  obtain ⟨v, h1, h2, h3, h4⟩ := h
  exact ⟨v, h1, h2, h3, vaT_congr h4 (fun j hj => congrArg Value.int (e j hj))⟩
theorem va_P_l {D : va_G} {w1 w2 : va_W} {H : Heap} (h : va_P D vwCl (w1 ++ w2) H) : va_P D vwCl w1 H := fun k q hq => h k q (by
  rw [List.getElem?_append_left (List.getElem?_eq_some_iff.mp hq).1]
  exact hq)
theorem va_P_r {D : va_G} {w1 : va_W} {x : Nat × va_E} {H : Heap} (h : va_P D vwCl (w1 ++ [x]) H) : va_P D vwCl [x] H := fun k q hq => by
  match k, hq with
  | 0, hq =>
    refine h w1.length q ?_
    rw [List.getElem?_append_right (Nat.le_refl _), Nat.sub_self]
    exact hq
  | k + 1, hq => simp at hq
theorem zW_lt {D : va_G} {ad : Nat → Nat} {n : Nat} {w : zS → va_W} {S : zS} {H : Heap} (hW : zW ad n w) (hP : va_P D vwCl (w S) H) (i : Nat) (hi : i < n) : ad i < H.size := by
  have hlen : (w S).length = n := by
    have h := congrArg List.length (hW S)
    rw [List.length_map, List.length_map, List.length_range] at h
    exact h
  have h1 : (w S)[i]? = some ((w S)[i]'(by omega)) := List.getElem?_eq_getElem _
  have h2 := (hP i _ h1).lt
  rw [(zW_at hW h1).2] at h2
  exact h2
section ZT
variable {p : Program} {l : Launch} {e : Env} {R : Room} {s : State} {m : MethodId} {args : Array Value} {below : List Frame} {meth : Method} {c : Code} {H : Heap} {locs : List Loc} {cells slots : Nat} {Q : State → Prop}
variable {D : va_G} {ad ad2 : Nat → Nat} {n : Nat} {w : zS → va_W} {cyB : ClassId}
variable {cc : ByteArray} {nL mc ms : Nat} {Ts : List Cond} {own : String} {y : MethodName} {ws ws' : List Cond} {rm : Room} {bytes : ByteArray} {maxL : Nat} {ret : Option FieldType} {index pc : Nat} {ls : Array Slot} {st rest As : List Value} {r : Nat} {S S' Sb : zS} {v : Int32}
theorem zt_sub (h2 : ∀ j, j < 2 → s.heap.size ≤ ad2 j) (hS : va_S (zA ad n s.heap.size) s.heap H locs) : ∀ q, zA ad2 2 H.size q → zA ad n s.heap.size q := by
  rintro q (⟨j, hj, rfl⟩ | h)
  · exact Or.inr (h2 j hj)
  · exact Or.inr (Nat.le_trans hS.1 h)
/-- a call of the builder, which we made -/
theorem bRunV (Qc : Nat → Array Value → State → Outcome → State → Prop) (na : Nat) (cx : CallFix p m c cc nL s args Ts own) (hM : ∀ sz, Met l y ws rm (zPc D [(cyB, .byte)] ad2 2 xB (bw cyB ad2) (.ref (ad2 0) :: As) Sb sz) (Qc sz) mc ms (zA ad2 2 sz))
    (hG : GoodIn Ts (wsV own index RJ4 y ws)) (hw : ws = Cond.code y bytes maxL ret :: ws') (hrm : rm.cells = mc ∧ rm.slots = ms)
    (hd : y.cls = RJ4 ∧ y.cls ≠ "java/lang/invoke/MethodHandle" ∧ y.cls ≠ "java/lang/invoke/VarHandle" ∧ (parseMethodDescriptor y.desc).map (fun d => d.parameters.length) = some na) (hR : rm.frames + 1 ≤ R.frames ∧ 8 + (maxL + 11) + rm.locals ≤ R.locals)
    (hXs : xJ (zA ad n s.heap.size) s s.heap) (hK : va_K D vwCl [(cyB, .byte)] s) (hB : va_P D vwCl (bw cyB ad2 Sb) H) (hS : va_S (zA ad n s.heap.size) s.heap H locs) (hsub : ∀ q, zA ad2 2 H.size q → zA ad n s.heap.size q)
    (hna : As.length = na) (hsz : ls.size = nL) (hst : st = As.reverse ++ .ref (ad2 0) :: rest) (hrest : (rest.map fun v => v.category).sum ≤ 8) (hdg : decode cc pc = .ok (.invokevirtual index, 3)) (hcs : cells + mc ≤ R.cells ∧ slots + ms ≤ R.slots) :
    va_Run p l e R s m args below meth c H locs cells slots mc ms (F0 m pc ls st) rest (Qc H.size (Value.ref (ad2 0) :: As).toArray) (zA ad2 2 H.size) :=
  va_runV (As := As) (rest := rest) cx (hM H.size) (cwV na cx.2.2.2.2 hG hw hrm.1 hrm.2 hd hR) ⟨zBlind (xB_X ad2 2), va_recv (q0 := 0) (ci := 1) (q := (RJ4, TJ4, 4)) hK hB rfl rfl, fun U hU hW => ⟨rfl, by rw [hU], by rw [hU]; exact hB, va_K.moved hW.alike hK, by
    show xJ (zA ad2 2 H.size) U U.heap
    rw [hU]
    exact ((xJ.moved hW.alike hXs).kept hS.2.1).narrow hsub⟩⟩ rfl hna hsz hst (lv_room hrest) hdg hcs
theorem bThenR {post : zS → Prop} {av : Array Value} (hS : va_S (zA ad n s.heap.size) s.heap H locs) (hW : zW ad n w) (hne : ∀ i j, i < n → j < 2 → ad i ≠ ad2 j) (hP : va_P D vwCl (w S) H) (hsub : ∀ q, zA ad2 2 H.size q → zA ad n s.heap.size q)
    (hr : va_Run p l e R s m args below meth c H locs cells slots mc ms (F0 m pc ls st) rest (va_Qr post (fun T a t => a = r ∧ va_P D vwCl (bw cyB ad2 T) t.heap) (zA ad2 2 H.size) av) (zA ad2 2 H.size))
    (kk : ∀ (T : zS) (H1 : Heap) (locs1 : List Loc), post T → va_P D vwCl (bw cyB ad2 T) H1 → va_P D vwCl (w S) H1 → va_S (zA ad n s.heap.size) s.heap H1 locs1 → W p l e R s m args below meth c H1 locs1 (cells + mc) (slots + ms) Q (F0 m (pc + 3) ls (.ref r :: rest))) : W p l e R s m args below meth c H locs cells slots Q (F0 m pc ls st) :=
  va_callr hr hS (fun q _ h => hsub q h) hsub (fun T ra t H1 locs1 ht _ hw hB _ hk1 hS1 => by
    obtain ⟨h1, h2⟩ := hB
    rw [h1]
    rw [ht] at h2
    exact kk T H1 locs1 hw h2 (keepW hW hne hP hk1) hS1)
/-- a call in our own world: the builder stays -/
theorem zThenK {av : Array Value} (hS : va_S (zA ad n s.heap.size) s.heap H locs) (hne : ∀ i j, i < 2 → j < n → ad2 i ≠ ad j) (hB : va_P D vwCl (bw cyB ad2 Sb) H)
    (hr : zRun p l e R s m args below meth c H locs cells slots ad n pc ls st rest (zQi D w (fun r T => r = v ∧ T = S') (zA ad n H.size) av))
    (kk : ∀ (H1 : Heap) (locs1 : List Loc), va_P D vwCl (w S') H1 → va_P D vwCl (bw cyB ad2 Sb) H1 → va_S (zA ad n s.heap.size) s.heap H1 locs1 → W p l e R s m args below meth c H1 locs1 cells slots Q (F0 m (pc + 3) ls (.int v :: rest))) : W p l e R s m args below meth c H locs cells slots Q (F0 m pc ls st) :=
  va_calli hr hS (zHf hS).1 (zHf hS).2 (fun r T t H1 locs1 ht _ hw hB1 _ hk1 hS1 => by
    obtain ⟨h1, h2⟩ := hw
    have h3 : va_P D vwCl (w T) t.heap := hB1
    rw [ht, h2] at h3
    rw [h1]
    exact kk H1 locs1 h3 (keepW (bw_W cyB ad2) hne hB hk1) hS1)
end ZT
/-- what zoneText and textOf answer: a text with these letters, and the world as it was -/
def QT (D : va_G) (cyI : ClassId) (ad : Nat → Nat) (S : zS) (L : List Int32) (sz : Nat) : Array Value → State → Outcome → State → Prop :=
  va_Qr (S := Unit) (fun _ => True) (fun _ a t => va_P D vwCl (cw cyI ad S) t.heap ∧ xStr a L.length (fun j => L.getD j 0) (fun q => t.heap.size ≤ q) t t.heap) (zA ad 36 sz)
set_option maxHeartbeats 4000000 in
set_option maxRecDepth 100000 in
theorem c_X0_zoneText (l : Launch) (dC : Nat → ClassId) (dI : Nat → Nat → Nat) (cyI cyB : ClassId) (ad : Nat → Nat) (hI : zI ad 36) (S : zS) (xi : Int32) (ch : Nat) (hch : ch < 128) (d : Nat) (hd4 : d < 4) (hd : rg 64 (S 1) xi = nI d) : ∀ sz, Met l yX0_zoneText wsX0_zoneText (rmk 7 4 26) (zPc (dC, dI) [(cyI, .int), (cyB, .byte)] ad 36 xS (cw cyI ad) [.ref (ad 1), .int (nI ch), .int xi] S sz) (QT (dC, dI) cyI ad S [nI ch, nI (48 + d)] sz) 4 26 (zA ad 36 sz) := by
  intro sz
  refine jStart (Qm := QT (dC, dI) cyI ad S [nI ch, nI (48 + d)]) sz (by decide) rfl (Nat.le_of_ble_eq_true rfl) ?_
  intro p e s m args below meth c ls cx hrt hlk hin hP hK hXs hl
  have hl : lv_has ls 3 [(0, .ref (ad 1)), (1, .int (nI ch)), (2, .int xi)] := hl
  have hS : va_S (zA ad 36 s.heap.size) s.heap s.heap [] := va_S.rf
  have hinX0 : ∀ w ∈ u_ws RX0 TX0 2, w ∈ wsX0_zoneText := by decide +kernel
  have hinJ4 : ∀ w ∈ u_ws RJ4 TJ4 4, w ∈ wsX0_zoneText := by decide +kernel
  have hKI : va_K (dC, dI) vwCl [(cyI, .int)] s := hK.sub [0] rfl
  have hKB : va_K (dC, dI) vwCl [(cyB, .byte)] s := hK.sub [1] rfl
  have hD : va_D (zA ad 36 s.heap.size) (cw cyI ad S) := va_D_ad (cw_W cyI ad) hI S
  refine va_new (ci := 1) (fs := [.null, .int 0, .int 0, .int 0]) (C := RJ4) (T := TJ4) (N := 4) cx.1 cx.2.1 cx.2.2.2.2 hinJ4 tyJ4 tyJ4_ok cx.2.2.2.1 (cx.2.2.2.2 (.classLink RX0 48 RJ4) (by decide +kernel)) (cx.2.2.2.2 (.instantiable RJ4 4) (by decide +kernel)) (cx.2.2.2.2 (.initialized RJ4) (by decide +kernel)) hK hP hD hS (fun q h => Or.inr h) rfl (fun j hj => by rcases (show j = 0 ∨ j = 1 ∨ j = 2 ∨ j = 3 by omega) with rfl | rfl | rfl | rfl <;> rfl) (Nat.le_of_ble_eq_true rfl) (Nat.le_of_ble_eq_true rfl) dX0_zoneText_0 (fun b H hPj hDj hS => ?_)
  have hge := new_ge (cw_W cyI ad) hDj
  have hPc := va_P_l hPj
  have hPb : va_P (dC, dI) vwCl (wsb (fun _ => b) S) H := va_P_r hPj
  have hltA := zW_lt (cw_W cyI ad) hPc
  have hltb : b < H.size := (hPb 0 _ rfl).lt
  have hs1 : ∀ q, zA (fun _ => b) 1 H.size q → zA ad 36 s.heap.size q := by
    rintro q (⟨j, hj, e9⟩ | h)
    · exact Or.inr (by rw [e9]; exact hge.1)
    · exact Or.inr (Nat.le_trans hS.1 h)
  refine lv_dup cx.1 cx.2.1 dX0_zoneText_3 rfl ?_
  refine va_callv (va_runI (b := b) (As := []) (rest := [.ref b]) cx (c_J4_init_da8c8 l dC dI cyB (fun _ => b) S H.size) (cwI 0 cx.2.2.2.2 gX0_zoneText_J4_init_da8c8 rfl rfl rfl (cx.2.2.2.2 (.initialized RJ4) (by decide +kernel)) (cx.2.2.2.2 (.methodLink RX0 50 yJ4_init_da8c8) (by decide +kernel)) (cx.2.2.2.2 (.instanceMethod yJ4_init_da8c8) (by decide +kernel)) rfl (by decide +kernel) ⟨(Nat.le_of_ble_eq_true rfl), (Nat.le_of_ble_eq_true rfl)⟩) ⟨zBlind (xB_X (fun _ => b) 1), fun U hU hW => ⟨rfl, by rw [hU], by rw [hU]; exact hPb, va_K.moved hW.alike hKB, ?_⟩⟩ rfl rfl hl.1 rfl (lv_room (Nat.le_of_ble_eq_true rfl)) dX0_zoneText_4 ⟨(Nat.le_of_ble_eq_true rfl), (Nat.le_of_ble_eq_true rfl)⟩) hS (fun q _ h => hs1 q h) hs1 (fun v t H1 locs ht hvm _ hB hz1 hk1 hS1 => ?_)
  · show xJ (zA (fun _ => b) 1 H.size) U U.heap
    rw [hU]
    exact ((xJ.moved hW.alike hXs.2.1).kept hS.2.1).narrow hs1
  obtain ⟨hv, hB⟩ := hB
  rw [ht] at hB
  have hP1 : va_P (dC, dI) vwCl (cw cyI ad S) H1 := keepW (cw_W cyI ad) (fun i j hi _ => hge.2 i hi) hPc hk1
  obtain ⟨ad2, e0, e1⟩ : ∃ ad2 : Nat → Nat, ad2 0 = b ∧ ad2 1 = v := ⟨fun k => if k = 0 then b else v, rfl, rfl⟩
  subst e0
  subst e1
  have h2 : ∀ j, j < 2 → s.heap.size ≤ ad2 j := fun j hj => by
    rcases (show j = 0 ∨ j = 1 by omega) with rfl | rfl
    · exact hge.1
    · exact Nat.le_trans hS.1 hv
  have hne : ∀ i j, i < 36 → j < 2 → ad i ≠ ad2 j := fun i j hi hj => by
    rcases (show j = 0 ∨ j = 1 by omega) with rfl | rfl
    · exact hge.2 i hi
    · have := hltA i hi
      omega
  have hI2 : zI ad2 2 := fun i j hi hj e9 => by
    rcases (show i = 0 ∨ i = 1 by omega) with rfl | rfl <;> rcases (show j = 0 ∨ j = 1 by omega) with rfl | rfl <;> omega
  have hB0 : va_P (dC, dI) vwCl (bw cyB ad2 (fun _ _ => 0)) H1 := hB
  refine lv_iload_n cx.1 cx.2.1 dX0_zoneText_7 rfl (lv_at hl 1 rfl) ?_
  refine bThenR hS1 (cw_W cyI ad) hne hP1 (zt_sub h2 hS1) (bRunV (As := [.int (nI ch)]) (rest := []) (fun sz => va_Qr (fun T => T = zUp (zUp (fun _ _ => 0) 1 (upd (fun _ => 0) 0 (nI (0 + 1)))) 0 (upd (fun _ => 0) 0 (nI ch))) (fun T a t => a = ad2 0 ∧ va_P (dC, dI) vwCl (bw cyB ad2 T) t.heap) (zA ad2 2 sz)) 1 cx (c_J4_append_cf468 l dC dI cyB ad2 hI2 (fun _ _ => 0) 0 rfl (by decide) ch hch) gX0_zoneText_J4_append_cf468 rfl ⟨rfl, rfl⟩ (by decide +kernel) ⟨(Nat.le_of_ble_eq_true rfl), (Nat.le_of_ble_eq_true rfl)⟩ hXs.2.1 hKB hB0 hS1 (zt_sub h2 hS1) rfl hl.1 rfl (Nat.le_of_ble_eq_true rfl) dX0_zoneText_8 ⟨(Nat.le_of_ble_eq_true rfl), (Nat.le_of_ble_eq_true rfl)⟩) (fun T H2 locs hT hB2 hP2 hS2 => ?_)
  have t10 : T 1 0 = nI 1 := by rw [hT]; rfl
  have t00 : T 0 0 = nI ch := by rw [hT]; rfl
  refine lv_aload_n cx.1 cx.2.1 dX0_zoneText_11 rfl (lv_at hl 0 rfl) ?_
  refine zGet (v := .ref (ad 8)) (own := RX0) cx hinX0 hKI hP2 1 rfl rfl 1 (by decide) (by decide +kernel) rfl rfl dX0_zoneText_12 ?_
  refine lv_iload_n cx.1 cx.2.1 dX0_zoneText_15 rfl (lv_at hl 2 rfl) ?_
  refine zThenK (v := rg 64 (S 1) xi) (S' := S) hS2 (fun i j hi hj e9 => hne j i hj hi e9.symm) hB2 (zRunV (As := [.int xi]) (rest := [.ref (ad2 0)]) _ 1 cx (c_X4_get l dC dI cyI ad hI S 1 (by decide) xi) gX0_zoneText_X4_get rfl ⟨rfl, rfl⟩ (by decide +kernel) ⟨(Nat.le_of_ble_eq_true rfl), (Nat.le_of_ble_eq_true rfl)⟩ (xN_X ad 36) hXs.1.1 hKI hP2 hS2 8 rfl rfl rfl rfl hl.1 rfl (Nat.le_of_ble_eq_true rfl) dX0_zoneText_16 ⟨(Nat.le_of_ble_eq_true rfl), (Nat.le_of_ble_eq_true rfl)⟩) (fun H3 locs hP3 hB3 hS3 => ?_)
  rw [hd]
  refine bThenR hS3 (cw_W cyI ad) hne hP3 (zt_sub h2 hS3) (bRunV (As := [.int (nI d)]) (rest := []) (fun sz => va_Qr (fun T2 => T2 = zUp (zUp T 0 (upd (T 0) 1 (nI (48 + d)))) 1 (upd ((zUp T 0 (upd (T 0) 1 (nI (48 + d)))) 1) 0 (nI (1 + 1)))) (fun T a t => a = ad2 0 ∧ va_P (dC, dI) vwCl (bw cyB ad2 T) t.heap) (zA ad2 2 sz)) 1 cx (c_J4_append_bf812 l dC dI cyB ad2 hI2 T 1 t10 (by decide) d (by omega)) gX0_zoneText_J4_append_bf812 rfl ⟨rfl, rfl⟩ (by decide +kernel) ⟨(Nat.le_of_ble_eq_true rfl), (Nat.le_of_ble_eq_true rfl)⟩ hXs.2.1 hKB hB3 hS3 (zt_sub h2 hS3) rfl hl.1 rfl (Nat.le_of_ble_eq_true rfl) dX0_zoneText_19 ⟨(Nat.le_of_ble_eq_true rfl), (Nat.le_of_ble_eq_true rfl)⟩) (fun T2 H4 locs hT2 hB4 hP4 hS4 => ?_)
  have u10 : T2 1 0 = nI 2 := by rw [hT2]; rfl
  have u00 : T2 0 0 = nI ch := by rw [hT2]; exact t00
  have u01 : T2 0 1 = nI (48 + d) := by rw [hT2]; rfl
  refine va_callr (bRunV (As := []) (rest := []) (fun sz => va_Qr (S := Unit) (fun _ => True) (fun _ a t => xStr a 2 (T2 0) (fun q => t.heap.size ≤ q) t t.heap) (zA ad2 2 sz)) 0 cx (c_J4_toString_0e30d l dC dI cyB ad2 hI2 T2 u10 (fun j hj => ?_)) gX0_zoneText_J4_toString_0e30d rfl ⟨rfl, rfl⟩ (by decide +kernel) ⟨(Nat.le_of_ble_eq_true rfl), (Nat.le_of_ble_eq_true rfl)⟩ hXs.2.1 hKB hB4 hS4 (zt_sub h2 hS4) rfl hl.1 rfl (Nat.le_of_ble_eq_true rfl) dX0_zoneText_22 ⟨(Nat.le_of_ble_eq_true rfl), (Nat.le_of_ble_eq_true rfl)⟩) hS4 (fun q _ h => zt_sub h2 hS4 q h) (zt_sub h2 hS4) (fun u a t5 H5 locs ht5 hvm5 _ hB5 hz5 hk5 hS5 => ?_)
  · rcases (show j = 0 ∨ j = 1 by omega) with rfl | rfl
    · rw [u00]
      exact b14 ch hch
    · rw [u01]
      exact b14 (48 + d) (by omega)
  have hP5 : va_P (dC, dI) vwCl (cw cyI ad S) H5 := keepW (cw_W cyI ad) hne hP4 hk5
  rw [ht5] at hB5
  have hx : xStr a 2 (fun j => ([nI ch, nI (48 + d)] : List Int32).getD j 0) (fun q => H5.size ≤ q) t5 H5 := hB5.congr (fun j hj => by
    rcases (show j = 0 ∨ j = 1 by omega) with rfl | rfl
    · exact u00
    · exact u01)
  exact W.aret cx.1 cx.2.1 hrt (Or.inl ⟨_, rfl⟩) (Or.inr ⟨a, rfl⟩) (fun t2 ht2 hW => ⟨⟨(), a, rfl, trivial, by rw [ht2]; exact hP5, by rw [ht2]; exact (xStr.moved hvm5.symm hx).moved hW.alike⟩, hS5.F ht2⟩) hS5.2.2 dX0_zoneText_25
theorem zone_t2 : ∀ d, d < 4 → textL 2 (nI d) = [nI 72, nI (48 + d)] := by decide +kernel
theorem zone_t3 : ∀ d, d < 4 → textL 3 (nI d) = [nI 84, nI (48 + d)] := by decide +kernel
theorem tx_out {v w : Int32} (h : v < 0 ∨ nI 7 ≤ v ∨ v = 0) : textL v w = [46] := by
  have h1 : ¬ v = 1 := by rintro rfl; revert h; decide
  have h2 : ¬ v = 2 := by rintro rfl; revert h; decide
  have h3 : ¬ v = 3 := by rintro rfl; revert h; decide
  have h4 : ¬ v = 4 := by rintro rfl; revert h; decide
  have h5 : ¬ v = 5 := by rintro rfl; revert h; decide
  have h6 : ¬ v = 6 := by rintro rfl; revert h; decide
  unfold textL
  rw [if_neg h1, if_neg h2, if_neg h3, if_neg h4, if_neg h5, if_neg h6]
section TXE
variable {p : Program} {l : Launch} {e : Env} {R : Room} {s : State} {m : MethodId} {args : Array Value} {below : List Frame} {meth : Method} {c : Code} {H : Heap} {locs : List Loc} {cells slots : Nat}
variable {D : va_G} {ad : Nat → Nat} {cyI cyB : ClassId} {cc : ByteArray} {nL pc : Nat} {Ts : List Cond} {ls : Array Slot} {S : zS} {xi : Int32}
/-- a text of the class's constants -/
theorem tx_lit (cx : CallFix p m c cc nL s args Ts RX0) (hrt : meth.sig.returnType = some (.object "java/lang/String")) (hlk : meth.locks = false) (hXs : xS (zA ad 36 s.heap.size) s) (hP : va_P D vwCl (cw cyI ad S) H) (hS : va_S (zA ad 36 s.heap.size) s.heap H locs) (q : Nat × String × List Int32) (hq : q ∈ sLits) {L : List Int32} (hL : L = q.2.2) (d1 : decode cc pc = .ok (.ldc q.1, 2)) (d2 : decode cc (pc + 2) = .ok (.areturn, 1)) (hc : cells ≤ 4) (hs : slots ≤ 26) :
    W p l e R s m args below meth c H locs cells slots (MQ below (QT D cyI ad S L s.heap.size) args s 4 26 (zA ad 36 s.heap.size)) (F0 m pc ls []) := by
  subst hL
  obtain ⟨a, hZ, hx⟩ := hXs.2.2 q hq
  refine W.widen (k := 4) (n := 26) hc hs ?_
  refine va_ldcS cx.1 cx.2.1 cx.2.2.2.1 hZ d1 ?_
  exact W.aret cx.1 cx.2.1 hrt (Or.inl ⟨_, rfl⟩) (Or.inr ⟨a, rfl⟩) (fun t2 ht2 hW => ⟨⟨(), a, rfl, trivial, by rw [ht2]; exact hP, by rw [ht2]; exact ((xStr.moved hW.alike hx).kept hS.2.1).narrow (fun q h => Or.inr (Nat.le_trans hS.1 h))⟩, hS.F ht2⟩) hS.2.2 d2 hlk
end TXE
set_option maxHeartbeats 4000000 in
set_option maxRecDepth 100000 in
theorem c_X0_textOf (l : Launch) (dC : Nat → ClassId) (dI : Nat → Nat → Nat) (cyI cyB : ClassId) (ad : Nat → Nat) (hI : zI ad 36) (S : zS) (xi : Int32) (d : Nat) (hd4 : d < 4) (hd : rg 64 (S 1) xi = nI d) : ∀ sz, Met l yX0_textOf wsX0_textOf (rmk 8 4 26) (zPc (dC, dI) [(cyI, .int), (cyB, .byte)] ad 36 xS (cw cyI ad) [.ref (ad 1), .int xi] S sz) (QT (dC, dI) cyI ad S (txL S xi) sz) 4 26 (zA ad 36 sz) := by
  intro sz
  refine jStart (Qm := QT (dC, dI) cyI ad S (txL S xi)) sz (by decide) rfl (Nat.le_of_ble_eq_true rfl) ?_
  intro p e s m args below meth c ls cx hrt hlk hin hP hK hXs hl
  have hl : lv_has ls 2 [(0, .ref (ad 1)), (1, .int xi)] := hl
  have hS : va_S (zA ad 36 s.heap.size) s.heap s.heap [] := va_S.rf
  have hinX0 : ∀ w ∈ u_ws RX0 TX0 2, w ∈ wsX0_textOf := by decide +kernel
  have hKI : va_K (dC, dI) vwCl [(cyI, .int)] s := hK.sub [0] rfl
  refine lv_aload_n cx.1 cx.2.1 dX0_textOf_0 rfl (lv_at hl 0 rfl) ?_
  refine zGet (v := .ref (ad 6)) (own := RX0) cx hinX0 hKI hP 1 rfl rfl 0 (by decide) (by decide +kernel) rfl rfl dX0_textOf_1 ?_
  refine lv_iload_n cx.1 cx.2.1 dX0_textOf_4 rfl (lv_at hl 1 rfl) ?_
  refine zThenIx (v := rg 64 (S 0) xi) (S' := S) hS (zRunV (As := [.int xi]) (rest := []) _ 1 cx (c_X4_get l dC dI cyI ad hI S 0 (by decide) xi) gX0_textOf_X4_get rfl ⟨rfl, rfl⟩ (by decide +kernel) ⟨(Nat.le_of_ble_eq_true rfl), (Nat.le_of_ble_eq_true rfl)⟩ (xN_X ad 36) hXs.1.1 hKI hP hS 6 rfl rfl rfl rfl hl.1 rfl (Nat.le_of_ble_eq_true rfl) dX0_textOf_5 ⟨(Nat.le_of_ble_eq_true rfl), (Nat.le_of_ble_eq_true rfl)⟩) (fun H locs hP hS => ?_)
  obtain ⟨L, hL⟩ : ∃ L, L = txL S xi := ⟨_, rfl⟩
  have hL2 : L = textL (rg 64 (S 0) xi) (nI d) := by rw [hL, ← hd]; rfl
  rw [← hL]
  generalize rg 64 (S 0) xi = v at hL2 ⊢
  have out : (v < 0 ∨ nI 7 ≤ v ∨ v = 0) → W p l e (headSpec wsX0_textOf (rmk 8 4 26)).room s m args below meth c H locs 0 0 (MQ below (QT (dC, dI) cyI ad S L s.heap.size) args s 4 26 (zA ad 36 s.heap.size)) (F0 m 8 ls [.int v]) := by
    intro h
    refine lv_tableOut (tgt := 76) cx.1 cx.2.1 dX0_textOf_8 ?_ (by decide) ?_
    · rcases h with h | h | rfl
      · exact Or.inl (by have := Int32.lt_iff_toInt_lt.mp h; rw [Int32.toInt_zero] at this; omega)
      · exact Or.inr (by have h9 := Int32.le_iff_toInt_le.mp h; rw [show (nI 7).toInt = 7 by decide] at h9; omega)
      · exact Or.inl (by decide)
    · exact tx_lit cx hrt hlk hXs hP hS (46, ".", [46]) (by decide +kernel) (by rw [hL2, tx_out h]) dX0_textOf_76 dX0_textOf_78 (Nat.zero_le _) (Nat.zero_le _)
  rcases pk_ix v (show 7 < 2 ^ 31 by decide) with h | h | ⟨j, hj, rfl⟩
  · exact out (Or.inl h)
  · exact out (Or.inr (Or.inl h))
  rcases (show j = 0 ∨ j = 1 ∨ j = 2 ∨ j = 3 ∨ j = 4 ∨ j = 5 ∨ j = 6 by omega) with rfl | rfl | rfl | rfl | rfl | rfl | rfl
  · exact out (Or.inr (Or.inr rfl))
  · refine lv_tableIn (off := 40) (tgt := 48) cx.1 cx.2.1 dX0_textOf_8 (by decide) (by decide) (by decide) (by decide) ?_
    exact tx_lit cx hrt hlk hXs hP hS (34, "#", [35]) (by decide +kernel) (by rw [hL2]; rfl) dX0_textOf_48 dX0_textOf_50 (Nat.zero_le _) (Nat.zero_le _)
  · refine lv_tableIn (off := 43) (tgt := 51) cx.1 cx.2.1 dX0_textOf_8 (by decide) (by decide) (by decide) (by decide) ?_
    refine lv_aload_n cx.1 cx.2.1 dX0_textOf_51 rfl (lv_at hl 0 rfl) ?_
    refine lv_bipush (v := nI 72) cx.1 cx.2.1 dX0_textOf_52 (by decide) ?_
    refine lv_iload_n cx.1 cx.2.1 dX0_textOf_54 rfl (lv_at hl 1 rfl) ?_
    refine va_callr (va_runV (b := ad 1) (As := [.int (nI 72), .int xi]) (rest := []) cx (c_X0_zoneText l dC dI cyI cyB ad hI S xi 72 (by decide) d hd4 hd H.size) (cwV 2 cx.2.2.2.2 gX0_textOf_X0_zoneText rfl rfl rfl (by decide +kernel) ⟨(Nat.le_of_ble_eq_true rfl), (Nat.le_of_ble_eq_true rfl)⟩) ⟨zBlind (xS_X ad 36), va_recv (q0 := 1) (ci := 2) hK hP rfl rfl, zPre (xS_X ad 36) hK hXs hP hS _⟩ rfl rfl hl.1 rfl (lv_room (Nat.le_of_ble_eq_true rfl)) dX0_textOf_55 ⟨(Nat.le_of_ble_eq_true rfl), (Nat.le_of_ble_eq_true rfl)⟩) hS (zHf hS).1 (zHf hS).2 (fun u a t H1 locs1 ht hvm _ hB hz1 hk1 hS1 => ?_)
    obtain ⟨hP1, hx⟩ := hB
    rw [ht] at hP1 hx
    rw [show L = [nI 72, nI (48 + d)] from hL2.trans (zone_t2 d hd4)]
    exact W.aret cx.1 cx.2.1 hrt (Or.inl ⟨_, rfl⟩) (Or.inr ⟨a, rfl⟩) (fun t2 ht2 hW => ⟨⟨(), a, rfl, trivial, by rw [ht2]; exact hP1, by rw [ht2]; exact (xStr.moved hvm.symm hx).moved hW.alike⟩, hS1.F ht2⟩) hS1.2.2 dX0_textOf_58
  · refine lv_tableIn (off := 51) (tgt := 59) cx.1 cx.2.1 dX0_textOf_8 (by decide) (by decide) (by decide) (by decide) ?_
    refine lv_aload_n cx.1 cx.2.1 dX0_textOf_59 rfl (lv_at hl 0 rfl) ?_
    refine lv_bipush (v := nI 84) cx.1 cx.2.1 dX0_textOf_60 (by decide) ?_
    refine lv_iload_n cx.1 cx.2.1 dX0_textOf_62 rfl (lv_at hl 1 rfl) ?_
    refine va_callr (va_runV (b := ad 1) (As := [.int (nI 84), .int xi]) (rest := []) cx (c_X0_zoneText l dC dI cyI cyB ad hI S xi 84 (by decide) d hd4 hd H.size) (cwV 2 cx.2.2.2.2 gX0_textOf_X0_zoneText rfl rfl rfl (by decide +kernel) ⟨(Nat.le_of_ble_eq_true rfl), (Nat.le_of_ble_eq_true rfl)⟩) ⟨zBlind (xS_X ad 36), va_recv (q0 := 1) (ci := 2) hK hP rfl rfl, zPre (xS_X ad 36) hK hXs hP hS _⟩ rfl rfl hl.1 rfl (lv_room (Nat.le_of_ble_eq_true rfl)) dX0_textOf_63 ⟨(Nat.le_of_ble_eq_true rfl), (Nat.le_of_ble_eq_true rfl)⟩) hS (zHf hS).1 (zHf hS).2 (fun u a t H1 locs1 ht hvm _ hB hz1 hk1 hS1 => ?_)
    obtain ⟨hP1, hx⟩ := hB
    rw [ht] at hP1 hx
    rw [show L = [nI 84, nI (48 + d)] from hL2.trans (zone_t3 d hd4)]
    exact W.aret cx.1 cx.2.1 hrt (Or.inl ⟨_, rfl⟩) (Or.inr ⟨a, rfl⟩) (fun t2 ht2 hW => ⟨⟨(), a, rfl, trivial, by rw [ht2]; exact hP1, by rw [ht2]; exact (xStr.moved hvm.symm hx).moved hW.alike⟩, hS1.F ht2⟩) hS1.2.2 dX0_textOf_66
  · refine lv_tableIn (off := 59) (tgt := 67) cx.1 cx.2.1 dX0_textOf_8 (by decide) (by decide) (by decide) (by decide) ?_
    exact tx_lit cx hrt hlk hXs hP hS (40, "park", [112, 97, 114, 107]) (by decide +kernel) (by rw [hL2]; rfl) dX0_textOf_67 dX0_textOf_69 (Nat.zero_le _) (Nat.zero_le _)
  · refine lv_tableIn (off := 62) (tgt := 70) cx.1 cx.2.1 dX0_textOf_8 (by decide) (by decide) (by decide) (by decide) ?_
    exact tx_lit cx hrt hlk hXs hP hS (42, "power", [112, 111, 119, 101, 114]) (by decide +kernel) (by rw [hL2]; rfl) dX0_textOf_70 dX0_textOf_72 (Nat.zero_le _) (Nat.zero_le _)
  · refine lv_tableIn (off := 65) (tgt := 73) cx.1 cx.2.1 dX0_textOf_8 (by decide) (by decide) (by decide) (by decide) ?_
    exact tx_lit cx hrt hlk hXs hP hS (44, "water", [119, 97, 116, 101, 114]) (by decide +kernel) (by rw [hL2]; rfl) dX0_textOf_73 dX0_textOf_75 (Nat.zero_le _) (Nat.zero_le _)
