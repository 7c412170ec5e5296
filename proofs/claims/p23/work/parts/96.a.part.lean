/-! THE SCRIPT, and what the law does out of it -/
def xZ (sa L : Nat) (xs : Nat → Int32) : (Nat → Prop) → State → Prop := fun A U => xL A U ∧ va_T .int sa L (fun j => .int (xs j)) A U U.heap
theorem xZ_X (sa L : Nat) (xs : Nat → Int32) (ad : Nat → Nat) (n : Nat) : zX (xZ sa L xs) ad n := by
  have hT : zX (fun A U => va_T .int sa L (fun j => .int (xs j)) A U U.heap) ad n := zX_of (Y := fun A U H => va_T .int sa L (fun j => .int (xs j)) A U H) (s0 := fun s U => s.vm.Alike U.vm) (fun A u U H hW h => va_T.moved hW h) (fun A U g mk a H h => va_T.moved (u := U) (U := U.calling g mk a) (Vm.Alike.refl U.vm) h) (fun A U H H1 h hq => va_T.kept h hq) (fun A B U H h hAB => va_T.narrow h hAB) (fun _ _ h => h.alike) ad n
  exact ⟨fun s U H locs h hU hW hS => ⟨(xL_X ad n).1 s U H locs h.1 hU hW hS, hT.1 s U H locs h.2 hU hW hS⟩, fun A U g mk a h => ⟨(xL_X ad n).2 A U g mk a h.1, hT.2 A U g mk a h.2⟩⟩
theorem andM (z : Int32) : ∃ n, n < 2 ^ 31 ∧ z &&& 2147483647 = nI n := by
  refine ⟨(z.toBitVec &&& 2147483647#32).toNat, ?_, ?_⟩
  · rw [BitVec.toNat_and]
    exact Nat.lt_of_le_of_lt Nat.and_le_right (by decide)
  · apply Int32.toBitVec_inj.1
    show z.toBitVec &&& 2147483647#32 = BitVec.ofNat 32 (z.toBitVec &&& 2147483647#32).toNat
    simp
set_option maxHeartbeats 4000000 in
set_option maxRecDepth 100000 in
theorem c_L_part (l : Launch) (dC : Nat → ClassId) (dI : Nat → Nat → Nat) (cyI cyB : ClassId) (ad : Nat → Nat) (hI : zI ad 39) (sa L : Nat) (xs : Nat → Int32) (hLb : L < 2 ^ 31) (S : zS) (k n : Nat) (hk : k < 1000) (hn0 : 0 < n) (hn : n < 2 ^ 31) : bMet l (dC, dI) (lTys cyI cyB) ad 39 (xZ sa L xs) (qw cyI ad) yL_part wsL_part ({ frames := 0, cells := 0, slots := 0, locals := 0 } : Room) [.ref sa, .int (nI k), .int (nI n)] S 0 0 (fun v T => (∃ q, q < n ∧ v = nI q) ∧ T = S) := by
  refine bStart (by decide) rfl (Nat.le_of_ble_eq_true rfl) ?_
  intro p e s m args below meth c ls cx hrt hlk hP hK hXs hl
  have hl : lv_has ls 4 [(0, .ref sa), (1, .int (nI k)), (2, .int (nI n))] := hl
  have hS : va_S (zA ad 39 s.heap.size) s.heap s.heap [] := va_S.rf
  have J : ∀ v : Int32, W p l e (headSpec wsL_part ({ frames := 0, cells := 0, slots := 0, locals := 0 } : Room)).room s m args below meth c s.heap [] 0 0 (MQ below (zQi (dC, dI) (qw cyI ad) (fun v T => (∃ q, q < n ∧ v = nI q) ∧ T = S) (zA ad 39 s.heap.size)) args s 0 0 (zA ad 39 s.heap.size)) (F0 m 25 ls (.int v :: [])) := by
    intro v
    refine lv_istore_n (lv' := [(3, .int v), (0, .ref sa), (1, .int (nI k)), (2, .int (nI n))]) cx.1 cx.2.1 dL_part_25 rfl hl (by decide) rfl (fun ls hl => ?_)
    refine lv_iload_n cx.1 cx.2.1 dL_part_26 rfl (lv_at hl 0 rfl) ?_
    refine lv_ldc (own := RL) (v := 2147483647) cx.1 cx.2.1 cx.2.2.2.1 (cx.2.2.2.2 (Cond.constant RL 7 2147483647) (by decide +kernel)) dL_part_27 ?_
    refine lv_iand cx.1 cx.2.1 dL_part_29 ?_
    obtain ⟨z, hz, ez⟩ := andM v
    rw [ez]
    refine lv_iload_n cx.1 cx.2.1 dL_part_30 rfl (lv_at hl 3 rfl) ?_
    refine lv_irem cx.1 cx.2.1 dL_part_31 (fun y => absurd (nI_inj (a := n) (b := 0) hn (by decide) y) (by omega)) ?_
    rw [pk_rem hz hn0 hn]
    exact bRet cx hrt hlk rfl hS hP ⟨⟨z % n, Nat.mod_lt _ hn0, rfl⟩, rfl⟩ (Nat.le_of_ble_eq_true rfl) (Nat.le_of_ble_eq_true rfl) dL_part_32
  refine lv_iload_n cx.1 cx.2.1 dL_part_0 rfl (lv_at hl 1 rfl) ?_
  refine lv_aload_n cx.1 cx.2.1 dL_part_1 rfl (lv_at hl 0 rfl) ?_
  refine va_tlen cx.1 cx.2.1 hXs.2 hS (v := nI L) rfl dL_part_2 ?_
  refine lv_icmp_ge (tgt := 12) cx.1 cx.2.1 dL_part_3 (by decide) (fun c1 => ?_) (fun c1 => ?_)
  · refine lv_sipush (v := 421) cx.1 cx.2.1 dL_part_12 (by decide) ?_
    refine lv_iload_n cx.1 cx.2.1 dL_part_15 rfl (lv_at hl 1 rfl) ?_
    refine lv_imul cx.1 cx.2.1 dL_part_16 ?_
    refine lv_sipush (v := 281) cx.1 cx.2.1 dL_part_17 (by decide) ?_
    refine lv_iload_n cx.1 cx.2.1 dL_part_20 rfl (lv_at hl 1 rfl) ?_
    refine lv_imul cx.1 cx.2.1 dL_part_21 ?_
    refine lv_iload_n cx.1 cx.2.1 dL_part_22 rfl (lv_at hl 1 rfl) ?_
    refine lv_imul cx.1 cx.2.1 dL_part_23 ?_
    refine lv_iadd cx.1 cx.2.1 dL_part_24 ?_
    exact J _
  · have hkL : k < L := Nat.not_le.mp fun z => c1 ((nI_leI (a := L) (b := k) hLb (by omega)).mpr z)
    refine lv_aload_n cx.1 cx.2.1 dL_part_6 rfl (lv_at hl 0 rfl) ?_
    refine lv_iload_n cx.1 cx.2.1 dL_part_7 rfl (lv_at hl 1 rfl) ?_
    refine va_ti cx.1 cx.2.1 hXs.2 hS (vp_in_nI hkL hLb) rfl dL_part_8 ?_
    refine lv_goto (tgt := 25) cx.1 cx.2.1 dL_part_9 (by decide) ?_
    exact J _
theorem c_L_isMonthB (l : Launch) (dC : Nat → ClassId) (dI : Nat → Nat → Nat) (cyI cyB : ClassId) (ad : Nat → Nat) (hI : zI ad 39) (hlf : l.stackTraces = false) (S : zS) (hB : LBd S) : bMet l (dC, dI) (lTys cyI cyB) ad 39 xL (qw cyI ad) yL_isMonth wsB_isMonth ({ frames := 9, cells := 6, slots := 152, locals := 203 } : Room) [.ref (ad 0), .ref (ad 36), .ref (ad 37), .ref (ad 38)] S 6 152 (fun v T => v = 1 ∧ LBd T) := by
  obtain ⟨d, hdb, hd⟩ := hB.2
  exact c_L_isMonth l dC dI cyI cyB ad hI hlf S (g_X7_finds (bM S)) ⟨hB.1, rfl⟩ d hdb hd
theorem c_L_isTownB (l : Launch) (dC : Nat → ClassId) (dI : Nat → Nat → Nat) (cyI cyB : ClassId) (ad : Nat → Nat) (hI : zI ad 39) (hlf : l.stackTraces = false) (S : zS) (hB : LBd S) (nc : Nat) (no : Nat) (hnc : nc < 64) (hno : no < 64) : bMet l (dC, dI) (lTys cyI cyB) ad 39 xL (qw cyI ad) yL_isTown wsB_isTown ({ frames := 16, cells := 144, slots := 1152, locals := 501 } : Room) [.ref (ad 0), .ref (ad 36), .ref (ad 37), .ref (ad 38), .int (nI nc), .int (nI no)] S 144 1152 (fun v T => v = 1 ∧ T = S) :=
  c_L_isTown l dC dI cyI cyB ad hI hlf S (g_X7_finds (bM S)) ⟨hB.1, rfl⟩ nc no hnc hno
set_option maxHeartbeats 4000000 in
set_option maxRecDepth 100000 in
theorem done_months {p : Program} {l : Launch} {e : Env} {s : State} {m : MethodId} {args : Array Value} {below : List Frame} {meth : Method} {c : Code} {dC : Nat → ClassId} {dI : Nat → Nat → Nat} {cyI cyB : ClassId} {ad : Nat → Nat} (hI : zI ad 39) (hlf : l.stackTraces = false) (cx : CallFix p m c cL_isDone 12 s args wsB_isDone RL) (hrt : meth.sig.returnType = some .boolean) (hlk : meth.locks = false) (hK : va_K (dC, dI) vwCl (lTys cyI cyB) s) (hXs : xL (zA ad 39 s.heap.size) s) (o : Nat) (ho : o < 6000) :
    ∀ (n k : Nat) (hk : k + n = 1 + o % 3) (S : zS) (hB : LBd S) (H : Heap) (locs : List Loc) (ls : Array Slot) (cells slots : Nat), va_P (dC, dI) vwCl (qw cyI ad S) H → va_S (zA ad 39 s.heap.size) s.heap H locs → lv_has ls 12 [(11, .int (nI k)), (10, .int 1), (7, .int (nI o)), (0, .ref (ad 0)), (3, .ref (ad 36)), (4, .ref (ad 37)), (5, .ref (ad 38))] → cells + 6 * n ≤ 18 → slots + 152 * n ≤ 456 →
      W p l e (headSpec wsB_isDone ({ frames := 10, cells := 18, slots := 456, locals := 234 } : Room)).room s m args below meth c H locs cells slots (MQ below (zQi (dC, dI) (qw cyI ad) (fun v T => v = 1 ∧ LBd T) (zA ad 39 s.heap.size)) args s 18 456 (zA ad 39 s.heap.size)) (F0 m 493 ls []) := by
  intro n
  induction n with
  | zero =>
    intro k hk S hB H locs ls cells slots hP hS hl hc1 hc2
    refine lv_iload cx.1 cx.2.1 dL_isDone_493 (lv_at hl 0 rfl) ?_
    refine lv_iconst (v := 1) cx.1 cx.2.1 dL_isDone_495 (by decide) ?_
    refine lv_iload cx.1 cx.2.1 dL_isDone_496 (lv_at hl 2 rfl) ?_
    refine lv_iconst (v := 3) cx.1 cx.2.1 dL_isDone_498 (by decide) ?_
    refine lv_irem cx.1 cx.2.1 dL_isDone_499 (by decide) ?_
    rw [show nI o - nI o / 3 * 3 = nI (o % 3) from pk_rem (a := o) (d := 3) (by omega) (by decide) (by decide)]
    refine zAddN (a := 1) (b := o % 3) cx.1 cx.2.1 dL_isDone_500 ?_
    refine lv_icmp_ge (tgt := 526) cx.1 cx.2.1 dL_isDone_501 (by decide) (fun c1 => ?_) (fun c1 => ?_)
    · refine lv_iload cx.1 cx.2.1 dL_isDone_526 (lv_at hl 1 rfl) ?_
      exact bRet (v := 1) cx hrt hlk (by first | rfl | decide) hS hP ⟨rfl, hB⟩ (by omega) (by omega) dL_isDone_528
    · exact absurd ((nI_leI (a := 1 + o % 3) (b := k) (by omega) (by omega)).mpr (by omega)) c1
  | succ n ih =>
    intro k hk S hB H locs ls cells slots hP hS hl hc1 hc2
    refine lv_iload cx.1 cx.2.1 dL_isDone_493 (lv_at hl 0 rfl) ?_
    refine lv_iconst (v := 1) cx.1 cx.2.1 dL_isDone_495 (by decide) ?_
    refine lv_iload cx.1 cx.2.1 dL_isDone_496 (lv_at hl 2 rfl) ?_
    refine lv_iconst (v := 3) cx.1 cx.2.1 dL_isDone_498 (by decide) ?_
    refine lv_irem cx.1 cx.2.1 dL_isDone_499 (by decide) ?_
    rw [show nI o - nI o / 3 * 3 = nI (o % 3) from pk_rem (a := o) (d := 3) (by omega) (by decide) (by decide)]
    refine zAddN (a := 1) (b := o % 3) cx.1 cx.2.1 dL_isDone_500 ?_
    refine lv_icmp_ge (tgt := 526) cx.1 cx.2.1 dL_isDone_501 (by decide) (fun c1 => ?_) (fun c1 => ?_)
    · have := (nI_leI (a := 1 + o % 3) (b := k) (by omega) (by omega)).mp c1
      omega
    · refine lv_iload cx.1 cx.2.1 dL_isDone_504 (lv_at hl 1 rfl) ?_
      refine lv_if_eq (tgt := 526) cx.1 cx.2.1 dL_isDone_506 (by decide) (fun c2 => ?_) (fun c2 => ?_)
      · exact absurd c2 (by decide)
      refine lv_aload_n cx.1 cx.2.1 dL_isDone_509 rfl (lv_at hl 3 rfl) ?_
      refine lv_aload_n cx.1 cx.2.1 dL_isDone_510 rfl (lv_at hl 4 rfl) ?_
      refine lv_aload cx.1 cx.2.1 dL_isDone_511 (lv_at hl 5 rfl) ?_
      refine lv_aload cx.1 cx.2.1 dL_isDone_513 (lv_at hl 6 rfl) ?_
      refine bCall (As := [.ref (ad 0), .ref (ad 36), .ref (ad 37), .ref (ad 38)]) (rest := []) 4 cx (c_L_isMonthB l dC dI cyI cyB ad hI hlf S hB) gL_isDone_L_isMonth rfl ⟨rfl, rfl⟩ (by decide +kernel) ⟨(Nat.le_of_ble_eq_true rfl), (Nat.le_of_ble_eq_true rfl)⟩ (xL_X ad 39) hXs hK hP hS rfl hl.1 rfl (Nat.le_of_ble_eq_true rfl) dL_isDone_515 ⟨by show cells + 6 ≤ 18; omega, by show slots + 152 ≤ 456; omega⟩ (fun r T H locs hp hP hS => ?_)
      obtain ⟨h7, hB2⟩ := hp
      subst h7
      refine lv_istore (lv' := [(10, .int 1), (11, .int (nI k)), (7, .int (nI o)), (0, .ref (ad 0)), (3, .ref (ad 36)), (4, .ref (ad 37)), (5, .ref (ad 38))]) cx.1 cx.2.1 dL_isDone_518 hl (by decide) rfl (fun ls hl => ?_)
      refine lv_iinc (v := nI (k + 1)) (lv' := [(11, .int (nI (k + 1))), (10, .int 1), (7, .int (nI o)), (0, .ref (ad 0)), (3, .ref (ad 36)), (4, .ref (ad 37)), (5, .ref (ad 38))]) cx.1 cx.2.1 dL_isDone_520 hl (k := 1) rfl (nI_1 k) (by decide) rfl (fun ls hl => ?_)
      refine lv_goto (tgt := 493) cx.1 cx.2.1 dL_isDone_523 (by decide) ?_
      exact ih (k + 1) (by omega) T hB2 H locs ls _ _ hP hS (lv_sub hl [0, 1, 2, 3, 4, 5, 6] rfl) (by omega) (by omega)
