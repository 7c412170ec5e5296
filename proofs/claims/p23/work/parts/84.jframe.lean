/-! THE JDK'S METHODS BEHIND sign: a frame with the builder (2 cells), and one with no cells -/
def rmk (k cells slots : Nat) : Room := { frames := k, cells := cells, slots := slots, locals := 30 * k }
def bw (cyB : ClassId) (ad : Nat → Nat) (S : zS) : va_W := [(ad 0, .inr (1, [.ref (ad 1), .int 0, .int 0, .int (S 1 0)])), (ad 1, .inl (cyB, 16, .inl (S 0)))]
theorem bw_W (cyB : ClassId) (ad : Nat → Nat) : zW ad 2 (bw cyB ad) := fun _ => rfl
def w0 : zS → va_W := fun _ => []
theorem w0_W (ad : Nat → Nat) : zW ad 0 w0 := fun _ => rfl
def xB : (Nat → Prop) → State → Prop := fun A U => xJ A U U.heap
theorem xB_X (ad : Nat → Nat) (n : Nat) : zX xB ad n := xJ_X ad n
def xQ (a n : Nat) (f : Nat → Int32) : (Nat → Prop) → State → Prop := fun A U => xJ A U U.heap ∧ xStr a n f A U U.heap
theorem xQ_X (a k : Nat) (f : Nat → Int32) (ad : Nat → Nat) (n : Nat) : zX (xQ a k f) ad n :=
  zX_of (Y := fun A U H => xJ A U H ∧ xStr a k f A U H) (s0 := fun s U => s.vm.Alike U.vm) (fun A u U H hW h => ⟨h.1.moved hW, h.2.moved hW⟩) (fun A U g mk b H h => ⟨xJ.moved (u := U) (U := U.calling g mk b) (Vm.Alike.refl U.vm) h.1, xStr.moved (u := U) (U := U.calling g mk b) (Vm.Alike.refl U.vm) h.2⟩) (fun A U H H1 h hq => ⟨h.1.kept hq, h.2.kept hq⟩) (fun A B U H h hAB => ⟨h.1.narrow hAB, h.2.narrow hAB⟩) (fun _ _ h => h.alike) ad n
def xV (v n : Nat) (f : Nat → Int32) : (Nat → Prop) → State → Prop := fun A U => xJ A U U.heap ∧ va_T .byte v n (fun j => .int (f j)) A U U.heap
theorem xV_X (v k : Nat) (f : Nat → Int32) (ad : Nat → Nat) (n : Nat) : zX (xV v k f) ad n :=
  zX_of (Y := fun A U H => xJ A U H ∧ va_T .byte v k (fun j => .int (f j)) A U H) (s0 := fun s U => s.vm.Alike U.vm) (fun A u U H hW h => ⟨h.1.moved hW, va_T.moved hW h.2⟩) (fun A U g mk b H h => ⟨xJ.moved (u := U) (U := U.calling g mk b) (Vm.Alike.refl U.vm) h.1, va_T.moved (u := U) (U := U.calling g mk b) (Vm.Alike.refl U.vm) h.2⟩) (fun A U H H1 h hq => ⟨h.1.kept hq, h.2.kept hq⟩) (fun A B U H h hAB => ⟨h.1.narrow hAB, h.2.narrow hAB⟩) (fun _ _ h => h.alike) ad n
/-- a method that answers a cell of its world -/
def zMr (l : Launch) (D : va_G) (tys : List (ClassId × FieldType)) (ad : Nat → Nat) (n : Nat) (X : (Nat → Prop) → State → Prop) (w : zS → va_W) (y : MethodName) (ws : List Cond) (rm : Room) (av : List Value) (S : zS) (r : Nat) (post : zS → Prop) : Prop :=
  ∀ sz : Nat, Met l y ws rm (zPc D tys ad n X w av S sz) (va_Qr post (fun T a t => a = r ∧ va_P D vwCl (w T) t.heap) (zA ad n sz)) 0 0 (zA ad n sz)
section JCA
variable {p : Program} {l : Launch} {e : Env} {R : Room} {s : State} {m : MethodId} {args : Array Value} {below : List Frame} {meth : Method} {c : Code} {H : Heap} {locs : List Loc} {cells slots : Nat} {Q : State → Prop}
variable {D : va_G} {tys tys' : List (ClassId × FieldType)} {ad ad' : Nat → Nat} {n n' : Nat} {X X' : (Nat → Prop) → State → Prop} {w w' : zS → va_W}
variable {cc : ByteArray} {nL : Nat} {Ts : List Cond} {own owner : String} {x y : MethodName} {ws ws' : List Cond} {rm : Room} {bytes : ByteArray} {maxL : Nat} {ret : Option FieldType} {C host : String} {index pc : Nat} {ls : Array Slot} {st rest As : List Value} {b r : Nat} {S S' : zS} {v : Int32} {q0 ci : Nat} {fs : List Value} {qc : vw_C}
theorem zRunU (Qc : Nat → Array Value → State → Outcome → State → Prop) (na : Nat) (cx : CallFix p m c cc nL s args Ts own) (hM : ∀ sz, Met l y ws rm (zPc D tys ad n X w (.ref b :: As) S sz) (Qc sz) 0 0 (zA ad n sz))
    (hG : GoodIn Ts (va_wsU own index C owner x y ws)) (hw : ws = Cond.code y bytes maxL ret :: ws') (hrm : rm.cells = 0 ∧ rm.slots = 0) (hyx : y = ⟨owner, x.name, x.desc⟩)
    (hd : owner ≠ "java/lang/invoke/MethodHandle" ∧ owner ≠ "java/lang/invoke/VarHandle" ∧ (parseMethodDescriptor x.desc).map (fun d => d.parameters.length) = some na) (hR : rm.frames + 1 ≤ R.frames ∧ 8 + (maxL + 11) + rm.locals ≤ R.locals)
    (hX : zX X ad n) (hXs : X (zA ad n s.heap.size) s) (hK : va_K D vwCl tys s) (hP : va_P D vwCl (w S) H) (hS : va_S (zA ad n s.heap.size) s.heap H locs)
    (q0 : Nat) (he : (w S)[q0]? = some (b, .inr (ci, fs))) (hc : vwCl[ci]? = some qc) (hqc : qc.1 = C)
    (hna : As.length = na) (hsz : ls.size = nL) (hst : st = As.reverse ++ .ref b :: rest) (hrest : (rest.map fun v => v.category).sum ≤ 8) (hdg : decode cc pc = .ok (.invokevirtual index, 3)) (hcs : cells + 0 ≤ R.cells ∧ slots + 0 ≤ R.slots) :
    zRun p l e R s m args below meth c H locs cells slots ad n pc ls st rest (Qc H.size (Value.ref b :: As).toArray) := by
  subst hqc
  exact va_runU (As := As) (rest := rest) cx (hM H.size) (va_cwU na cx.2.2.2.2 hG hw hrm.1 hrm.2 hyx hd hR) ⟨zBlind hX, va_recv hK hP hc he, zPre hX hK hXs hP hS _⟩ rfl hna hsz hst (lv_room hrest) hdg hcs
/-- super.m(..) -/
theorem zRunSU (Qc : Nat → Array Value → State → Outcome → State → Prop) (na : Nat) (cx : CallFix p m c cc nL s args Ts own) (hM : ∀ sz, Met l y ws rm (zPc D tys ad n X w (.ref b :: As) S sz) (Qc sz) 0 0 (zA ad n sz))
    (hG : GoodIn Ts (va_wsSU own index y ws)) (hw : ws = Cond.code y bytes maxL ret :: ws') (hrm : rm.cells = 0 ∧ rm.slots = 0)
    (hd : y.name ≠ "<init>" ∧ (parseMethodDescriptor y.desc).map (fun d => d.parameters.length) = some na) (hR : rm.frames + 1 ≤ R.frames ∧ 8 + (maxL + 11) + rm.locals ≤ R.locals)
    (hX : zX X ad n) (hXs : X (zA ad n s.heap.size) s) (hK : va_K D vwCl tys s) (hP : va_P D vwCl (w S) H) (hS : va_S (zA ad n s.heap.size) s.heap H locs)
    (q0 : Nat) (he : (w S)[q0]? = some (b, .inr (ci, fs))) (hc : vwCl[ci]? = some qc) (hqc : qc.1 = own)
    (hna : As.length = na) (hsz : ls.size = nL) (hst : st = As.reverse ++ .ref b :: rest) (hrest : (rest.map fun v => v.category).sum ≤ 8) (hdg : decode cc pc = .ok (.invokespecial index, 3)) (hcs : cells + 0 ≤ R.cells ∧ slots + 0 ≤ R.slots) :
    zRun p l e R s m args below meth c H locs cells slots ad n pc ls st rest (Qc H.size (Value.ref b :: As).toArray) := by
  subst hqc
  exact va_runSU (As := As) (rest := rest) (hK.1 ci _ hc).2 cx (hM H.size) (va_cwSU na cx.2.2.2.2 hG hw hrm.1 hrm.2 hd hR) ⟨zBlind hX, va_recv hK hP hc he, zPre hX hK hXs hP hS _⟩ rfl hna hsz hst (lv_room hrest) hdg hcs
theorem zThenR {post : zS → Prop} {av : Array Value} (hS : va_S (zA ad n s.heap.size) s.heap H locs) (hr : zRun p l e R s m args below meth c H locs cells slots ad n pc ls st rest (va_Qr post (fun T a t => a = r ∧ va_P D vwCl (w T) t.heap) (zA ad n H.size) av))
    (kk : ∀ (T : zS) (H1 : Heap) (locs1 : List Loc), post T → va_P D vwCl (w T) H1 → va_S (zA ad n s.heap.size) s.heap H1 locs1 → W p l e R s m args below meth c H1 locs1 cells slots Q (F0 m (pc + 3) ls (.ref r :: rest))) : W p l e R s m args below meth c H locs cells slots Q (F0 m pc ls st) :=
  va_callr hr hS (zHf hS).1 (zHf hS).2 (fun u ra t H1 locs1 ht _ hw hB _ _ hS1 => by
    obtain ⟨h1, h2⟩ := hB
    subst h1
    exact kk u H1 locs1 hw (by rw [← ht]; exact h2) hS1)
theorem zRetR {post : zS → Prop} {rt : FieldType} (cx : CallFix p m c cc nL s args Ts own) (hr : meth.sig.returnType = some rt) (hrt : (∃ n, rt = .object n) ∨ ∃ t, rt = .array t) (hlocks : meth.locks = false) (hS : va_S (zA ad n s.heap.size) s.heap H locs) (hP : va_P D vwCl (w S') H) (hp : post S') (hdg : decode cc pc = .ok (.areturn, 1)) :
    W p l e R s m args below meth c H locs cells slots (MQ below (va_Qr post (fun T a t => a = r ∧ va_P D vwCl (w T) t.heap) (zA ad n s.heap.size)) args s cells slots (zA ad n s.heap.size)) (F0 m pc ls [.ref r]) :=
  W.aret cx.1 cx.2.1 hr hrt (Or.inr ⟨r, rfl⟩) (fun t ht _ => ⟨⟨S', r, rfl, hp, rfl, by rw [ht]; exact hP⟩, hS.F ht⟩) hS.2.2 hdg hlocks
/-- a call whose callee's world is none: all that was there stays -/
theorem zOld (hS : va_S (zA ad n s.heap.size) s.heap H locs) : ∀ q, zA ad' 0 H.size q → zA ad n s.heap.size q := fun q h => h.elim (fun ⟨k, hk, _⟩ => absurd hk (Nat.not_lt_zero k)) (fun h => Or.inr (Nat.le_trans hS.1 h))
theorem zNew {q : Nat} (hq : q < H.size) : ¬ zA ad' 0 H.size q := fun h => h.elim (fun ⟨k, hk, _⟩ => absurd hk (Nat.not_lt_zero k)) (fun h => absurd h (Nat.not_le.mpr hq))
theorem gThenI {post : Int32 → zS → Prop} {av : Array Value} {mc ms : Nat} (hS : va_S (zA ad n s.heap.size) s.heap H locs) (hr : va_Run p l e R s m args below meth c H locs cells slots mc ms (F0 m pc ls st) rest (zQi D w' post (zA ad' 0 H.size) av) (zA ad' 0 H.size))
    (kk : ∀ (r : Int32) (T : zS) (H1 : Heap) (locs1 : List Loc), post r T → (∀ q : Nat, q < H.size → H1[q]? = H[q]?) → va_S (zA ad n s.heap.size) s.heap H1 locs1 → W p l e R s m args below meth c H1 locs1 (cells + mc) (slots + ms) Q (F0 m (pc + 3) ls (.int r :: rest))) : W p l e R s m args below meth c H locs cells slots Q (F0 m pc ls st) :=
  va_calli hr hS (fun q _ h => zOld hS q h) (zOld hS) (fun r u t H1 locs1 ht _ hw hB _ hk1 hS1 => kk r u H1 locs1 hw (fun q hq => hk1 q hq (zNew hq)) hS1)
theorem gThenV {post : zS → Prop} {av : Array Value} {mc ms : Nat} (hS : va_S (zA ad n s.heap.size) s.heap H locs) (hr : va_Run p l e R s m args below meth c H locs cells slots mc ms (F0 m pc ls st) rest (zQv D w' post (zA ad' 0 H.size) av) (zA ad' 0 H.size))
    (kk : ∀ (T : zS) (H1 : Heap) (locs1 : List Loc), post T → (∀ q : Nat, q < H.size → H1[q]? = H[q]?) → va_S (zA ad n s.heap.size) s.heap H1 locs1 → W p l e R s m args below meth c H1 locs1 (cells + mc) (slots + ms) Q (F0 m (pc + 3) ls rest)) : W p l e R s m args below meth c H locs cells slots Q (F0 m pc ls st) :=
  va_callv hr hS (fun q _ h => zOld hS q h) (zOld hS) (fun u t H1 locs1 ht _ hw hB _ hk1 hS1 => kk u H1 locs1 hw (fun q hq => hk1 q hq (zNew hq)) hS1)
/-- a static method with no world, whose own premises are at hand -/
theorem gRunS (Qc : Nat → Array Value → State → Outcome → State → Prop) (na : Nat) {mc ms : Nat} (cx : CallFix p m c cc nL s args Ts own) (hM : ∀ sz, Met l y ws rm (zPc D tys' ad' 0 X' w0 As S sz) (Qc sz) mc ms (zA ad' 0 sz))
    (hG : GoodIn Ts (va_wsS own index y ws)) (hw : ws = Cond.code y bytes maxL ret :: ws') (hrm : rm.cells = mc ∧ rm.slots = ms)
    (hd : y.cls ≠ "java/lang/invoke/MethodHandle" ∧ y.cls ≠ "java/lang/invoke/VarHandle" ∧ (parseMethodDescriptor y.desc).map (fun d => d.parameters.length) = some na) (hR : rm.frames + 1 ≤ R.frames ∧ 8 + (maxL + 11) + rm.locals ≤ R.locals)
    (hX : zX X' ad' 0) (hXs : ∀ U : State, U.heap = H → s.WarmedH U.vm → X' (zA ad' 0 H.size) U) (hK : va_K D vwCl tys' s)
    (hna : As.length = na) (hsz : ls.size = nL) (hst : st = As.reverse ++ rest) (hrest : (rest.map fun v => v.category).sum ≤ 8) (hdg : decode cc pc = .ok (.invokestatic index, 3)) (hcs : cells + mc ≤ R.cells ∧ slots + ms ≤ R.slots) :
    va_Run p l e R s m args below meth c H locs cells slots mc ms (F0 m pc ls st) rest (Qc H.size As.toArray) (zA ad' 0 H.size) :=
  va_runS (As := As) (rest := rest) cx (hM H.size) (va_cwS na cx.2.2.2.2 hG hw hrm.1 hrm.2 hd hR) ⟨zBlind hX, fun U hU hW => ⟨rfl, by rw [hU], fun k q h => by simp [w0] at h, va_K.moved hW.alike hK, hXs U hU hW⟩⟩ rfl hna hsz hst (lv_room hrest) hdg hcs
/-- a method of a text (of which the premises tell) with no world -/
theorem gRunQ (Qc : Nat → Array Value → State → Outcome → State → Prop) (na : Nat) {a k : Nat} {f : Nat → Int32} (cx : CallFix p m c cc nL s args Ts own) (hM : ∀ sz, Met l y ws rm (zPc D tys' ad' 0 (xQ a k f) w0 (.ref a :: As) S sz) (Qc sz) 0 0 (zA ad' 0 sz))
    (hG : GoodIn Ts (wsV own index RJ0 y ws)) (hw : ws = Cond.code y bytes maxL ret :: ws') (hrm : rm.cells = 0 ∧ rm.slots = 0)
    (hd : y.cls = RJ0 ∧ y.cls ≠ "java/lang/invoke/MethodHandle" ∧ y.cls ≠ "java/lang/invoke/VarHandle" ∧ (parseMethodDescriptor y.desc).map (fun d => d.parameters.length) = some na) (hR : rm.frames + 1 ≤ R.frames ∧ 8 + (maxL + 11) + rm.locals ≤ R.locals)
    (hXs : ∀ U : State, U.heap = H → s.WarmedH U.vm → xQ a k f (zA ad' 0 H.size) U) (hrc : ∃ cell : Cell, H[a]? = some cell ∧ cell.vm.isStatics = false ∧ s.vm.findClass RJ0 = some cell.cls) (hK : va_K D vwCl tys' s)
    (hna : As.length = na) (hsz : ls.size = nL) (hst : st = As.reverse ++ .ref a :: rest) (hrest : (rest.map fun v => v.category).sum ≤ 8) (hdg : decode cc pc = .ok (.invokevirtual index, 3)) (hcs : cells + 0 ≤ R.cells ∧ slots + 0 ≤ R.slots) :
    va_Run p l e R s m args below meth c H locs cells slots 0 0 (F0 m pc ls st) rest (Qc H.size (Value.ref a :: As).toArray) (zA ad' 0 H.size) :=
  va_runV (As := As) (rest := rest) cx (hM H.size) (cwV na cx.2.2.2.2 hG hw hrm.1 hrm.2 hd hR) ⟨zBlind (xQ_X a k f ad' 0), hrc, fun U hU hW => ⟨rfl, by rw [hU], fun k q h => by simp [w0] at h, va_K.moved hW.alike hK, hXs U hU hW⟩⟩ rfl hna hsz hst (lv_room hrest) hdg hcs
theorem zBstN {a : Nat} {cA : ClassId} {N : Nat} {f : Nat → Int32} {i x : Int32} (cx : CallFix p m c cc nL s args Ts own) (hW : zW ad n w) (hI : zI ad n) (hK : va_K D vwCl tys s) (hP : va_P D vwCl (w S) H) (hS : va_S (zA ad n s.heap.size) s.heap H locs) (q0 t0 : Nat) (ha : (w S)[q0]? = some (a, .inl (cA, N, .inl f))) (ht : tys[t0]? = some (cA, .byte)) (j : Nat) (hj : j < N) (hN : N < 2 ^ 31) (hi : i = nI j) (x' : Int32) (hx : vp_nar .byte x = x')
    (S' : zS) (hset : (w S).set q0 (a, .inl (cA, N, .inl (upd f j x'))) = w S') (hdg : decode cc pc = .ok (.bastore, 1))
    (kk : ∀ (H1 : Heap) (locs1 : List Loc), va_P D vwCl (w S') H1 → va_S (zA ad n s.heap.size) s.heap H1 locs1 → W p l e R s m args below meth c H1 locs1 cells slots Q (F0 m (pc + 1) ls rest)) : W p l e R s m args below meth c H locs cells slots Q (F0 m pc ls (.int x :: .int i :: .ref a :: rest)) := by
  subst hi
  refine va_bast cx.1 cx.2.1 hK hP (zD hW hI S (fun _ h => zA_ad h)) hS q0 t0 ha ht (vp_in_nI hj hN) hdg (fun H1 locs1 hP1 _ hS1 => kk H1 locs1 ?_ hS1)
  rw [← hset]
  rw [nI_clamp (Nat.lt_trans hj hN)] at hP1
  rw [← hx]
  exact hP1
end JCA
/-- a text's cell, and a row of bytes, as what is taken as given -/
theorem xStr_of {Ts : List Cond} {args : Array Value} {s : State} {D : va_G} {tys : List (ClassId × FieldType)} {A : Nat → Prop} {H : Heap} {a v n : Nat} {f : Nat → Int32} {x y : Value} (hts : ∀ w ∈ Ts, w.before args s = true) (hin : ∀ w ∈ u_ws RJ0 TJ0 4, w ∈ Ts) (hK : va_K D vwCl tys s) (hP : va_P D vwCl [(a, .inr (0, [.ref v, .int 0, x, y]))] H) (hT : va_T .byte v n (fun j => .int (f j)) A s H) (hA : ¬ A a) : xStr a n f A s H := by
  obtain ⟨r, h1, cell, q1, q2, q3, q4⟩ := hP 0 _ rfl
  have hr : r = (RJ0, TJ0, 4) := Option.some.inj (h1.symm.trans rfl)
  subst hr
  obtain ⟨hS, hfc, kC, hkC, hkind⟩ := hK.1 0 _ rfl
  refine ⟨v, ⟨cell, q1, (by rw [q3]; rfl), (by rw [q2]; exact hfc), hA⟩, ?_, ?_, hT⟩
  · obtain ⟨cf, kf, fi, fd, hi, hsl⟩ := hS 1 (by decide)
    exact ⟨cf, kf, fi, fd, cell, hi, (u_facts hfc hkC (u_lays hts hin (k := 1) (by decide)) hi).1, q1, (by rw [q3]; exact fun h => (by cases h)), (by rw [hsl, q4 1 (by decide)]; rfl), hA⟩
  · obtain ⟨cf, kf, fi, fd, hi, hsl⟩ := hS 0 (by decide)
    exact ⟨cf, kf, fi, fd, cell, hi, (u_facts hfc hkC (u_lays hts hin (k := 0) (by decide)) hi).1, q1, (by rw [q3]; exact fun h => (by cases h)), (by rw [hsl, q4 0 (by decide)]; rfl), hA⟩
theorem vaT_of {s : State} {D : va_G} {tys : List (ClassId × FieldType)} {A : Nat → Prop} {H : Heap} {q n t0 : Nat} {cB : ClassId} {f : Nat → Int32} (hK : va_K D vwCl tys s) (ht : tys[t0]? = some (cB, .byte)) (hP : va_P D vwCl [(q, .inl (cB, n, .inl f))] H) (hA : ¬ A q) : va_T .byte q n (fun j => .int (f j)) A s H :=
  ⟨_, hP 0 _ rfl, (hK.2 t0 _ ht).1 n (fun j => .int (f j)), (fun z => by cases z), Nat.le_of_eq (arrV_size _ _ _).symm, (by show (arrV _ _ _).slots.size.toInt32 = _; rw [arrV_size]), fun j hj => arrV_read _ _ hj, hA⟩
