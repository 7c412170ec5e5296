/-! THE FRAME, for methods that throw: a thrown exception leaves the world as it was -/
def xstrs : List (Nat × String) := [(152, "no such cell"), (156, "an argument is out of range"), (159, "the cash is too little"), (58, "the cell is not empty"), (97, "it is more than the debt"), (119, "no such place"), (83, "the cell is empty"), (92, "the debt would be too great")]
def xIO : String := "java/lang/IndexOutOfBoundsException"
def xIA : String := "java/lang/IllegalArgumentException"
def xIS : String := "java/lang/IllegalStateException"
def xdecl : List MethodName := [Bundle.initS "java/lang/RuntimeException", Bundle.initS "java/lang/Exception", Bundle.initS Bundle.tN]
def xcls : List String := [xIO, xIA, xIS]
theorem xdeclW {x : MethodName} {s U : State} (hW : s.WarmedH U.vm) (hZ : va_Nw (.declares x) s) : va_Nw (.declares x) U := va_tabs rfl (rfl : (s.setVm U.vm).vm = U.vm) (by rw [Cond.declares_setVm hW.alike]; exact hZ)
def xT : (Nat → Prop) → State → Prop := fun A U => xN A U ∧ vx_Zq Bundle.tN "UNASSIGNED_STACK" Bundle.steD A U U.heap ∧ vx_Zq Bundle.tN "SUPPRESSED_SENTINEL" Bundle.listD A U U.heap ∧ (∀ q ∈ xstrs, ∃ sa, vk_R RX6 q.1 q.2 sa U) ∧ (∀ x ∈ xdecl, va_Nw (.declares x) U) ∧ ∀ C ∈ xcls, va_Nw (.castable C C) U
theorem zq_on {C f d : String} {ad : Nat → Nat} {n : Nat} {s U : State} {H : Heap} {locs : List Loc} (h : vx_Zq C f d (zA ad n s.heap.size) s s.heap) (hU : U.heap = H) (hW : s.WarmedH U.vm) (hS : va_S (zA ad n s.heap.size) s.heap H locs) : vx_Zq C f d (zA ad n H.size) U U.heap := by
  rw [hU]
  exact ((h.moved hW.alike).kept hS.2.1).narrow (fun q hq => zA_mono hS.1 hq)
theorem xT_X (ad : Nat → Nat) (n : Nat) : zX xT ad n :=
  ⟨fun s U H locs h hU hW hS => ⟨(xN_X ad n).1 s U H locs h.1 hU hW hS, zq_on h.2.1 hU hW hS, zq_on h.2.2.1 hU hW hS, fun q hq => by
      obtain ⟨sa, hsa⟩ := h.2.2.2.1 q hq
      exact ⟨sa, vk_R.warm hW hsa⟩, fun x hx => xdeclW hW (h.2.2.2.2.1 x hx), fun C hC => va_Nw.warmC hW (h.2.2.2.2.2 C hC)⟩,
   fun A U g mk a h => ⟨(xN_X ad n).2 A U g mk a h.1, vx_Zq.moved (u := U) (U := U.calling g mk a) (Vm.Alike.refl U.vm) h.2.1, vx_Zq.moved (u := U) (U := U.calling g mk a) (Vm.Alike.refl U.vm) h.2.2.1, fun q hq => by
      obtain ⟨sa, hsa⟩ := h.2.2.2.1 q hq
      exact ⟨sa, vk_R.same rfl hsa⟩, fun x hx => va_Nw.same rfl rfl (h.2.2.2.2.1 x hx), fun C hC => va_Nw.same rfl rfl (h.2.2.2.2.2 C hC)⟩⟩
/-- the class that a call throws, if it throws one -/
def tOr (t : Option String) (r : Option String) : Option String := match t with
  | some E => some E
  | none => r
theorem tOr_n {t r : Option String} (h : t = none) : tOr t r = r := by rw [h]; rfl
theorem tOr_s {t r : Option String} {E : String} (h : t = some E) : tOr t r = some E := by rw [h]; rfl
def xXC (D : va_G) (w : zS → va_W) (S : zS) (px : Option String) (A : Nat → Prop) : String → State → State → Prop := vx_X (S := Unit) (fun _ => True) (fun E _ t => px = some E ∧ va_P D vwCl (w S) t.heap) A
def xMi (l : Launch) (D : va_G) (tys : List (ClassId × FieldType)) (ad : Nat → Nat) (n : Nat) (w : zS → va_W) (y : MethodName) (ws : List Cond) (rm : Room) (av : List Value) (S : zS) (mc ms : Nat) (post : Int32 → zS → Prop) (px : Option String) : Prop :=
  ∀ sz : Nat, vx_Met l y ws rm (zPc D tys ad n xT w av S sz) (zQi D w post (zA ad n sz)) (xXC D w S px (zA ad n sz)) mc ms (zA ad n sz)
def xMv (l : Launch) (D : va_G) (tys : List (ClassId × FieldType)) (ad : Nat → Nat) (n : Nat) (w : zS → va_W) (y : MethodName) (ws : List Cond) (rm : Room) (av : List Value) (S : zS) (mc ms : Nat) (post : zS → Prop) (px : Option String) : Prop :=
  ∀ sz : Nat, vx_Met l y ws rm (zPc D tys ad n xT w av S sz) (zQv D w post (zA ad n sz)) (xXC D w S px (zA ad n sz)) mc ms (zA ad n sz)
section XST
variable {l : Launch} {D : va_G} {tys : List (ClassId × FieldType)} {ad : Nat → Nat} {n : Nat} {w : zS → va_W}
theorem xStart {Qm : Nat → Array Value → State → Outcome → State → Prop} {Xm : Nat → String → State → State → Prop} {y : MethodName} {ws ws' : List Cond} {rm : Room} {av : List Value} {S : zS} {cc : ByteArray} {maxL mc ms : Nat} {ret : Option FieldType} (sz : Nat)
    (hy : plainName y.cls = true) (hw : ws = Cond.code y cc maxL ret :: ws') (hn : (lg_sl av).length ≤ maxL)
    (body : ∀ (p : Program) (e : Env) (s : State) (m : MethodId) (args : Array Value) (below : List Frame) (meth : Method) (c : Code) (ls : Array Slot), CallFix p m c cc maxL s args ws y.cls → meth.sig.returnType = ret → meth.locks = false → (∀ x ∈ c.exceptionTable.toList, False) → va_P D vwCl (w S) s.heap → va_K D vwCl tys s → xT (zA ad n s.heap.size) s → lv_has ls maxL (lv_args 0 av) →
      W p l e (headSpec ws rm).room s m args below meth c s.heap [] 0 0 (vx_MQ below (Qm s.heap.size) (Xm s.heap.size) args s mc ms (zA ad n s.heap.size)) (F0 m 0 ls [])) :
    vx_Met l y ws rm (zPc D tys ad n xT w av S sz) (Qm sz) (Xm sz) mc ms (zA ad n sz) := by
  refine vx_ofW (cc := cc) (maxL := maxL) (ret := ret) hy hw ?_
  intro p e s m args below meth c s₁ B hml hex hv
  obtain ⟨rfl, hsz, hP, hK, hXs⟩ := hv
  subst hsz
  have hl := lv_entry av (n := maxL) hn
  have hts := atoms_spec (ws := ws) B.pre
  have hown : s.vm.findClass y.cls = some m.cls := findClass_of_methodNamed B.named
  rw [lg_entry_eq]
  exact body p e s m av.toArray below meth c _ ⟨B.exec, B.bytes, hml, hown, hts⟩ B.returns B.notSynchronized hex hP hK hXs hl
theorem xStartI {post : Int32 → zS → Prop} {px : Option String} {y : MethodName} {ws ws' : List Cond} {rm : Room} {av : List Value} {S : zS} {cc : ByteArray} {maxL mc ms : Nat} {ret : Option FieldType}
    (hy : plainName y.cls = true) (hw : ws = Cond.code y cc maxL ret :: ws') (hn : (lg_sl av).length ≤ maxL)
    (body : ∀ (p : Program) (e : Env) (s : State) (m : MethodId) (args : Array Value) (below : List Frame) (meth : Method) (c : Code) (ls : Array Slot), CallFix p m c cc maxL s args ws y.cls → meth.sig.returnType = ret → meth.locks = false → (∀ x ∈ c.exceptionTable.toList, False) → va_P D vwCl (w S) s.heap → va_K D vwCl tys s → xT (zA ad n s.heap.size) s → lv_has ls maxL (lv_args 0 av) →
      W p l e (headSpec ws rm).room s m args below meth c s.heap [] 0 0 (vx_MQ below (zQi D w post (zA ad n s.heap.size)) (xXC D w S px (zA ad n s.heap.size)) args s mc ms (zA ad n s.heap.size)) (F0 m 0 ls [])) :
    xMi l D tys ad n w y ws rm av S mc ms post px := fun sz => xStart (Qm := fun sz => zQi D w post (zA ad n sz)) (Xm := fun sz => xXC D w S px (zA ad n sz)) sz hy hw hn body
theorem xStartV {post : zS → Prop} {px : Option String} {y : MethodName} {ws ws' : List Cond} {rm : Room} {av : List Value} {S : zS} {cc : ByteArray} {maxL mc ms : Nat} {ret : Option FieldType}
    (hy : plainName y.cls = true) (hw : ws = Cond.code y cc maxL ret :: ws') (hn : (lg_sl av).length ≤ maxL)
    (body : ∀ (p : Program) (e : Env) (s : State) (m : MethodId) (args : Array Value) (below : List Frame) (meth : Method) (c : Code) (ls : Array Slot), CallFix p m c cc maxL s args ws y.cls → meth.sig.returnType = ret → meth.locks = false → (∀ x ∈ c.exceptionTable.toList, False) → va_P D vwCl (w S) s.heap → va_K D vwCl tys s → xT (zA ad n s.heap.size) s → lv_has ls maxL (lv_args 0 av) →
      W p l e (headSpec ws rm).room s m args below meth c s.heap [] 0 0 (vx_MQ below (zQv D w post (zA ad n s.heap.size)) (xXC D w S px (zA ad n s.heap.size)) args s mc ms (zA ad n s.heap.size)) (F0 m 0 ls [])) :
    xMv l D tys ad n w y ws rm av S mc ms post px := fun sz => xStart (Qm := fun sz => zQv D w post (zA ad n sz)) (Xm := fun sz => xXC D w S px (zA ad n sz)) sz hy hw hn body
end XST
section XCA
variable {p : Program} {l : Launch} {e : Env} {R : Room} {s : State} {m : MethodId} {args : Array Value} {below : List Frame} {meth : Method} {c : Code} {H : Heap} {locs : List Loc} {cells slots : Nat} {Q : State → Prop}
variable {D : va_G} {tys : List (ClassId × FieldType)} {ad : Nat → Nat} {n : Nat} {w : zS → va_W}
variable {cc : ByteArray} {nL mc ms mc' ms' : Nat} {Ts : List Cond} {own : String} {y : MethodName} {ws ws' : List Cond} {rm : Room} {bytes : ByteArray} {maxL : Nat} {ret : Option FieldType} {C : String} {index pc : Nat} {ls : Array Slot} {st rest As : List Value} {b : Nat} {S S' : zS} {v : Int32} {q0 ci : Nat} {fs : List Value} {qc : vw_C} {Qm : Array Value → State → Outcome → State → Prop} {px px' : Option String}
theorem xRunV (Qc : Nat → Array Value → State → Outcome → State → Prop) (Xc : Nat → String → State → State → Prop) (na : Nat) (cx : CallFix p m c cc nL s args Ts own) (hM : ∀ sz, vx_Met l y ws rm (zPc D tys ad n xT w (.ref b :: As) S sz) (Qc sz) (Xc sz) mc ms (zA ad n sz))
    (hG : GoodIn Ts (wsV own index C y ws)) (hw : ws = Cond.code y bytes maxL ret :: ws') (hrm : rm.cells = mc ∧ rm.slots = ms)
    (hd : y.cls = C ∧ y.cls ≠ "java/lang/invoke/MethodHandle" ∧ y.cls ≠ "java/lang/invoke/VarHandle" ∧ (parseMethodDescriptor y.desc).map (fun d => d.parameters.length) = some na) (hR : rm.frames + 1 ≤ R.frames ∧ 8 + (maxL + 11) + rm.locals ≤ R.locals)
    (hXs : xT (zA ad n s.heap.size) s) (hK : va_K D vwCl tys s) (hP : va_P D vwCl (w S) H) (hS : va_S (zA ad n s.heap.size) s.heap H locs)
    (q0 : Nat) (he : (w S)[q0]? = some (b, .inr (ci, fs))) (hc : vwCl[ci]? = some qc) (hqc : qc.1 = C)
    (hna : As.length = na) (hsz : ls.size = nL) (hst : st = As.reverse ++ .ref b :: rest) (hrest : (rest.map fun v => v.category).sum ≤ 8) (hdg : decode cc pc = .ok (.invokevirtual index, 3)) (hcs : cells + mc ≤ R.cells ∧ slots + ms ≤ R.slots) :
    vx_Run p l e R s m args below meth c H locs cells slots mc ms (F0 m pc ls st) rest (Qc H.size (Value.ref b :: As).toArray) (Xc H.size) (zA ad n H.size) := by
  subst hqc
  exact vx_runV (As := As) (rest := rest) cx (hM H.size) (cwV na cx.2.2.2.2 hG hw hrm.1 hrm.2 hd hR) ⟨zBlind (xT_X ad n), va_recv hK hP hc he, zPre (xT_X ad n) hK hXs hP hS _⟩ rfl hna hsz hst (lv_room hrest) hdg hcs
theorem xRunS (Qc : Nat → Array Value → State → Outcome → State → Prop) (Xc : Nat → String → State → State → Prop) (na : Nat) (cx : CallFix p m c cc nL s args Ts own) (hM : ∀ sz, vx_Met l y ws rm (zPc D tys ad n xT w As S sz) (Qc sz) (Xc sz) mc ms (zA ad n sz))
    (hG : GoodIn Ts (va_wsS own index y ws)) (hw : ws = Cond.code y bytes maxL ret :: ws') (hrm : rm.cells = mc ∧ rm.slots = ms)
    (hd : y.cls ≠ "java/lang/invoke/MethodHandle" ∧ y.cls ≠ "java/lang/invoke/VarHandle" ∧ (parseMethodDescriptor y.desc).map (fun d => d.parameters.length) = some na) (hR : rm.frames + 1 ≤ R.frames ∧ 8 + (maxL + 11) + rm.locals ≤ R.locals)
    (hXs : xT (zA ad n s.heap.size) s) (hK : va_K D vwCl tys s) (hP : va_P D vwCl (w S) H) (hS : va_S (zA ad n s.heap.size) s.heap H locs)
    (hna : As.length = na) (hsz : ls.size = nL) (hst : st = As.reverse ++ rest) (hrest : (rest.map fun v => v.category).sum ≤ 8) (hdg : decode cc pc = .ok (.invokestatic index, 3)) (hcs : cells + mc ≤ R.cells ∧ slots + ms ≤ R.slots) :
    vx_Run p l e R s m args below meth c H locs cells slots mc ms (F0 m pc ls st) rest (Qc H.size As.toArray) (Xc H.size) (zA ad n H.size) :=
  vx_runS (As := As) (rest := rest) cx (hM H.size) (va_cwS na cx.2.2.2.2 hG hw hrm.1 hrm.2 hd hR) ⟨zBlind (xT_X ad n), zPre (xT_X ad n) hK hXs hP hS _⟩ rfl hna hsz hst (lv_room hrest) hdg hcs
/-- behind a call that may throw: what it throws goes on to our caller, and nothing was changed -/
theorem xThenV {post : zS → Prop} {av : Array Value} (hex : ∀ x ∈ c.exceptionTable.toList, False) (hlk : meth.locks = false) (hS : va_S (zA ad n s.heap.size) s.heap H locs) (hcm : cells + mc ≤ mc' ∧ slots + ms ≤ ms') (hpx : ∀ E, px' = some E → px = some E)
    (hr : vx_Run p l e R s m args below meth c H locs cells slots mc ms (F0 m pc ls st) rest (zQv D w post (zA ad n H.size) av) (xXC D w S px' (zA ad n H.size)) (zA ad n H.size))
    (kk : ∀ (T : zS) (H1 : Heap) (locs1 : List Loc), post T → va_P D vwCl (w T) H1 → va_S (zA ad n s.heap.size) s.heap H1 locs1 → W p l e R s m args below meth c H1 locs1 (cells + mc) (slots + ms) (vx_MQ below Qm (xXC D w S px (zA ad n s.heap.size)) args s mc' ms' (zA ad n s.heap.size)) (F0 m (pc + 3) ls rest)) : W p l e R s m args below meth c H locs cells slots (vx_MQ below Qm (xXC D w S px (zA ad n s.heap.size)) args s mc' ms' (zA ad n s.heap.size)) (F0 m pc ls st) :=
  vx_callv hr hS (zHf hS).1 (zHf hS).2 (zHf hS).1 (fun E ce q9 u t H1 locs1 ht hvm _ hB _ _ hS1 hce hcv hcl => vx_out (fun x hx => (hex x hx).elim) hlk hce hcv hcl (fun t2 ht2 _ => ⟨(), trivial, ⟨hpx E hB.1, by rw [ht2, ← ht]; exact hB.2⟩, hS1.F ht2⟩) hS1.2.2 hcm.1 hcm.2)
    (fun u t H1 locs1 ht _ hw hB _ _ hS1 => kk u H1 locs1 hw (by rw [← ht]; exact hB) hS1)
theorem xThenI {post : Int32 → zS → Prop} {av : Array Value} (hex : ∀ x ∈ c.exceptionTable.toList, False) (hlk : meth.locks = false) (hS : va_S (zA ad n s.heap.size) s.heap H locs) (hcm : cells + mc ≤ mc' ∧ slots + ms ≤ ms') (hpx : ∀ E, px' = some E → px = some E)
    (hr : vx_Run p l e R s m args below meth c H locs cells slots mc ms (F0 m pc ls st) rest (zQi D w post (zA ad n H.size) av) (xXC D w S px' (zA ad n H.size)) (zA ad n H.size))
    (kk : ∀ (r : Int32) (T : zS) (H1 : Heap) (locs1 : List Loc), post r T → va_P D vwCl (w T) H1 → va_S (zA ad n s.heap.size) s.heap H1 locs1 → W p l e R s m args below meth c H1 locs1 (cells + mc) (slots + ms) (vx_MQ below Qm (xXC D w S px (zA ad n s.heap.size)) args s mc' ms' (zA ad n s.heap.size)) (F0 m (pc + 3) ls (.int r :: rest))) : W p l e R s m args below meth c H locs cells slots (vx_MQ below Qm (xXC D w S px (zA ad n s.heap.size)) args s mc' ms' (zA ad n s.heap.size)) (F0 m pc ls st) :=
  vx_calli hr hS (zHf hS).1 (zHf hS).2 (zHf hS).1 (fun E ce q9 u t H1 locs1 ht hvm _ hB _ _ hS1 hce hcv hcl => vx_out (fun x hx => (hex x hx).elim) hlk hce hcv hcl (fun t2 ht2 _ => ⟨(), trivial, ⟨hpx E hB.1, by rw [ht2, ← ht]; exact hB.2⟩, hS1.F ht2⟩) hS1.2.2 hcm.1 hcm.2)
    (fun r u t H1 locs1 ht _ hw hB _ _ hS1 => kk r u H1 locs1 hw (by rw [← ht]; exact hB) hS1)
/-- throw new X("..") -/
theorem xThrow {cls text : String} {ik is ic : Nat} (cx : CallFix p m c cc nL s args Ts own) (hl : l.stackTraces = false) (hex : ∀ x ∈ c.exceptionTable.toList, False) (hlk : meth.locks = false) (hXs : xT (zA ad n s.heap.size) s) (hown : own = RX6)
    (hcls : cls ∈ xcls) (hk : Cond.classLink RX6 ik cls ∈ Ts) (hini : Cond.initialized cls ∈ Ts) (hstr : (is, text) ∈ xstrs)
    (hgw : ∀ w ∈ (vx_atS RX6 ic cls ["java/lang/RuntimeException", "java/lang/Exception"]).filter goodWord, w ∈ Ts)
    (hbw : ∀ w ∈ (vx_atS RX6 ic cls ["java/lang/RuntimeException", "java/lang/Exception"]).filter (fun w => !goodWord w), w ∈ (xdecl.map Cond.declares) ++ [Cond.castable cls cls])
    (hot : ∀ w ∈ Cond.classLink RX6 ik cls :: Cond.initialized cls :: vx_atS RX6 ic cls ["java/lang/RuntimeException", "java/lang/Exception"], vx_ot w = true)
    (hfit : Bundle.fit cls = true) (hS : va_S (zA ad n s.heap.size) s.heap H locs) (hP : va_P D vwCl (w S) H) (hsz : ls.size = nL) (hpx : px = some cls)
    (d0 : decode cc pc = .ok (.new ik, 3)) (d3 : decode cc (pc + 3) = .ok (.dup, 1)) (d4 : decode cc (pc + 4) = .ok (.ldc is, 2)) (d6 : decode cc (pc + 6) = .ok (.invokespecial ic, 3)) (d9 : decode cc (pc + 9) = .ok (.athrow, 1))
    (hR : 5 < R.frames ∧ (rest.map fun v => v.category).sum + 82 ≤ R.locals ∧ cells + 1 ≤ R.cells ∧ slots + 6 ≤ R.slots) (hcm : cells + 1 ≤ mc' ∧ slots + 6 ≤ ms') :
    W p l e R s m args below meth c H locs cells slots (vx_MQ below Qm (xXC D w S px (zA ad n s.heap.size)) args s mc' ms' (zA ad n s.heap.size)) (F0 m pc ls rest) := by
  subst hown
  obtain ⟨sa, hsa⟩ := hXs.2.2.2.1 _ hstr
  refine vx_throwS (names := ["java/lang/RuntimeException", "java/lang/Exception"]) cx.1 cx.2.1 hl cx.2.2.2.1 hfit (by decide +kernel) (cx.2.2.2.2 _ hk) (cx.2.2.2.2 _ hini) hsa ?_ hot hXs.2.1 hXs.2.2.1 hS (hsz.trans cx.2.2.1.symm) d0 d3 d4 d6 d9 (fun x hx => (hex x hx).elim) hR.1 hR.2.1 hR.2.2.1 hR.2.2.2 hlk ?_ hS.2.2 hcm.1 hcm.2
  · refine vx_hat (B := (xdecl.map Cond.declares) ++ [Cond.castable cls cls]) (fun w hw => cx.2.2.2.2 w (hgw w hw)) hbw (fun w hw => ?_)
    rcases List.mem_append.mp hw with hw | hw
    · obtain ⟨x, hx, rfl⟩ := List.mem_map.mp hw
      exact va_Nw.use rfl (hXs.2.2.2.2.1 x hx)
    · rw [List.mem_singleton.mp hw]
      exact va_Nw.use rfl (hXs.2.2.2.2.2 cls hcls)
  · intro t _ hsz2 hk2
    refine ⟨(), trivial, ⟨hpx, hP.kept (fun k q hk => hk2 q.1 ((hP k q hk).lt))⟩, Nat.le_trans hS.1 hsz2, fun q hq hA => ?_⟩
    rw [hk2 q (Nat.lt_of_lt_of_le hq hS.1)]
    exact hS.2.1 q hq hA
end XCA
