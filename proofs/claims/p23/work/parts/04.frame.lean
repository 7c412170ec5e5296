/-! THE FRAME: a system whose cells stay where they are (addresses ad 0 .. ad (n-1)) and whose contents are one function zS (row, place); contracts, calls and ends in these words -/
abbrev zS : Type := Nat → Nat → Int32
def zUp (S : zS) (r : Nat) (f : Nat → Int32) : zS := fun a => if a = r then f else S a
theorem zUp_s (S : zS) (r : Nat) (f : Nat → Int32) : zUp S r f r = f := by simp [zUp]
theorem zUp_n (S : zS) {r a : Nat} (f : Nat → Int32) (h : a ≠ r) : zUp S r f a = S a := by simp [zUp, h]
def zA (ad : Nat → Nat) (n sz : Nat) : Nat → Prop := fun q => (∃ k, k < n ∧ q = ad k) ∨ sz ≤ q
def zI (ad : Nat → Nat) (n : Nat) : Prop := ∀ i j, i < n → j < n → ad i = ad j → i = j
def zW (ad : Nat → Nat) (n : Nat) (w : zS → va_W) : Prop := ∀ S, (w S).map (fun q => q.1) = (List.range n).map ad
theorem zW_at {ad : Nat → Nat} {n : Nat} {w : zS → va_W} (hW : zW ad n w) {S : zS} {k : Nat} {q : Nat × va_E} (h : (w S)[k]? = some q) : k < n ∧ q.1 = ad k := by
  have h1 : ((w S).map (fun q => q.1))[k]? = some q.1 := by rw [List.getElem?_map, h]; rfl
  rw [hW S, List.getElem?_map] at h1
  cases hr : (List.range n)[k]? with
  | none => rw [hr] at h1; cases h1
  | some i =>
    rw [hr] at h1
    obtain ⟨hl, hi⟩ := List.getElem?_eq_some_iff.mp hr
    rw [List.getElem_range] at hi
    rw [List.length_range] at hl
    subst hi
    exact ⟨hl, (Option.some.inj h1).symm⟩
theorem zD {ad : Nat → Nat} {n : Nat} {w : zS → va_W} (hW : zW ad n w) (hI : zI ad n) (S : zS) {A : Nat → Prop} (hA : ∀ k, k < n → A (ad k)) : va_D A (w S) := by
  refine ⟨fun i j p q hi hj hpq => ?_, fun k q hk => ?_⟩
  · obtain ⟨a1, a2⟩ := zW_at hW hi
    obtain ⟨b1, b2⟩ := zW_at hW hj
    exact hI i j a1 b1 (by rw [← a2, ← b2]; exact hpq)
  · obtain ⟨a1, a2⟩ := zW_at hW hk
    rw [a2]
    exact hA k a1
theorem zA_ad {ad : Nat → Nat} {n sz k : Nat} (h : k < n) : zA ad n sz (ad k) := Or.inl ⟨k, h, rfl⟩
theorem zA_ge {ad : Nat → Nat} {n sz q : Nat} (h : sz ≤ q) : zA ad n sz q := Or.inr h
theorem zA_mono {ad : Nat → Nat} {n sz sz' q : Nat} (h : sz ≤ sz') (hq : zA ad n sz' q) : zA ad n sz q := hq.elim Or.inl (fun z => Or.inr (Nat.le_trans h z))
/-- a premise of a state beside the world (statics, links of nest mates, texts) that calls carry on -/
def zX (X : (Nat → Prop) → State → Prop) (ad : Nat → Nat) (n : Nat) : Prop :=
  (∀ (s U : State) (H : Heap) (locs : List Loc), X (zA ad n s.heap.size) s → U.heap = H → s.WarmedH U.vm → va_S (zA ad n s.heap.size) s.heap H locs → X (zA ad n H.size) U) ∧
  (∀ (A : Nat → Prop) (U : State) (g : JFrame) (mk : MethodId) (a : Array Value), X A U → X A (U.calling g mk a))
theorem zX_true {ad : Nat → Nat} {n : Nat} : zX (fun _ _ => True) ad n := ⟨fun _ _ _ _ _ _ _ _ => trivial, fun _ _ _ _ _ _ => trivial⟩
def zPc (D : va_G) (tys : List (ClassId × FieldType)) (ad : Nat → Nat) (n : Nat) (X : (Nat → Prop) → State → Prop) (w : zS → va_W) (av : List Value) (S : zS) (sz : Nat) : Array Value → State → Prop :=
  va_Pc av (fun U => U.heap.size = sz ∧ va_P D vwCl (w S) U.heap ∧ va_K D vwCl tys U ∧ X (zA ad n sz) U)
def zQi (D : va_G) (w : zS → va_W) (post : Int32 → zS → Prop) (A : Nat → Prop) : Array Value → State → Outcome → State → Prop := va_Qi post (fun T t => va_P D vwCl (w T) t.heap) A
def zQv (D : va_G) (w : zS → va_W) (post : zS → Prop) (A : Nat → Prop) : Array Value → State → Outcome → State → Prop := va_Qv post (fun T t => va_P D vwCl (w T) t.heap) A
/-- contracts: a method that answers a number; one that answers nothing -/
def zMi (l : Launch) (D : va_G) (tys : List (ClassId × FieldType)) (ad : Nat → Nat) (n : Nat) (X : (Nat → Prop) → State → Prop) (w : zS → va_W) (y : MethodName) (ws : List Cond) (rm : Room) (av : List Value) (S : zS) (post : Int32 → zS → Prop) : Prop :=
  ∀ sz : Nat, Met l y ws rm (zPc D tys ad n X w av S sz) (zQi D w post (zA ad n sz)) 0 0 (zA ad n sz)
def zMv (l : Launch) (D : va_G) (tys : List (ClassId × FieldType)) (ad : Nat → Nat) (n : Nat) (X : (Nat → Prop) → State → Prop) (w : zS → va_W) (y : MethodName) (ws : List Cond) (rm : Room) (av : List Value) (S : zS) (post : zS → Prop) : Prop :=
  ∀ sz : Nat, Met l y ws rm (zPc D tys ad n X w av S sz) (zQv D w post (zA ad n sz)) 0 0 (zA ad n sz)
section ZST
variable {l : Launch} {D : va_G} {tys : List (ClassId × FieldType)} {ad : Nat → Nat} {n : Nat} {X : (Nat → Prop) → State → Prop} {w : zS → va_W}
theorem zBlind (hX : zX X ad n) {av : List Value} {S : zS} {sz : Nat} : FrameBlind (zPc D tys ad n X w av S sz) := by
  intro a U g mk q
  obtain ⟨q0, q1, qP, qK, qX⟩ := q
  exact ⟨q0, q1, qP, va_K.moved (u := U) (U := U.calling g mk a) (Vm.Alike.refl U.vm) qK, hX.2 _ _ _ _ _ qX⟩
/-- how a method begins -/
theorem zStart {Qm : Nat → Array Value → State → Outcome → State → Prop} {y : MethodName} {ws ws' : List Cond} {rm : Room} {av : List Value} {S : zS} {cc : ByteArray} {maxL : Nat} {ret : Option FieldType} {sz : Nat}
    (hy : plainName y.cls = true) (hw : ws = Cond.code y cc maxL ret :: ws') (hn : (lg_sl av).length ≤ maxL)
    (body : ∀ (p : Program) (e : Env) (s : State) (m : MethodId) (args : Array Value) (below : List Frame) (meth : Method) (c : Code) (ls : Array Slot), CallFix p m c cc maxL s args ws y.cls → meth.sig.returnType = ret → meth.locks = false → va_P D vwCl (w S) s.heap → va_K D vwCl tys s → X (zA ad n s.heap.size) s → lv_has ls maxL (lv_args 0 av) →
      W p l e (headSpec ws rm).room s m args below meth c s.heap [] 0 0 (MQ below (Qm s.heap.size) args s 0 0 (zA ad n s.heap.size)) (F0 m 0 ls [])) :
    Met l y ws rm (zPc D tys ad n X w av S sz) (Qm sz) 0 0 (zA ad n sz) := by
  refine Met.ofW (cc := cc) (maxL := maxL) (ret := ret) hy hw ?_
  intro p e s m args below meth c s₁ B hml hv
  obtain ⟨rfl, hsz, hP, hK, hXs⟩ := hv
  subst hsz
  have hl := lv_entry av (n := maxL) hn
  have hts := atoms_spec (ws := ws) B.pre
  have hown : s.vm.findClass y.cls = some m.cls := findClass_of_methodNamed B.named
  rw [lg_entry_eq]
  exact body p e s m av.toArray below meth c _ ⟨B.exec, B.bytes, hml, hown, hts⟩ B.returns B.notSynchronized hP hK hXs hl
theorem zStartI {post : Int32 → zS → Prop} {y : MethodName} {ws ws' : List Cond} {rm : Room} {av : List Value} {S : zS} {cc : ByteArray} {maxL : Nat} {ret : Option FieldType}
    (hy : plainName y.cls = true) (hw : ws = Cond.code y cc maxL ret :: ws') (hn : (lg_sl av).length ≤ maxL)
    (body : ∀ (p : Program) (e : Env) (s : State) (m : MethodId) (args : Array Value) (below : List Frame) (meth : Method) (c : Code) (ls : Array Slot), CallFix p m c cc maxL s args ws y.cls → meth.sig.returnType = ret → meth.locks = false → va_P D vwCl (w S) s.heap → va_K D vwCl tys s → X (zA ad n s.heap.size) s → lv_has ls maxL (lv_args 0 av) →
      W p l e (headSpec ws rm).room s m args below meth c s.heap [] 0 0 (MQ below (zQi D w post (zA ad n s.heap.size)) args s 0 0 (zA ad n s.heap.size)) (F0 m 0 ls [])) :
    zMi l D tys ad n X w y ws rm av S post := fun _ => zStart (Qm := fun sz => zQi D w post (zA ad n sz)) hy hw hn body
theorem zStartV {post : zS → Prop} {y : MethodName} {ws ws' : List Cond} {rm : Room} {av : List Value} {S : zS} {cc : ByteArray} {maxL : Nat} {ret : Option FieldType}
    (hy : plainName y.cls = true) (hw : ws = Cond.code y cc maxL ret :: ws') (hn : (lg_sl av).length ≤ maxL)
    (body : ∀ (p : Program) (e : Env) (s : State) (m : MethodId) (args : Array Value) (below : List Frame) (meth : Method) (c : Code) (ls : Array Slot), CallFix p m c cc maxL s args ws y.cls → meth.sig.returnType = ret → meth.locks = false → va_P D vwCl (w S) s.heap → va_K D vwCl tys s → X (zA ad n s.heap.size) s → lv_has ls maxL (lv_args 0 av) →
      W p l e (headSpec ws rm).room s m args below meth c s.heap [] 0 0 (MQ below (zQv D w post (zA ad n s.heap.size)) args s 0 0 (zA ad n s.heap.size)) (F0 m 0 ls [])) :
    zMv l D tys ad n X w y ws rm av S post := fun _ => zStart (Qm := fun sz => zQv D w post (zA ad n sz)) hy hw hn body
end ZST
section ZCA
variable {p : Program} {l : Launch} {e : Env} {R : Room} {s : State} {m : MethodId} {args : Array Value} {below : List Frame} {meth : Method} {c : Code} {H : Heap} {locs : List Loc} {cells slots : Nat} {Q : State → Prop}
variable {D : va_G} {tys : List (ClassId × FieldType)} {ad : Nat → Nat} {n : Nat} {X : (Nat → Prop) → State → Prop} {w : zS → va_W}
variable {cc : ByteArray} {nL : Nat} {Ts : List Cond} {own : String} {y : MethodName} {ws ws' : List Cond} {rm : Room} {bytes : ByteArray} {maxL : Nat} {ret : Option FieldType} {C host : String} {index pc : Nat} {ls : Array Slot} {st rest As : List Value} {b : Nat} {S S' : zS} {v : Int32} {q0 ci : Nat} {fs : List Value} {qc : vw_C}
theorem zHf (hS : va_S (zA ad n s.heap.size) s.heap H locs) : (∀ q, q < H.size → zA ad n H.size q → zA ad n s.heap.size q) ∧ ∀ q, zA ad n H.size q → zA ad n s.heap.size q :=
  ⟨fun _ _ h => zA_mono hS.1 h, fun _ h => zA_mono hS.1 h⟩
theorem zPre (hX : zX X ad n) (hK : va_K D vwCl tys s) (hXs : X (zA ad n s.heap.size) s) (hP : va_P D vwCl (w S) H) (hS : va_S (zA ad n s.heap.size) s.heap H locs) (av : List Value) : ∀ U : State, U.heap = H → s.WarmedH U.vm → zPc D tys ad n X w av S H.size av.toArray U :=
  fun U hU hW => ⟨rfl, by rw [hU], by rw [hU]; exact hP, va_K.moved hW.alike hK, hX.1 s U H locs hXs hU hW hS⟩
/-- the ways to call: a virtual method of a class, a static one, a static one of a nest mate -/
def zRun (p : Program) (l : Launch) (e : Env) (R : Room) (s : State) (m : MethodId) (args : Array Value) (below : List Frame) (meth : Method) (c : Code) (H : Heap) (locs : List Loc) (cells slots : Nat) (ad : Nat → Nat) (n pc : Nat) (ls : Array Slot) (st rest : List Value) (Qa : State → Outcome → State → Prop) : Prop :=
  va_Run p l e R s m args below meth c H locs cells slots 0 0 (F0 m pc ls st) rest Qa (zA ad n H.size)
theorem zRunV (Qc : Nat → Array Value → State → Outcome → State → Prop) (na : Nat) (cx : CallFix p m c cc nL s args Ts own) (hM : ∀ sz, Met l y ws rm (zPc D tys ad n X w (.ref b :: As) S sz) (Qc sz) 0 0 (zA ad n sz))
    (hG : GoodIn Ts (wsV own index C y ws)) (hw : ws = Cond.code y bytes maxL ret :: ws') (hrm : rm.cells = 0 ∧ rm.slots = 0)
    (hd : y.cls = C ∧ y.cls ≠ "java/lang/invoke/MethodHandle" ∧ y.cls ≠ "java/lang/invoke/VarHandle" ∧ (parseMethodDescriptor y.desc).map (fun d => d.parameters.length) = some na) (hR : rm.frames + 1 ≤ R.frames ∧ 8 + (maxL + 11) + rm.locals ≤ R.locals)
    (hX : zX X ad n) (hXs : X (zA ad n s.heap.size) s) (hK : va_K D vwCl tys s) (hP : va_P D vwCl (w S) H) (hS : va_S (zA ad n s.heap.size) s.heap H locs)
    (q0 : Nat) (he : (w S)[q0]? = some (b, .inr (ci, fs))) (hc : vwCl[ci]? = some qc) (hqc : qc.1 = C)
    (hna : As.length = na) (hsz : ls.size = nL) (hst : st = As.reverse ++ .ref b :: rest) (hrest : (rest.map fun v => v.category).sum ≤ 8) (hdg : decode cc pc = .ok (.invokevirtual index, 3)) (hcs : cells + 0 ≤ R.cells ∧ slots + 0 ≤ R.slots) :
    zRun p l e R s m args below meth c H locs cells slots ad n pc ls st rest (Qc H.size (Value.ref b :: As).toArray) := by
  subst hqc
  exact va_runV (As := As) (rest := rest) cx (hM H.size) (cwV na cx.2.2.2.2 hG hw hrm.1 hrm.2 hd hR) ⟨zBlind hX, va_recv hK hP hc he, zPre hX hK hXs hP hS _⟩ rfl hna hsz hst (lv_room hrest) hdg hcs
theorem zRunS (Qc : Nat → Array Value → State → Outcome → State → Prop) (na : Nat) (cx : CallFix p m c cc nL s args Ts own) (hM : ∀ sz, Met l y ws rm (zPc D tys ad n X w As S sz) (Qc sz) 0 0 (zA ad n sz))
    (hG : GoodIn Ts (va_wsS own index y ws)) (hw : ws = Cond.code y bytes maxL ret :: ws') (hrm : rm.cells = 0 ∧ rm.slots = 0)
    (hd : y.cls ≠ "java/lang/invoke/MethodHandle" ∧ y.cls ≠ "java/lang/invoke/VarHandle" ∧ (parseMethodDescriptor y.desc).map (fun d => d.parameters.length) = some na) (hR : rm.frames + 1 ≤ R.frames ∧ 8 + (maxL + 11) + rm.locals ≤ R.locals)
    (hX : zX X ad n) (hXs : X (zA ad n s.heap.size) s) (hK : va_K D vwCl tys s) (hP : va_P D vwCl (w S) H) (hS : va_S (zA ad n s.heap.size) s.heap H locs)
    (hna : As.length = na) (hsz : ls.size = nL) (hst : st = As.reverse ++ rest) (hrest : (rest.map fun v => v.category).sum ≤ 8) (hdg : decode cc pc = .ok (.invokestatic index, 3)) (hcs : cells + 0 ≤ R.cells ∧ slots + 0 ≤ R.slots) :
    zRun p l e R s m args below meth c H locs cells slots ad n pc ls st rest (Qc H.size As.toArray) :=
  va_runS (As := As) (rest := rest) cx (hM H.size) (va_cwS na cx.2.2.2.2 hG hw hrm.1 hrm.2 hd hR) ⟨zBlind hX, zPre hX hK hXs hP hS _⟩ rfl hna hsz hst (lv_room hrest) hdg hcs
theorem zRunSN (Qc : Nat → Array Value → State → Outcome → State → Prop) (na : Nat) (cx : CallFix p m c cc nL s args Ts own) (hM : ∀ sz, Met l y ws rm (zPc D tys ad n X w As S sz) (Qc sz) 0 0 (zA ad n sz))
    (hG : GoodIn Ts ws) (hl : va_Nw (.methodLinkNest own index y host) s) (hini : (Cond.initialized y.cls).before args s = true) (hstt : (Cond.static y).before args s = true) (hw : ws = Cond.code y bytes maxL ret :: ws') (hrm : rm.cells = 0 ∧ rm.slots = 0)
    (hd : y.cls ≠ "java/lang/invoke/MethodHandle" ∧ y.cls ≠ "java/lang/invoke/VarHandle" ∧ (parseMethodDescriptor y.desc).map (fun d => d.parameters.length) = some na) (hR : rm.frames + 1 ≤ R.frames ∧ 8 + (maxL + 11) + rm.locals ≤ R.locals)
    (hX : zX X ad n) (hXs : X (zA ad n s.heap.size) s) (hK : va_K D vwCl tys s) (hP : va_P D vwCl (w S) H) (hS : va_S (zA ad n s.heap.size) s.heap H locs)
    (hna : As.length = na) (hsz : ls.size = nL) (hst : st = As.reverse ++ rest) (hrest : (rest.map fun v => v.category).sum ≤ 8) (hdg : decode cc pc = .ok (.invokestatic index, 3)) (hcs : cells + 0 ≤ R.cells ∧ slots + 0 ≤ R.slots) :
    zRun p l e R s m args below meth c H locs cells slots ad n pc ls st rest (Qc H.size As.toArray) :=
  va_runSN (As := As) (rest := rest) cx (hM H.size) ⟨va_cnB na cx.2.2.2.2 hG hw hrm.1 hrm.2 hl hini hd hR, hstt, trivial⟩ ⟨zBlind hX, zPre hX hK hXs hP hS _⟩ rfl hna hsz hst (lv_room hrest) hdg hcs
/-- what comes behind a call: an answer and a state of which the contract tells, or the very ones -/
theorem zThenI {post : Int32 → zS → Prop} {av : Array Value} (hS : va_S (zA ad n s.heap.size) s.heap H locs) (hr : zRun p l e R s m args below meth c H locs cells slots ad n pc ls st rest (zQi D w post (zA ad n H.size) av))
    (kk : ∀ (r : Int32) (T : zS) (H1 : Heap) (locs1 : List Loc), post r T → va_P D vwCl (w T) H1 → va_S (zA ad n s.heap.size) s.heap H1 locs1 → W p l e R s m args below meth c H1 locs1 cells slots Q (F0 m (pc + 3) ls (.int r :: rest))) : W p l e R s m args below meth c H locs cells slots Q (F0 m pc ls st) :=
  va_calli hr hS (zHf hS).1 (zHf hS).2 (fun r u t H1 locs1 ht _ hw hB _ _ hS1 => kk r u H1 locs1 hw (by rw [← ht]; exact hB) hS1)
theorem zThenV {post : zS → Prop} {av : Array Value} (hS : va_S (zA ad n s.heap.size) s.heap H locs) (hr : zRun p l e R s m args below meth c H locs cells slots ad n pc ls st rest (zQv D w post (zA ad n H.size) av))
    (kk : ∀ (T : zS) (H1 : Heap) (locs1 : List Loc), post T → va_P D vwCl (w T) H1 → va_S (zA ad n s.heap.size) s.heap H1 locs1 → W p l e R s m args below meth c H1 locs1 cells slots Q (F0 m (pc + 3) ls rest)) : W p l e R s m args below meth c H locs cells slots Q (F0 m pc ls st) :=
  va_callv hr hS (zHf hS).1 (zHf hS).2 (fun u t H1 locs1 ht _ hw hB _ _ hS1 => kk u H1 locs1 hw (by rw [← ht]; exact hB) hS1)
theorem zThenIx {av : Array Value} (hS : va_S (zA ad n s.heap.size) s.heap H locs) (hr : zRun p l e R s m args below meth c H locs cells slots ad n pc ls st rest (zQi D w (fun r T => r = v ∧ T = S') (zA ad n H.size) av))
    (kk : ∀ (H1 : Heap) (locs1 : List Loc), va_P D vwCl (w S') H1 → va_S (zA ad n s.heap.size) s.heap H1 locs1 → W p l e R s m args below meth c H1 locs1 cells slots Q (F0 m (pc + 3) ls (.int v :: rest))) : W p l e R s m args below meth c H locs cells slots Q (F0 m pc ls st) :=
  zThenI hS hr (fun r T H1 locs1 hp hP hS1 => by obtain ⟨rfl, rfl⟩ := hp; exact kk H1 locs1 hP hS1)
theorem zThenVx {av : Array Value} (hS : va_S (zA ad n s.heap.size) s.heap H locs) (hr : zRun p l e R s m args below meth c H locs cells slots ad n pc ls st rest (zQv D w (fun T => T = S') (zA ad n H.size) av))
    (kk : ∀ (H1 : Heap) (locs1 : List Loc), va_P D vwCl (w S') H1 → va_S (zA ad n s.heap.size) s.heap H1 locs1 → W p l e R s m args below meth c H1 locs1 cells slots Q (F0 m (pc + 3) ls rest)) : W p l e R s m args below meth c H locs cells slots Q (F0 m pc ls st) :=
  zThenV hS hr (fun T H1 locs1 hp hP hS1 => by subst hp; exact kk H1 locs1 hP hS1)
/-- how a method ends -/
theorem zRetI {post : Int32 → zS → Prop} {ty : FieldType} (cx : CallFix p m c cc nL s args Ts own) (hr : meth.sig.returnType = some ty) (hlocks : meth.locks = false) (hn : narrow ty (.int v) = .int v) (hS : va_S (zA ad n s.heap.size) s.heap H locs) (hP : va_P D vwCl (w S') H) (hp : post v S') (hdg : decode cc pc = .ok (.ireturn, 1)) :
    W p l e R s m args below meth c H locs cells slots (MQ below (zQi D w post (zA ad n s.heap.size)) args s cells slots (zA ad n s.heap.size)) (F0 m pc ls [.int v]) :=
  W.zret cx.1 cx.2.1 hr hn (fun t ht _ => ⟨⟨v, S', rfl, hp, by show va_P D vwCl (w S') t.heap; rw [ht]; exact hP⟩, hS.F ht⟩) hS.2.2 hdg hlocks
theorem zRetV {post : zS → Prop} (cx : CallFix p m c cc nL s args Ts own) (hr : meth.sig.returnType = none) (hlocks : meth.locks = false) (hS : va_S (zA ad n s.heap.size) s.heap H locs) (hP : va_P D vwCl (w S') H) (hp : post S') (hdg : decode cc pc = .ok (.return_, 1)) :
    W p l e R s m args below meth c H locs cells slots (MQ below (zQv D w post (zA ad n s.heap.size)) args s cells slots (zA ad n s.heap.size)) (F0 m pc ls []) :=
  W.vret cx.1 cx.2.1 hr (fun t ht _ => ⟨⟨S', rfl, hp, by show va_P D vwCl (w S') t.heap; rw [ht]; exact hP⟩, hS.F ht⟩) hS.2.2 hdg hlocks
/-- fields and rows -/
theorem zGet {CC : String} {T : u_T} {N a : Nat} {ref : String} {v : Value} (cx : CallFix p m c cc nL s args Ts own) (hin : ∀ w ∈ u_ws CC T N, w ∈ Ts) (hK : va_K D vwCl tys s) (hP : va_P D vwCl (w S) H) (q0 : Nat) (he : (w S)[q0]? = some (a, .inr (ci, fs))) (hc : vwCl[ci]? = some (CC, T, N)) (k : Nat) (hk : k < N) (hlink : Cond.fieldLink own index ref (T k).2.1 (T k).2.2.1 ∈ Ts) (href : ref = (T k).1) (hv : fs[k]? = some v) (hdg : decode cc pc = .ok (.getfield index, 3))
    (kk : W p l e R s m args below meth c H locs cells slots Q (F0 m (pc + 3) ls (v :: rest))) : W p l e R s m args below meth c H locs cells slots Q (F0 m pc ls (.ref a :: rest)) :=
  va_get (D := D) (C := CC) (T := T) (N := N) cx.1 cx.2.1 cx.2.2.2.2 hin cx.2.2.2.1 hK hP q0 he hc k hk (cx.2.2.2.2 _ hlink) (fun _ h => by rw [href]; exact h) hv hdg kk
theorem zPut {CC : String} {T : u_T} {N a : Nat} {ref : String} {v : Value} {ty : FieldType} {ty0 : Nat → FieldType} (cx : CallFix p m c cc nL s args Ts own) (hin : ∀ w ∈ u_ws CC T N, w ∈ Ts) (hty : ∀ k, k < N → parseFieldDescriptor (T k).2.2.1 = some (ty0 k)) (hnm : ∀ a, a < N → ∀ b, b < N → a ≠ b → (T a).2.1 ≠ (T b).2.1)
    (hW : zW ad n w) (hI : zI ad n) (hK : va_K D vwCl tys s) (hP : va_P D vwCl (w S) H) (hS : va_S (zA ad n s.heap.size) s.heap H locs) (q0 : Nat) (he : (w S)[q0]? = some (a, .inr (ci, fs))) (hc : vwCl[ci]? = some (CC, T, N)) (k : Nat) (hk : k < N) (hlink : Cond.fieldLink own index ref (T k).2.1 (T k).2.2.1 ∈ Ts) (href : ref = (T k).1) (hfin : (T k).2.2.2 = false) (hd : parseFieldDescriptor (T k).2.2.1 = some ty) (hn : narrow ty v = v) (hfit : fits ty v = true) (hl : k < fs.length)
    (S' : zS) (hset : (w S).set q0 (a, .inr (ci, fs.set k v)) = w S') (hdg : decode cc pc = .ok (.putfield index, 3))
    (kk : ∀ (H1 : Heap) (locs1 : List Loc), va_P D vwCl (w S') H1 → va_S (zA ad n s.heap.size) s.heap H1 locs1 → W p l e R s m args below meth c H1 locs1 cells slots Q (F0 m (pc + 3) ls rest)) : W p l e R s m args below meth c H locs cells slots Q (F0 m pc ls (v :: .ref a :: rest)) :=
  va_put (D := D) (C := CC) (T := T) (N := N) cx.1 cx.2.1 cx.2.2.2.2 hin ty0 hty hnm cx.2.2.2.1 hK hP (zD hW hI S (fun _ h => zA_ad h)) hS q0 he hc k hk (cx.2.2.2.2 _ hlink) (fun _ h => by rw [href]; exact h) hfin hd hn hfit hl hdg (fun H1 locs1 hP1 _ hS1 => kk H1 locs1 (by rw [← hset]; exact hP1) hS1)
theorem zIld {a : Nat} {cA : ClassId} {N : Nat} {f : Nat → Int32} {i : Int32} (cx : CallFix p m c cc nL s args Ts own) (hK : va_K D vwCl tys s) (hP : va_P D vwCl (w S) H) (q0 t0 : Nat) (ha : (w S)[q0]? = some (a, .inl (cA, N, .inl f))) (ht : tys[t0]? = some (cA, .int)) (hin : vp_in i N) (hdg : decode cc pc = .ok (.iaload, 1))
    (kk : W p l e R s m args below meth c H locs cells slots Q (F0 m (pc + 1) ls (.int (f i.toNatClampNeg) :: rest))) : W p l e R s m args below meth c H locs cells slots Q (F0 m pc ls (.int i :: .ref a :: rest)) :=
  va_iald cx.1 cx.2.1 hK hP q0 t0 ha ht hin hdg kk
theorem zIldN {a : Nat} {cA : ClassId} {N : Nat} {f : Nat → Int32} {i : Int32} (cx : CallFix p m c cc nL s args Ts own) (hK : va_K D vwCl tys s) (hP : va_P D vwCl (w S) H) (q0 t0 : Nat) (ha : (w S)[q0]? = some (a, .inl (cA, N, .inl f))) (ht : tys[t0]? = some (cA, .int)) (j : Nat) (hj : j < N) (hN : N < 2 ^ 31) (hi : i = nI j) (hdg : decode cc pc = .ok (.iaload, 1))
    (kk : W p l e R s m args below meth c H locs cells slots Q (F0 m (pc + 1) ls (.int (f j) :: rest))) : W p l e R s m args below meth c H locs cells slots Q (F0 m pc ls (.int i :: .ref a :: rest)) := by
  subst hi
  refine va_iald cx.1 cx.2.1 hK hP q0 t0 ha ht (vp_in_nI hj hN) hdg ?_
  rw [nI_clamp (Nat.lt_trans hj hN)]
  exact kk
theorem zZldN {a : Nat} {cA : ClassId} {N : Nat} {f : Nat → Int32} {i : Int32} (cx : CallFix p m c cc nL s args Ts own) (hK : va_K D vwCl tys s) (hP : va_P D vwCl (w S) H) (q0 t0 : Nat) (ha : (w S)[q0]? = some (a, .inl (cA, N, .inl f))) (ht : tys[t0]? = some (cA, .boolean)) (j : Nat) (hj : j < N) (hN : N < 2 ^ 31) (hi : i = nI j) (hdg : decode cc pc = .ok (.baload, 1))
    (kk : W p l e R s m args below meth c H locs cells slots Q (F0 m (pc + 1) ls (.int (f j) :: rest))) : W p l e R s m args below meth c H locs cells slots Q (F0 m pc ls (.int i :: .ref a :: rest)) := by
  subst hi
  refine va_zald cx.1 cx.2.1 hK hP q0 t0 ha ht (vp_in_nI hj hN) hdg ?_
  rw [nI_clamp (Nat.lt_trans hj hN)]
  exact kk
theorem zIst {a : Nat} {cA : ClassId} {N : Nat} {f : Nat → Int32} {i x : Int32} (cx : CallFix p m c cc nL s args Ts own) (hW : zW ad n w) (hI : zI ad n) (hK : va_K D vwCl tys s) (hP : va_P D vwCl (w S) H) (hS : va_S (zA ad n s.heap.size) s.heap H locs) (q0 t0 : Nat) (ha : (w S)[q0]? = some (a, .inl (cA, N, .inl f))) (ht : tys[t0]? = some (cA, .int)) (hin : vp_in i N)
    (S' : zS) (hset : (w S).set q0 (a, .inl (cA, N, .inl (upd f i.toNatClampNeg x))) = w S') (hdg : decode cc pc = .ok (.iastore, 1))
    (kk : ∀ (H1 : Heap) (locs1 : List Loc), va_P D vwCl (w S') H1 → va_S (zA ad n s.heap.size) s.heap H1 locs1 → W p l e R s m args below meth c H1 locs1 cells slots Q (F0 m (pc + 1) ls rest)) : W p l e R s m args below meth c H locs cells slots Q (F0 m pc ls (.int x :: .int i :: .ref a :: rest)) :=
  va_iast cx.1 cx.2.1 hK hP (zD hW hI S (fun _ h => zA_ad h)) hS q0 t0 ha ht hin hdg (fun H1 locs1 hP1 _ hS1 => kk H1 locs1 (by rw [← hset]; exact hP1) hS1)
theorem zIstN {a : Nat} {cA : ClassId} {N : Nat} {f : Nat → Int32} {i x : Int32} (cx : CallFix p m c cc nL s args Ts own) (hW : zW ad n w) (hI : zI ad n) (hK : va_K D vwCl tys s) (hP : va_P D vwCl (w S) H) (hS : va_S (zA ad n s.heap.size) s.heap H locs) (q0 t0 : Nat) (ha : (w S)[q0]? = some (a, .inl (cA, N, .inl f))) (ht : tys[t0]? = some (cA, .int)) (j : Nat) (hj : j < N) (hN : N < 2 ^ 31) (hi : i = nI j)
    (S' : zS) (hset : (w S).set q0 (a, .inl (cA, N, .inl (upd f j x))) = w S') (hdg : decode cc pc = .ok (.iastore, 1))
    (kk : ∀ (H1 : Heap) (locs1 : List Loc), va_P D vwCl (w S') H1 → va_S (zA ad n s.heap.size) s.heap H1 locs1 → W p l e R s m args below meth c H1 locs1 cells slots Q (F0 m (pc + 1) ls rest)) : W p l e R s m args below meth c H locs cells slots Q (F0 m pc ls (.int x :: .int i :: .ref a :: rest)) := by
  subst hi
  refine zIst cx hW hI hK hP hS q0 t0 ha ht (vp_in_nI hj hN) S' ?_ hdg kk
  rw [nI_clamp (Nat.lt_trans hj hN)]
  exact hset
theorem zZstN {a : Nat} {cA : ClassId} {N : Nat} {f : Nat → Int32} {i x : Int32} (cx : CallFix p m c cc nL s args Ts own) (hW : zW ad n w) (hI : zI ad n) (hK : va_K D vwCl tys s) (hP : va_P D vwCl (w S) H) (hS : va_S (zA ad n s.heap.size) s.heap H locs) (q0 t0 : Nat) (ha : (w S)[q0]? = some (a, .inl (cA, N, .inl f))) (ht : tys[t0]? = some (cA, .boolean)) (j : Nat) (hj : j < N) (hN : N < 2 ^ 31) (hi : i = nI j) (x' : Int32) (hx : vp_nar .boolean x = x')
    (S' : zS) (hset : (w S).set q0 (a, .inl (cA, N, .inl (upd f j x'))) = w S') (hdg : decode cc pc = .ok (.bastore, 1))
    (kk : ∀ (H1 : Heap) (locs1 : List Loc), va_P D vwCl (w S') H1 → va_S (zA ad n s.heap.size) s.heap H1 locs1 → W p l e R s m args below meth c H1 locs1 cells slots Q (F0 m (pc + 1) ls rest)) : W p l e R s m args below meth c H locs cells slots Q (F0 m pc ls (.int x :: .int i :: .ref a :: rest)) := by
  subst hi
  refine va_zast cx.1 cx.2.1 hK hP (zD hW hI S (fun _ h => zA_ad h)) hS q0 t0 ha ht (vp_in_nI hj hN) hdg (fun H1 locs1 hP1 _ hS1 => kk H1 locs1 ?_ hS1)
  rw [← hset]
  rw [nI_clamp (Nat.lt_trans hj hN)] at hP1
  rw [← hx]
  exact hP1
end ZCA
