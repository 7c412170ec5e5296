/-! CONSTRUCTORS: a world that grows. u tells the addresses of the cells behind -/
def iX (X : State → Prop) : Prop := (∀ s U : State, s.WarmedH U.vm → X s → X U) ∧ ∀ (U : State) (g : JFrame) (mk : MethodId) (a : Array Value), X U → X (U.calling g mk a)
theorem iX_t : iX (fun _ => True) := ⟨fun _ _ _ _ => trivial, fun _ _ _ _ _ => trivial⟩
def iPc (D : va_G) (tys : List (ClassId × FieldType)) (X : State → Prop) (w : va_W) (av : List Value) (sz : Nat) : Array Value → State → Prop := va_Pc av (fun U => U.heap.size = sz ∧ va_P D vwCl w U.heap ∧ va_K D vwCl tys U ∧ X U)
theorem iBlind {D : va_G} {tys : List (ClassId × FieldType)} {X : State → Prop} {w : va_W} {av : List Value} {sz : Nat} (hX : iX X) : FrameBlind (iPc D tys X w av sz) := by
  intro a U g mk q
  obtain ⟨q0, q1, qP, qK, qX⟩ := q
  exact ⟨q0, q1, qP, va_K.moved (u := U) (U := U.calling g mk a) (Vm.Alike.refl U.vm) qK, hX.2 _ _ _ _ qX⟩
theorem iPre {D : va_G} {tys : List (ClassId × FieldType)} {X : State → Prop} {w : va_W} {s : State} {H : Heap} (hX : iX X) (hK : va_K D vwCl tys s) (hXs : X s) (hP : va_P D vwCl w H) (av : List Value) : ∀ U : State, U.heap = H → s.WarmedH U.vm → iPc D tys X w av H.size av.toArray U :=
  fun U hU hW => ⟨rfl, by rw [hU], by rw [hU]; exact hP, va_K.moved hW.alike hK, hX.1 s U hW hXs⟩
def iB (D : va_G) (w1 : (Nat → Nat) → va_W) (A : Nat → Prop) : (Nat → Nat) → State → Prop := fun u t => va_P D vwCl (w1 u) t.heap ∧ va_D A (w1 u)
def iMet (l : Launch) (D : va_G) (tys : List (ClassId × FieldType)) (X : State → Prop) (y : MethodName) (ws : List Cond) (rm : Room) (av : List Value) (w : va_W) (w1 : (Nat → Nat) → va_W) (post : (Nat → Nat) → Prop) (mc ms : Nat) : Prop :=
  ∀ sz : Nat, Met l y ws rm (iPc D tys X w av sz) (va_Qv post (iB D w1 (va_A w sz)) (va_A w sz)) mc ms (va_A w sz)
section INI
variable {l : Launch} {D : va_G} {tys tys' : List (ClassId × FieldType)} {X X' : State → Prop} {w wc wr : va_W} {w1 : (Nat → Nat) → va_W} {post : (Nat → Nat) → Prop} {y : MethodName} {ws ws' : List Cond} {rm : Room} {av : List Value} {cc : ByteArray} {maxL mc ms : Nat}
theorem iStart (hy : plainName y.cls = true) (hw : ws = Cond.code y cc maxL none :: ws') (hn : (lg_sl av).length ≤ maxL) (hD0 : va_D (fun _ => True) w)
    (body : ∀ (p : Program) (e : Env) (s : State) (m : MethodId) (args : Array Value) (below : List Frame) (meth : Method) (c : Code) (ls : Array Slot) (A : Nat → Prop), CallFix p m c cc maxL s args ws y.cls → meth.sig.returnType = none → meth.locks = false → meth.name = y.name → va_P D vwCl w s.heap → va_D A w → va_K D vwCl tys s → X s → (∀ q : Nat, s.heap.size ≤ q → A q) → lv_has ls maxL (lv_args 0 av) →
      W p l e (headSpec ws rm).room s m args below meth c s.heap [] 0 0 (MQ below (va_Qv post (iB D w1 A) A) args s mc ms A) (F0 m 0 ls [])) :
    iMet l D tys X y ws rm av w w1 post mc ms := by
  intro sz
  refine Met.ofW (cc := cc) (maxL := maxL) (ret := none) hy hw ?_
  intro p e s m args below meth c s₁ B hml hv
  obtain ⟨rfl, hsz, hP, hK, hXs⟩ := hv
  subst hsz
  have hl := lv_entry av (n := maxL) hn
  have hts := atoms_spec (ws := ws) B.pre
  have hown : s.vm.findClass y.cls = some m.cls := findClass_of_methodNamed B.named
  rw [lg_entry_eq]
  exact body p e s m av.toArray below meth c _ (va_A w s.heap.size) ⟨B.exec, B.bytes, hml, hown, hts⟩ B.returns B.notSynchronized (name_of_methodNamed B.named B.method).1 hP hD0.self hK hXs (fun q h => Or.inr h) hl
end INI
section INC
variable {p : Program} {l : Launch} {e : Env} {R : Room} {s : State} {m : MethodId} {args : Array Value} {below : List Frame} {meth : Method} {c : Code} {H : Heap} {locs : List Loc} {cells slots : Nat} {Q : State → Prop}
variable {D : va_G} {tys tys' : List (ClassId × FieldType)} {X X' : State → Prop} {w wc wr : va_W} {w1 w2 : (Nat → Nat) → va_W} {post : (Nat → Nat) → Prop} {A : Nat → Prop}
variable {cc : ByteArray} {nL mc ms mc' ms' : Nat} {Ts : List Cond} {own : String} {y : MethodName} {ws ws' : List Cond} {rm : Room} {bytes : ByteArray} {maxL : Nat} {index pc : Nat} {ls : Array Slot} {st rest As : List Value} {b : Nat}
theorem iBack (hP : va_P D vwCl w H) (hD : va_D A w) (hS : va_S A s.heap H locs) (hA : ∀ q, s.heap.size ≤ q → A q) (isC isR : List Nat) (hC : isC.map (fun i => w[i]?) = wc.map some) (hR : isR.map (fun i => w[i]?) = wr.map some) (hn : va_nd isR = true) (hdis : ∀ i ∈ isR, i ∉ isC)
    (hr : va_Run p l e R s m args below meth c H locs cells slots mc ms (F0 m pc ls st) rest (va_Qv post (iB D w1 (va_A wc H.size)) (va_A wc H.size) As.toArray) (va_A wc H.size))
    (kk : ∀ (u : Nat → Nat) (H1 : Heap) (locs1 : List Loc), post u → va_P D vwCl (wr ++ w1 u) H1 → va_D A (wr ++ w1 u) → va_S A s.heap H1 locs1 → W p l e R s m args below meth c H1 locs1 (cells + mc) (slots + ms) Q (F0 m (pc + 3) ls rest)) : W p l e R s m args below meth c H locs cells slots Q (F0 m pc ls st) := by
  have hFc : ∀ q, va_A wc H.size q → A q := va_free hD hS hA isC hC
  refine va_callv hr hS (fun q _ h => hFc q h) hFc (fun u t H1 locs1 ht hvm hp hB hz1 hk1 hS1 => ?_)
  obtain ⟨hP1, hD1⟩ := hB
  rw [ht] at hP1
  obtain ⟨hP2, hD2⟩ := va_join hP hD isC isR hC hR hn hdis hk1 hFc hP1 hD1
  exact kk u H1 locs1 hp hP2 hD2 hS1
/-- a constructor is called -/
theorem iCallI (na : Nat) (cx : CallFix p m c cc nL s args Ts own) (hM : iMet l D tys' X' y ws rm (.ref b :: As) wc w1 post mc ms) (hG : GoodIn Ts ws) (hw : ws = Cond.code y bytes maxL none :: ws') (hrm : rm.cells = mc ∧ rm.slots = ms)
    (hini : Cond.initialized y.cls ∈ Ts) (hl : Cond.methodLink own index y ∈ Ts) (hin : Cond.instanceMethod y ∈ Ts) (hy1 : y.name = "<init>")
    (hd : y.cls ≠ "java/lang/invoke/MethodHandle" ∧ y.cls ≠ "java/lang/invoke/VarHandle" ∧ (parseMethodDescriptor y.desc).map (fun d => d.parameters.length) = some na) (hR0 : rm.frames + 1 ≤ R.frames ∧ 8 + (maxL + 11) + rm.locals ≤ R.locals)
    (hX : iX X') (hXs : X' s) (hK : va_K D vwCl tys' s) (hP : va_P D vwCl w H) (hD : va_D A w) (hS : va_S A s.heap H locs) (hA : ∀ q, s.heap.size ≤ q → A q) (isC isR : List Nat) (hC : isC.map (fun i => w[i]?) = wc.map some) (hCf : isC.filterMap (fun i => w[i]?) = wc) (hR : isR.map (fun i => w[i]?) = wr.map some) (hn : va_nd isR = true) (hdis : ∀ i ∈ isR, i ∉ isC)
    (hna : As.length = na) (hsz : ls.size = nL) (hst : st = As.reverse ++ .ref b :: rest) (hrest : (rest.map fun v => v.category).sum ≤ 8) (hdg : decode cc pc = .ok (.invokespecial index, 3)) (hcs : cells + mc ≤ R.cells ∧ slots + ms ≤ R.slots)
    (kk : ∀ (u : Nat → Nat) (H1 : Heap) (locs1 : List Loc), post u → va_P D vwCl (wr ++ w1 u) H1 → va_D A (wr ++ w1 u) → va_S A s.heap H1 locs1 → W p l e R s m args below meth c H1 locs1 (cells + mc) (slots + ms) Q (F0 m (pc + 3) ls rest)) : W p l e R s m args below meth c H locs cells slots Q (F0 m pc ls st) :=
  iBack (As := .ref b :: As) hP hD hS hA isC isR hC hR hn hdis (va_runI (As := As) (rest := rest) cx (hM H.size) (cwI na cx.2.2.2.2 hG hw hrm.1 hrm.2 (cx.2.2.2.2 _ hini) (cx.2.2.2.2 _ hl) (cx.2.2.2.2 _ hin) hy1 hd hR0) ⟨iBlind hX, iPre hX hK hXs (hP.sub isC hCf) _⟩ rfl hna hsz hst (lv_room hrest) hdg hcs) kk
/-- a private constructor of a nest mate is called -/
theorem iCallN {host : String} (na : Nat) (cx : CallFix p m c cc nL s args Ts own) (hM : iMet l D tys' X' y ws rm (.ref b :: As) wc w1 post mc ms) (hG : GoodIn Ts ws) (hw : ws = Cond.code y bytes maxL none :: ws') (hrm : rm.cells = mc ∧ rm.slots = ms)
    (hini : Cond.initialized y.cls ∈ Ts) (hl : va_Nw (.methodLinkNest own index y host) s) (hin : Cond.instanceMethod y ∈ Ts) (hy1 : y.name = "<init>")
    (hd : y.cls ≠ "java/lang/invoke/MethodHandle" ∧ y.cls ≠ "java/lang/invoke/VarHandle" ∧ (parseMethodDescriptor y.desc).map (fun d => d.parameters.length) = some na) (hR0 : rm.frames + 1 ≤ R.frames ∧ 8 + (maxL + 11) + rm.locals ≤ R.locals)
    (hX : iX X') (hXs : X' s) (hK : va_K D vwCl tys' s) (hP : va_P D vwCl w H) (hD : va_D A w) (hS : va_S A s.heap H locs) (hA : ∀ q, s.heap.size ≤ q → A q) (isC isR : List Nat) (hC : isC.map (fun i => w[i]?) = wc.map some) (hCf : isC.filterMap (fun i => w[i]?) = wc) (hR : isR.map (fun i => w[i]?) = wr.map some) (hn : va_nd isR = true) (hdis : ∀ i ∈ isR, i ∉ isC)
    (hna : As.length = na) (hsz : ls.size = nL) (hst : st = As.reverse ++ .ref b :: rest) (hrest : (rest.map fun v => v.category).sum ≤ 8) (hdg : decode cc pc = .ok (.invokespecial index, 3)) (hcs : cells + mc ≤ R.cells ∧ slots + ms ≤ R.slots)
    (kk : ∀ (u : Nat → Nat) (H1 : Heap) (locs1 : List Loc), post u → va_P D vwCl (wr ++ w1 u) H1 → va_D A (wr ++ w1 u) → va_S A s.heap H1 locs1 → W p l e R s m args below meth c H1 locs1 (cells + mc) (slots + ms) Q (F0 m (pc + 3) ls rest)) : W p l e R s m args below meth c H locs cells slots Q (F0 m pc ls st) :=
  iBack (As := .ref b :: As) hP hD hS hA isC isR hC hR hn hdis (va_runIN (As := As) (rest := rest) cx (hM H.size) ⟨va_cnB na cx.2.2.2.2 hG hw hrm.1 hrm.2 hl (cx.2.2.2.2 _ hini) hd hR0, hy1, cx.2.2.2.2 _ hin⟩ ⟨iBlind hX, iPre hX hK hXs (hP.sub isC hCf) _⟩ rfl hna hsz hst (lv_room hrest) hdg hcs) kk
theorem iRet (u : Nat → Nat) (cx : CallFix p m c cc nL s args Ts own) (hr : meth.sig.returnType = none) (hlocks : meth.locks = false) (hS : va_S A s.heap H locs) (hp : post u) (hP : va_P D vwCl (w1 u) H) (hD : va_D A (w1 u)) (h1 : cells ≤ mc) (h2 : slots ≤ ms) (hdg : decode cc pc = .ok (.return_, 1)) :
    W p l e R s m args below meth c H locs cells slots (MQ below (va_Qv post (iB D w1 A) A) args s mc ms A) (F0 m pc ls []) :=
  W.widen h1 h2 (W.vret cx.1 cx.2.1 hr (fun t ht _ => ⟨⟨u, rfl, hp, by rw [ht]; exact hP, hD⟩, hS.F ht⟩) hS.2.2 hdg hlocks)
end INC
