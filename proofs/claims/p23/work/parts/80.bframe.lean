/-! THE LAW'S WORLD: the class, and the law's own book behind it: row 20 kinds, 21 levels, 22 money; 23, 24 a month's notes -/
theorem Met_mono {l : Launch} {y : MethodName} {ws : List Cond} {rm : Room} {Pc Pc' : Array Value → State → Prop} {Qc Qc' : Array Value → State → Outcome → State → Prop} {mc ms : Nat} {free free' : Addr → Prop} (hM : Met l y ws rm Pc Qc mc ms free)
    (hP : ∀ a U, Pc' a U → Pc a U) (hQ : ∀ a st o t, Pc' a st → Qc a st o t → Qc' a st o t) (hf : ∀ q, free q → free' q) : Met l y ws rm Pc' Qc' mc ms free' := by
  intro p e ha hc hk s m args below hfr happ h1 h2
  obtain ⟨n, o, a1, a2, a3, hq, L, hF, hL⟩ := hM p e ha hc hk s m args below hfr happ (hP _ _ h1) h2
  exact ⟨n, o, a1, a2, a3, hQ _ _ _ _ h1 hq, L, hF, fun q hq => hf _ (hL q hq)⟩
theorem vx_Met_mono {l : Launch} {y : MethodName} {ws : List Cond} {rm : Room} {Pc Pc' : Array Value → State → Prop} {Qc Qc' : Array Value → State → Outcome → State → Prop} {XC XC' : String → State → State → Prop} {mc ms : Nat} {free free' : Addr → Prop} (hM : vx_Met l y ws rm Pc Qc XC mc ms free)
    (hP : ∀ a U, Pc' a U → Pc a U) (hQ : ∀ a st o t, Pc' a st → Qc a st o t → Qc' a st o t) (hX : ∀ a E st t, Pc' a st → XC E st t → XC' E st t) (hf : ∀ q, free q → free' q) : vx_Met l y ws rm Pc' Qc' XC' mc ms free' := by
  intro p e ha hc hk s m args below hfr happ h1 h2
  obtain ⟨n, o, a1, a2, a3, hq⟩ := hM p e ha hc hk s m args below hfr happ (hP _ _ h1) h2
  refine ⟨n, o, a1, a2, a3, ?_⟩
  rcases hq with ⟨hq, L, hF, hL⟩ | ⟨q, ho, E, ce, L, b1, b2, b3, b4, b5, b6, b7⟩
  · exact Or.inl ⟨hQ _ _ _ _ h1 hq, L, hF, fun q hq => hf _ (hL q hq)⟩
  · exact Or.inr ⟨q, ho, E, ce, L, hX _ _ _ _ h1 b1, b2, b3, b4, b5, b6, fun z hz => hf _ (b7 z hz)⟩
def mix (T S : zS) : zS := fun r => if r < 20 then T r else S r
theorem mix_S (S : zS) : mix S S = S := by
  funext r
  unfold mix
  split <;> rfl
/-- the cells behind the class's: their addresses, and the rows that they show -/
def eOK (ad : Nat → Nat) (n : Nat) (E : zS → va_W) : Prop := 36 ≤ n ∧ (∀ (S : zS) (k : Nat) (q : Nat × va_E), (E S)[k]? = some q → ∃ j, 36 ≤ j ∧ j < n ∧ q.1 = ad j) ∧ ∀ S T : zS, E (mix T S) = E S
def ew (cyI : ClassId) (ad : Nat → Nat) (E : zS → va_W) (S : zS) : va_W := cw cyI ad S ++ E S
theorem ew_mix (cyI : ClassId) (ad : Nat → Nat) {E : zS → va_W} {n : Nat} (hE : eOK ad n E) (S T : zS) : ew cyI ad E (mix T S) = cw cyI ad T ++ E S := by
  unfold ew
  rw [hE.2.2]
  rfl
theorem zA_up {ad : Nat → Nat} {n sz q : Nat} (hn : 36 ≤ n) (h : zA ad 36 sz q) : zA ad n sz q := h.elim (fun ⟨k, hk, e⟩ => Or.inl ⟨k, by omega, e⟩) Or.inr
section LIFT
variable {l : Launch} {D : va_G} {cyI : ClassId} {tys : List (ClassId × FieldType)} {ad : Nat → Nat} {n : Nat} {E : zS → va_W} {X : (Nat → Prop) → State → Prop}
theorem ew_c {S : zS} {H : Heap} (hP : va_P D vwCl (ew cyI ad E S) H) : va_P D vwCl (cw cyI ad S) H := hP.sub (List.range 36) rfl
theorem ew_e {S : zS} {H : Heap} (hP : va_P D vwCl (ew cyI ad E S) H) : va_P D vwCl (E S) H := fun k q hk => hP (36 + k) q (by
  show (cw cyI ad S ++ E S)[36 + k]? = some q
  rw [List.getElem?_append_right (by show 36 ≤ 36 + k; omega)]
  show (E S)[36 + k - 36]? = some q
  rw [Nat.add_sub_cancel_left]
  exact hk)
theorem ew_on {S T : zS} {H H1 : Heap} {sz : Nat} (hE : eOK ad n E) (hI : zI ad n) (hsz : H.size = sz) (hP : va_P D vwCl (ew cyI ad E S) H) (hT : va_P D vwCl (cw cyI ad T) H1) (hk : ∀ q : Nat, q < H.size → ¬ zA ad 36 sz q → H1[q]? = H[q]?) : va_P D vwCl (ew cyI ad E (mix T S)) H1 := by
  rw [ew_mix cyI ad hE]
  refine hT.app ((ew_e hP).kept (fun k q hq => ?_))
  obtain ⟨j, h1, h2, h3⟩ := hE.2.1 S k q hq
  have hlt := (ew_e hP k q hq).lt
  refine hk q.1 hlt ?_
  rintro (⟨i, hi, e⟩ | h)
  · have := hI j i h2 (by have := hE.1; omega) (by rw [← h3]; exact e)
    omega
  · omega
/-- a method of the class that answers and throws nothing, seen from the law -/
theorem zLift {y : MethodName} {ws : List Cond} {rm : Room} {av : List Value} {S : zS} {post : Int32 → zS → Prop} (hE : eOK ad n E) (hI : zI ad n) (ht : ∀ U, va_K D vwCl tys U → va_K D vwCl [(cyI, .int)] U) (hX : ∀ A U, X A U → xN A U)
    (hM : zMi l D [(cyI, .int)] ad 36 xN (cw cyI ad) y ws rm av S post) : zMi l D tys ad n X (ew cyI ad E) y ws rm av S (fun v T => ∃ T0, post v T0 ∧ T = mix T0 S) := by
  intro sz
  refine Met_mono (hM sz) ?_ ?_ (fun q h => zA_up hE.1 h)
  · rintro a U ⟨h0, hsz, hP, hK, hXs⟩
    exact ⟨h0, hsz, ew_c hP, ht U hK, show xN (zA ad 36 sz) U from hX (zA ad n sz) U hXs⟩
  · rintro a st o t ⟨h0, hsz, hP, hK, hXs⟩ ⟨⟨r, T, ho, hr, hB⟩, hz, hk⟩
    exact ⟨⟨r, mix T S, ho, ⟨T, hr, rfl⟩, ew_on hE hI hsz hP hB hk⟩, hz, fun q h1 h2 => hk q h1 (fun z => h2 (zA_up hE.1 z))⟩
theorem zLiftR {y : MethodName} {ws : List Cond} {rm : Room} {av : List Value} {S : zS} {f : Int32} (hE : eOK ad n E) (hI : zI ad n) (ht : ∀ U, va_K D vwCl tys U → va_K D vwCl [(cyI, .int)] U) (hX : ∀ A U, X A U → xN A U)
    (hM : zMi l D [(cyI, .int)] ad 36 xN (cw cyI ad) y ws rm av S (fun v T => v = f ∧ T = S)) {g : Int32} (hg : f = g) : zMi l D tys ad n X (ew cyI ad E) y ws rm av S (fun v T => v = g ∧ T = S) := by
  intro sz
  refine Met_mono (zLift hE hI ht hX hM sz) (fun _ _ h => h) ?_ (fun _ h => h)
  rintro a st o t - ⟨⟨r, T, ho, ⟨T0, ⟨h1, h2⟩, h3⟩, hB⟩, hF⟩
  subst h2
  rw [mix_S] at h3
  exact ⟨⟨r, T, ho, ⟨h1.trans hg, h3⟩, hB⟩, hF⟩
/-- one that may throw -/
theorem xLift {y : MethodName} {ws : List Cond} {rm : Room} {av : List Value} {S : zS} {post : Int32 → zS → Prop} {px : Option String} {mc ms : Nat} {Xc : (Nat → Prop) → State → Prop} (hE : eOK ad n E) (hI : zI ad n) {tys' : List (ClassId × FieldType)} (ht : ∀ U, va_K D vwCl tys U → va_K D vwCl tys' U) (hX : ∀ A B U, X A U → (∀ q, B q → A q) → Xc B U)
    (hM : ∀ sz : Nat, vx_Met l y ws rm (zPc D tys' ad 36 Xc (cw cyI ad) av S sz) (zQi D (cw cyI ad) post (zA ad 36 sz)) (xXC D (cw cyI ad) S px (zA ad 36 sz)) mc ms (zA ad 36 sz)) :
    ∀ sz : Nat, vx_Met l y ws rm (zPc D tys ad n X (ew cyI ad E) av S sz) (zQi D (ew cyI ad E) (fun v T => ∃ T0, post v T0 ∧ T = mix T0 S) (zA ad n sz)) (xXC D (ew cyI ad E) S px (zA ad n sz)) mc ms (zA ad n sz) := by
  intro sz
  refine vx_Met_mono (hM sz) ?_ ?_ ?_ (fun q h => zA_up hE.1 h)
  · rintro a U ⟨h0, hsz, hP, hK, hXs⟩
    exact ⟨h0, hsz, ew_c hP, ht U hK, hX _ _ _ hXs (fun q h => zA_up hE.1 h)⟩
  · rintro a st o t ⟨h0, hsz, hP, hK, hXs⟩ ⟨⟨r, T, ho, hr, hB⟩, hz, hk⟩
    exact ⟨⟨r, mix T S, ho, ⟨T, hr, rfl⟩, ew_on hE hI hsz hP hB hk⟩, hz, fun q h1 h2 => hk q h1 (fun z => h2 (zA_up hE.1 z))⟩
  · rintro a Ex st t ⟨h0, hsz, hP, hK, hXs⟩ ⟨u, hu, ⟨hpx, hB⟩, hz, hk⟩
    refine ⟨u, hu, ⟨hpx, ?_⟩, hz, fun q h1 h2 => hk q h1 (fun z => h2 (zA_up hE.1 z))⟩
    have := ew_on hE hI hsz hP hB hk
    rw [mix_S] at this
    exact this
end LIFT
/-- the book -/
def qE (cyI : ClassId) (ad : Nat → Nat) (S : zS) : va_W := [(ad 36, .inl (cyI, 64, .inl (S 20))), (ad 37, .inl (cyI, 64, .inl (S 21))), (ad 38, .inl (cyI, 5, .inl (S 22)))]
def qw (cyI : ClassId) (ad : Nat → Nat) : zS → va_W := ew cyI ad (qE cyI ad)
theorem qw_W (cyI : ClassId) (ad : Nat → Nat) : zW ad 39 (qw cyI ad) := fun _ => rfl
theorem qE_OK (cyI : ClassId) (ad : Nat → Nat) : eOK ad 39 (qE cyI ad) := by
  refine ⟨by decide, fun S k q h => ?_, fun S T => rfl⟩
  match k, h with
  | 0, h => exact ⟨36, by decide, by decide, (congrArg Prod.fst (Option.some.inj h)).symm⟩
  | 1, h => exact ⟨37, by decide, by decide, (congrArg Prod.fst (Option.some.inj h)).symm⟩
  | 2, h => exact ⟨38, by decide, by decide, (congrArg Prod.fst (Option.some.inj h)).symm⟩
/-- the book with a month's notes -/
def nE (cyI : ClassId) (ad : Nat → Nat) (S : zS) : va_W := [(ad 36, .inl (cyI, 64, .inl (S 20))), (ad 37, .inl (cyI, 64, .inl (S 21))), (ad 38, .inl (cyI, 5, .inl (S 22))), (ad 39, .inl (cyI, 64, .inl (S 23))), (ad 40, .inl (cyI, 64, .inl (S 24)))]
def nw (cyI : ClassId) (ad : Nat → Nat) : zS → va_W := ew cyI ad (nE cyI ad)
theorem nw_W (cyI : ClassId) (ad : Nat → Nat) : zW ad 41 (nw cyI ad) := fun _ => rfl
theorem nE_OK (cyI : ClassId) (ad : Nat → Nat) : eOK ad 41 (nE cyI ad) := by
  refine ⟨by decide, fun S k q h => ?_, fun S T => rfl⟩
  match k, h with
  | 0, h => exact ⟨36, by decide, by decide, (congrArg Prod.fst (Option.some.inj h)).symm⟩
  | 1, h => exact ⟨37, by decide, by decide, (congrArg Prod.fst (Option.some.inj h)).symm⟩
  | 2, h => exact ⟨38, by decide, by decide, (congrArg Prod.fst (Option.some.inj h)).symm⟩
  | 3, h => exact ⟨39, by decide, by decide, (congrArg Prod.fst (Option.some.inj h)).symm⟩
  | 4, h => exact ⟨40, by decide, by decide, (congrArg Prod.fst (Option.some.inj h)).symm⟩
/-- beside the world: what the class's methods take as given, and what the law's catching does -/
def xL : (Nat → Prop) → State → Prop := fun A U => xS A U ∧ va_Nc xIA xIO U ∧ va_Nc xIS xIO U ∧ va_Nc xIS xIA U
theorem xL_X (ad : Nat → Nat) (n : Nat) : zX xL ad n :=
  ⟨fun s U H locs h hU hW hS => ⟨(xS_X ad n).1 s U H locs h.1 hU hW hS, h.2.1.moved hW.alike, h.2.2.1.moved hW.alike, h.2.2.2.moved hW.alike⟩,
   fun A U g mk a h => ⟨(xS_X ad n).2 A U g mk a h.1, va_Nc.moved (u := U) (U := U.calling g mk a) (Vm.Alike.refl U.vm) h.2.1, va_Nc.moved (u := U) (U := U.calling g mk a) (Vm.Alike.refl U.vm) h.2.2.1, va_Nc.moved (u := U) (U := U.calling g mk a) (Vm.Alike.refl U.vm) h.2.2.2⟩⟩
theorem xL_sub {A B : Nat → Prop} {U : State} (h : xL A U) (hAB : ∀ q, B q → A q) : xL B U := ⟨xS_sub h.1 hAB, h.2⟩
def lTys (cyI cyB : ClassId) : List (ClassId × FieldType) := [(cyI, .int), (cyB, .byte)]
theorem lTys_I {D : va_G} {cyI cyB : ClassId} (U : State) (h : va_K D vwCl (lTys cyI cyB) U) : va_K D vwCl [(cyI, .int)] U := h.sub [0] rfl
theorem xL_N (A : Nat → Prop) (U : State) (h : xL A U) : xN A U := h.1.1.1
theorem xL_T (A B : Nat → Prop) (U : State) (h : xL A U) (hAB : ∀ q, B q → A q) : xT B U := (xL_sub h hAB).1.1
theorem xL_S (A B : Nat → Prop) (U : State) (h : xL A U) (hAB : ∀ q, B q → A q) : xS B U := (xL_sub h hAB).1
/-- contracts that make cells -/
def bMet (l : Launch) (D : va_G) (tys : List (ClassId × FieldType)) (ad : Nat → Nat) (n : Nat) (X : (Nat → Prop) → State → Prop) (w : zS → va_W) (y : MethodName) (ws : List Cond) (rm : Room) (av : List Value) (S : zS) (mc ms : Nat) (post : Int32 → zS → Prop) : Prop :=
  ∀ sz : Nat, Met l y ws rm (zPc D tys ad n X w av S sz) (zQi D w post (zA ad n sz)) mc ms (zA ad n sz)
section BST
variable {l : Launch} {D : va_G} {tys : List (ClassId × FieldType)} {ad : Nat → Nat} {n : Nat} {X : (Nat → Prop) → State → Prop} {w : zS → va_W}
theorem bStart {post : Int32 → zS → Prop} {y : MethodName} {ws ws' : List Cond} {rm : Room} {av : List Value} {S : zS} {cc : ByteArray} {maxL mc ms : Nat} {ret : Option FieldType}
    (hy : plainName y.cls = true) (hw : ws = Cond.code y cc maxL ret :: ws') (hn : (lg_sl av).length ≤ maxL)
    (body : ∀ (p : Program) (e : Env) (s : State) (m : MethodId) (args : Array Value) (below : List Frame) (meth : Method) (c : Code) (ls : Array Slot), CallFix p m c cc maxL s args ws y.cls → meth.sig.returnType = ret → meth.locks = false → va_P D vwCl (w S) s.heap → va_K D vwCl tys s → X (zA ad n s.heap.size) s → lv_has ls maxL (lv_args 0 av) →
      W p l e (headSpec ws rm).room s m args below meth c s.heap [] 0 0 (MQ below (zQi D w post (zA ad n s.heap.size)) args s mc ms (zA ad n s.heap.size)) (F0 m 0 ls [])) :
    bMet l D tys ad n X w y ws rm av S mc ms post := by
  intro sz
  refine Met.ofW (cc := cc) (maxL := maxL) (ret := ret) hy hw ?_
  intro p e s m args below meth c s₁ B hml hv
  obtain ⟨rfl, hsz, hP, hK, hXs⟩ := hv
  subst hsz
  have hl := lv_entry av (n := maxL) hn
  have hts := atoms_spec (ws := ws) B.pre
  have hown : s.vm.findClass y.cls = some m.cls := findClass_of_methodNamed B.named
  rw [lg_entry_eq]
  exact body p e s m av.toArray below meth c _ ⟨B.exec, B.bytes, hml, hown, hts⟩ B.returns B.notSynchronized hP hK hXs hl
theorem bStartW {post : Int32 → zS → Prop} {y : MethodName} {ws ws' : List Cond} {rm : Room} {av : List Value} {S : zS} {cc : ByteArray} {maxL mc ms : Nat} {ret : Option FieldType} {hh : List (Nat × Nat × Nat × Nat)}
    (hy : plainName y.cls = true) (hw : ws = Cond.codeWith y cc maxL ret hh :: ws') (hn : (lg_sl av).length ≤ maxL)
    (body : ∀ (p : Program) (e : Env) (s : State) (m : MethodId) (args : Array Value) (below : List Frame) (meth : Method) (c : Code) (ls : Array Slot), CallFix p m c cc maxL s args ws y.cls → meth.sig.returnType = ret → meth.locks = false → c.exceptionTable.toList = tableOf hh → va_P D vwCl (w S) s.heap → va_K D vwCl tys s → X (zA ad n s.heap.size) s → lv_has ls maxL (lv_args 0 av) →
      W p l e (headSpec ws rm).room s m args below meth c s.heap [] 0 0 (MQ below (zQi D w post (zA ad n s.heap.size)) args s mc ms (zA ad n s.heap.size)) (F0 m 0 ls [])) :
    bMet l D tys ad n X w y ws rm av S mc ms post := by
  intro sz
  refine va_MetW (cc := cc) (maxL := maxL) (ret := ret) (hh := hh) hy hw ?_
  intro p e s m args below meth c s₁ B hml hv
  obtain ⟨rfl, hsz, hP, hK, hXs⟩ := hv
  subst hsz
  have hl := lv_entry av (n := maxL) hn
  have hts := atoms_spec (ws := ws) B.pre
  have hown : s.vm.findClass y.cls = some m.cls := findClass_of_methodNamed B.named
  have hex := vx_table (x := y) B (hts _ (by rw [hw]; exact List.mem_cons_self))
  rw [lg_entry_eq]
  exact body p e s m av.toArray below meth c _ ⟨B.exec, B.bytes, hml, hown, hts⟩ B.returns B.notSynchronized hex hP hK hXs hl
theorem bMet_post {y : MethodName} {ws : List Cond} {rm : Room} {av : List Value} {S : zS} {mc ms : Nat} {post post' : Int32 → zS → Prop} (hM : bMet l D tys ad n X w y ws rm av S mc ms post) (h : ∀ v T, post v T → post' v T) : bMet l D tys ad n X w y ws rm av S mc ms post' := by
  intro sz
  refine Met_mono (hM sz) (fun _ _ h => h) ?_ (fun _ h => h)
  rintro a st o t - ⟨⟨r, T, ho, hr, hB⟩, hF⟩
  exact ⟨⟨r, T, ho, h _ _ hr, hB⟩, hF⟩
end BST
section BCA
variable {p : Program} {l : Launch} {e : Env} {R : Room} {s : State} {m : MethodId} {args : Array Value} {below : List Frame} {meth : Method} {c : Code} {H : Heap} {locs : List Loc} {cells slots : Nat} {Q : State → Prop}
variable {D : va_G} {tys tys' : List (ClassId × FieldType)} {ad : Nat → Nat} {n : Nat} {X X' : (Nat → Prop) → State → Prop} {w : zS → va_W}
variable {cc : ByteArray} {nL mc ms : Nat} {Ts : List Cond} {own : String} {y : MethodName} {ws ws' : List Cond} {rm : Room} {bytes : ByteArray} {maxL : Nat} {ret : Option FieldType} {hh : List (Nat × Nat × Nat × Nat)} {index pc : Nat} {ls : Array Slot} {st rest As : List Value} {S : zS} {post : Int32 → zS → Prop} {px : Option String}
theorem bRet {v : Int32} {T : zS} {rt : FieldType} (cx : CallFix p m c cc nL s args Ts own) (hr : meth.sig.returnType = some rt) (hlocks : meth.locks = false) (hn : narrow rt (.int v) = .int v) (hS : va_S (zA ad n s.heap.size) s.heap H locs) (hP : va_P D vwCl (w T) H) (hp : post v T) (h1 : cells ≤ mc) (h2 : slots ≤ ms) (hdg : decode cc pc = .ok (.ireturn, 1)) :
    W p l e R s m args below meth c H locs cells slots (MQ below (zQi D w post (zA ad n s.heap.size)) args s mc ms (zA ad n s.heap.size)) (F0 m pc ls [.int v]) :=
  W.widen h1 h2 (W.zret cx.1 cx.2.1 hr hn (fun t ht _ => ⟨⟨v, T, rfl, hp, by show va_P D vwCl (w T) t.heap; rw [ht]; exact hP⟩, hS.F ht⟩) hS.2.2 hdg hlocks)
/-- a static method of the law's is called -/
theorem bCall (na : Nat) (cx : CallFix p m c cc nL s args Ts own) (hM : bMet l D tys' ad n X' w y ws rm As S mc ms post)
    (hG : GoodIn Ts (va_wsS own index y ws)) (hw : ws = Cond.code y bytes maxL ret :: ws') (hrm : rm.cells = mc ∧ rm.slots = ms)
    (hd : y.cls ≠ "java/lang/invoke/MethodHandle" ∧ y.cls ≠ "java/lang/invoke/VarHandle" ∧ (parseMethodDescriptor y.desc).map (fun d => d.parameters.length) = some na) (hR : rm.frames + 1 ≤ R.frames ∧ 8 + (maxL + 11) + rm.locals ≤ R.locals)
    (hX : zX X' ad n) (hXs : X' (zA ad n s.heap.size) s) (hK : va_K D vwCl tys' s) (hP : va_P D vwCl (w S) H) (hS : va_S (zA ad n s.heap.size) s.heap H locs)
    (hna : As.length = na) (hsz : ls.size = nL) (hst : st = As.reverse ++ rest) (hrest : (rest.map fun v => v.category).sum ≤ 8) (hdg : decode cc pc = .ok (.invokestatic index, 3)) (hcs : cells + mc ≤ R.cells ∧ slots + ms ≤ R.slots)
    (kk : ∀ (r : Int32) (T : zS) (H1 : Heap) (locs1 : List Loc), post r T → va_P D vwCl (w T) H1 → va_S (zA ad n s.heap.size) s.heap H1 locs1 → W p l e R s m args below meth c H1 locs1 (cells + mc) (slots + ms) Q (F0 m (pc + 3) ls (.int r :: rest))) : W p l e R s m args below meth c H locs cells slots Q (F0 m pc ls st) :=
  va_calli (va_runS (As := As) (rest := rest) cx (hM H.size) (va_cwS na cx.2.2.2.2 hG hw hrm.1 hrm.2 hd hR) ⟨zBlind hX, zPre hX hK hXs hP hS _⟩ rfl hna hsz hst (lv_room hrest) hdg hcs) hS (zHf hS).1 (zHf hS).2
    (fun r T t H1 locs1 ht _ hp hB _ _ hS1 => kk r T H1 locs1 hp (by
      have h2 : va_P D vwCl (w T) t.heap := hB
      rw [ht] at h2
      exact h2) hS1)
/-- one with a table of its own -/
theorem bCallW (na : Nat) (cx : CallFix p m c cc nL s args Ts own) (hM : bMet l D tys' ad n X' w y ws rm As S mc ms post)
    (hG : GoodIn Ts (va_wsS own index y ws)) (hw : ws = Cond.codeWith y bytes maxL ret hh :: ws') (hrm : rm.cells = mc ∧ rm.slots = ms)
    (hd : y.cls ≠ "java/lang/invoke/MethodHandle" ∧ y.cls ≠ "java/lang/invoke/VarHandle" ∧ (parseMethodDescriptor y.desc).map (fun d => d.parameters.length) = some na) (hR : rm.frames + 1 ≤ R.frames ∧ 8 + (maxL + 11) + rm.locals ≤ R.locals)
    (hX : zX X' ad n) (hXs : X' (zA ad n s.heap.size) s) (hK : va_K D vwCl tys' s) (hP : va_P D vwCl (w S) H) (hS : va_S (zA ad n s.heap.size) s.heap H locs)
    (hna : As.length = na) (hsz : ls.size = nL) (hst : st = As.reverse ++ rest) (hrest : (rest.map fun v => v.category).sum ≤ 8) (hdg : decode cc pc = .ok (.invokestatic index, 3)) (hcs : cells + mc ≤ R.cells ∧ slots + ms ≤ R.slots)
    (kk : ∀ (r : Int32) (T : zS) (H1 : Heap) (locs1 : List Loc), post r T → va_P D vwCl (w T) H1 → va_S (zA ad n s.heap.size) s.heap H1 locs1 → W p l e R s m args below meth c H1 locs1 (cells + mc) (slots + ms) Q (F0 m (pc + 3) ls (.int r :: rest))) : W p l e R s m args below meth c H locs cells slots Q (F0 m pc ls st) :=
  va_calli (vx_runSW (As := As) (rest := rest) cx (hM H.size) (vx_cwSW na cx.2.2.2.2 hG hw hrm.1 hrm.2 hd hR) ⟨zBlind hX, zPre hX hK hXs hP hS _⟩ rfl hna hsz hst (lv_room hrest) hdg hcs) hS (zHf hS).1 (zHf hS).2
    (fun r T t H1 locs1 ht _ hp hB _ _ hS1 => kk r T H1 locs1 hp (by
      have h2 : va_P D vwCl (w T) t.heap := hB
      rw [ht] at h2
      exact h2) hS1)
/-- the class is called; it may throw -/
theorem bCallX (na : Nat) (cx : CallFix p m c cc nL s args Ts own) (hM : ∀ sz, vx_Met l y ws rm (zPc D tys ad n X w (.ref (ad 0) :: As) S sz) (zQi D w post (zA ad n sz)) (xXC D w S px (zA ad n sz)) mc ms (zA ad n sz))
    (hG : GoodIn Ts (wsV own index RX6 y ws)) (hw : ws = Cond.code y bytes maxL ret :: ws') (hrm : rm.cells = mc ∧ rm.slots = ms)
    (hd : y.cls = RX6 ∧ y.cls ≠ "java/lang/invoke/MethodHandle" ∧ y.cls ≠ "java/lang/invoke/VarHandle" ∧ (parseMethodDescriptor y.desc).map (fun d => d.parameters.length) = some na) (hR : rm.frames + 1 ≤ R.frames ∧ 8 + (maxL + 11) + rm.locals ≤ R.locals)
    (hX : zX X ad n) (hXs : X (zA ad n s.heap.size) s) (hK : va_K D vwCl tys s) (hP : va_P D vwCl (w S) H) (hS : va_S (zA ad n s.heap.size) s.heap H locs) {fs : List Value} (he : (w S)[0]? = some (ad 0, .inr (8, fs)))
    (hna : As.length = na) (hsz : ls.size = nL) (hst : st = As.reverse ++ .ref (ad 0) :: rest) (hrest : (rest.map fun v => v.category).sum ≤ 8) (hdg : decode cc pc = .ok (.invokevirtual index, 3)) (hcs : cells + mc ≤ R.cells ∧ slots + ms ≤ R.slots)
    (kx : ∀ (E : String) (ce : Cell) (q9 : Addr) (H1 : Heap) (locs1 : List Loc), px = some E → va_P D vwCl (w S) H1 → va_S (zA ad n s.heap.size) s.heap H1 locs1 → H1[q9]? = some ce → ce.vm = .none → s.vm.findClass E = some ce.cls → vx_W p l e R s m args below meth c H1 locs1 (cells + mc) (slots + ms) Q (F0 m pc ls rest) q9)
    (kk : ∀ (r : Int32) (T : zS) (H1 : Heap) (locs1 : List Loc), post r T → va_P D vwCl (w T) H1 → va_S (zA ad n s.heap.size) s.heap H1 locs1 → W p l e R s m args below meth c H1 locs1 (cells + mc) (slots + ms) Q (F0 m (pc + 3) ls (.int r :: rest))) : W p l e R s m args below meth c H locs cells slots Q (F0 m pc ls st) := by
  refine vx_calli (vx_runV (As := As) (rest := rest) cx (hM H.size) (cwV na cx.2.2.2.2 hG hw hrm.1 hrm.2 hd hR) ⟨zBlind hX, va_recv (ci := 8) (q0 := 0) hK hP rfl he, zPre hX hK hXs hP hS _⟩ rfl hna hsz hst (lv_room hrest) hdg hcs) hS (zHf hS).1 (zHf hS).2 (zHf hS).1 ?_ ?_
  · intro E ce q9 u t H1 locs1 ht hvm _ hB hz1 hk1 hS1 hce hcv hcl
    refine kx E ce q9 H1 locs1 hB.1 ?_ hS1 hce hcv hcl
    have h2 := hB.2
    rw [ht] at h2
    exact h2
  · intro r T t H1 locs1 ht hvm hp hB hz1 hk1 hS1
    refine kk r T H1 locs1 hp ?_ hS1
    have h2 : va_P D vwCl (w T) t.heap := hB
    rw [ht] at h2
    exact h2
end BCA
