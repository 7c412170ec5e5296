/-! THE LAW'S SMALL METHODS: a call of the class, what it throws caught; the answer goes into a row of one long (cell 36) -/
theorem vp_01 : vp_in (0 : Int32) 1 := by
  unfold vp_in
  decide
def oV (x : Int32) : Nat → Int64 := vp_updL (fun _ => 0) 0 x.toInt64
theorem oV_u (x y : Int32) : vp_updL (oV x) 0 y.toInt64 = oV y := by
  funext j
  unfold oV vp_updL
  split <;> rfl
def lw (cyI cyJ : ClassId) (ad : Nat → Nat) (S : zS) : va_W := cw cyI ad S ++ [(ad 36, .inl (cyJ, 1, .inr (.inl (oV (S 18 0)))))]
theorem lw_W (cyI cyJ : ClassId) (ad : Nat → Nat) : zW ad 37 (lw cyI cyJ ad) := fun _ => rfl
theorem cw_18 (cyI : ClassId) (ad : Nat → Nat) (S : zS) (f : Nat → Int32) : cw cyI ad (zUp S 18 f) = cw cyI ad S := rfl
theorem lw_18 (cyI cyJ : ClassId) (ad : Nat → Nat) (S T : zS) : cw cyI ad T ++ [(ad 36, .inl (cyJ, 1, .inr (.inl (oV (S 18 0)))))] = lw cyI cyJ ad (zUp T 18 (S 18)) := by
  unfold lw
  rw [cw_18, zUp_s]
theorem lw_set (cyI cyJ : ClassId) (ad : Nat → Nat) (T : zS) (h : Nat → Int32) (y : Int32) : (lw cyI cyJ ad (zUp T 18 h)).set 36 (ad 36, .inl (cyJ, 1, .inr (.inl (vp_updL (oV (zUp T 18 h 18 0)) 0 y.toInt64)))) = lw cyI cyJ ad (zUp T 18 (upd h 0 y)) := by
  unfold lw
  rw [cw_18, cw_18, zUp_s, zUp_s, oV_u, pk_us]
  rfl
def xL : (Nat → Prop) → State → Prop := fun A U => xS A U ∧ va_Nc xIA xIO U ∧ va_Nc xIS xIO U ∧ va_Nc xIS xIA U
theorem xL_X (ad : Nat → Nat) (n : Nat) : zX xL ad n :=
  ⟨fun s U H locs h hU hW hS => ⟨(xS_X ad n).1 s U H locs h.1 hU hW hS, h.2.1.moved hW.alike, h.2.2.1.moved hW.alike, h.2.2.2.moved hW.alike⟩,
   fun A U g mk a h => ⟨(xS_X ad n).2 A U g mk a h.1, va_Nc.moved (u := U) (U := U.calling g mk a) (Vm.Alike.refl U.vm) h.2.1, va_Nc.moved (u := U) (U := U.calling g mk a) (Vm.Alike.refl U.vm) h.2.2.1, va_Nc.moved (u := U) (U := U.calling g mk a) (Vm.Alike.refl U.vm) h.2.2.2⟩⟩
theorem xL_sub {A B : Nat → Prop} {U : State} (h : xL A U) (hAB : ∀ q, B q → A q) : xL B U := ⟨xS_sub h.1 hAB, h.2⟩
def lTys (cyI cyJ cyB : ClassId) : List (ClassId × FieldType) := [(cyI, .int), (cyJ, .long), (cyB, .byte)]
def lPost (num : List (String × Int32)) (t : Option String) (f : Int32) (G S : zS) : Int32 → zS → Prop := fun r T => (t = none ∧ r = 0 ∧ T = zUp G 18 (upd (S 18) 0 f)) ∨ ∃ q ∈ num, t = some q.1 ∧ r = q.2 ∧ T = S
def lMet (l : Launch) (D : va_G) (cyI cyJ cyB : ClassId) (ad : Nat → Nat) (y : MethodName) (ws : List Cond) (rm : Room) (av : List Value) (S : zS) (mc ms : Nat) (post : Int32 → zS → Prop) : Prop :=
  ∀ sz : Nat, Met l y ws rm (zPc D (lTys cyI cyJ cyB) ad 37 xL (lw cyI cyJ ad) av S sz) (zQi D (lw cyI cyJ ad) post (zA ad 37 sz)) mc ms (zA ad 37 sz)
section LST
variable {l : Launch} {D : va_G} {cyI cyJ cyB : ClassId} {ad : Nat → Nat}
theorem lStart {post : Int32 → zS → Prop} {y : MethodName} {ws ws' : List Cond} {rm : Room} {av : List Value} {S : zS} {cc : ByteArray} {maxL mc ms : Nat} {ret : Option FieldType} {hh : List (Nat × Nat × Nat × Nat)}
    (hy : plainName y.cls = true) (hw : ws = Cond.codeWith y cc maxL ret hh :: ws') (hn : (lg_sl av).length ≤ maxL)
    (body : ∀ (p : Program) (e : Env) (s : State) (m : MethodId) (args : Array Value) (below : List Frame) (meth : Method) (c : Code) (ls : Array Slot), CallFix p m c cc maxL s args ws y.cls → meth.sig.returnType = ret → meth.locks = false → c.exceptionTable.toList = tableOf hh → va_P D vwCl (lw cyI cyJ ad S) s.heap → va_K D vwCl (lTys cyI cyJ cyB) s → xL (zA ad 37 s.heap.size) s → lv_has ls maxL (lv_args 0 av) →
      W p l e (headSpec ws rm).room s m args below meth c s.heap [] 0 0 (MQ below (zQi D (lw cyI cyJ ad) post (zA ad 37 s.heap.size)) args s mc ms (zA ad 37 s.heap.size)) (F0 m 0 ls [])) :
    lMet l D cyI cyJ cyB ad y ws rm av S mc ms post := by
  intro sz
  refine va_MetW (cc := cc) (maxL := maxL) (ret := ret) (hh := hh) hy hw ?_
  intro p e s m args below meth c s₁ B hml hv
  obtain ⟨rfl, hsz, hP, hK, hXs⟩ := hv
  subst hsz
  have hl := lv_entry av (n := maxL) hn
  have hts := atoms_spec (ws := ws) B.pre
  have hown : s.vm.findClass y.cls = some m.cls := findClass_of_methodNamed B.named
  have hex := vx_table (x := y) B (hts _ (by rw [hw]; exact List.mem_cons_self))
  rw [lg_entry_eq]
  exact body p e s m av.toArray below meth c _ ⟨B.exec, B.bytes, hml, hown, hts⟩ B.returns B.notSynchronized hex hP hK hXs hl
end LST
section LCA
variable {p : Program} {l : Launch} {e : Env} {R : Room} {s : State} {m : MethodId} {args : Array Value} {below : List Frame} {meth : Method} {c : Code} {H : Heap} {locs : List Loc} {cells slots : Nat} {Q : State → Prop}
variable {D : va_G} {cyI cyJ cyB : ClassId} {ad : Nat → Nat} {X : (Nat → Prop) → State → Prop} {tys' : List (ClassId × FieldType)}
variable {cc : ByteArray} {nL mc ms : Nat} {Ts : List Cond} {own : String} {y : MethodName} {ws ws' : List Cond} {rm : Room} {bytes : ByteArray} {maxL : Nat} {ret : Option FieldType} {index pc : Nat} {ls : Array Slot} {st rest As : List Value} {S : zS} {post : Int32 → zS → Prop} {px : Option String}
theorem zA_36 {q : Nat} {n n' : Nat} (hn : n ≤ n') (h : zA ad 36 n' q) : zA ad 37 n q := h.elim (fun ⟨k, hk, e⟩ => Or.inl ⟨k, by omega, e⟩) (fun h => Or.inr (Nat.le_trans hn h))
/-- the class is called -/
theorem lCall (na : Nat) (cx : CallFix p m c cc nL s args Ts own) (hM : ∀ sz, vx_Met l y ws rm (zPc D tys' ad 36 X (cw cyI ad) (.ref (ad 0) :: As) S sz) (zQi D (cw cyI ad) post (zA ad 36 sz)) (xXC D (cw cyI ad) S px (zA ad 36 sz)) mc ms (zA ad 36 sz))
    (hG : GoodIn Ts (wsV own index RX6 y ws)) (hw : ws = Cond.code y bytes maxL ret :: ws') (hrm : rm.cells = mc ∧ rm.slots = ms)
    (hd : y.cls = RX6 ∧ y.cls ≠ "java/lang/invoke/MethodHandle" ∧ y.cls ≠ "java/lang/invoke/VarHandle" ∧ (parseMethodDescriptor y.desc).map (fun d => d.parameters.length) = some na) (hR : rm.frames + 1 ≤ R.frames ∧ 8 + (maxL + 11) + rm.locals ≤ R.locals)
    (hX : zX X ad 36) (hXL : ∀ (A : Nat → Prop) (U : State), xL A U → X A U) (hI : zI ad 37) (hXs : xL (zA ad 37 s.heap.size) s) (hK' : va_K D vwCl tys' s) (hP : va_P D vwCl (lw cyI cyJ ad S) H) (hS : va_S (zA ad 37 s.heap.size) s.heap H locs)
    (hna : As.length = na) (hsz : ls.size = nL) (hst : st = As.reverse ++ .ref (ad 0) :: rest) (hrest : (rest.map fun v => v.category).sum ≤ 8) (hdg : decode cc pc = .ok (.invokevirtual index, 3)) (hcs : cells + mc ≤ R.cells ∧ slots + ms ≤ R.slots)
    (kx : ∀ (E : String) (ce : Cell) (q9 : Addr) (H1 : Heap) (locs1 : List Loc), px = some E → va_P D vwCl (lw cyI cyJ ad S) H1 → va_S (zA ad 37 s.heap.size) s.heap H1 locs1 → H1[q9]? = some ce → ce.vm = .none → s.vm.findClass E = some ce.cls → vx_W p l e R s m args below meth c H1 locs1 (cells + mc) (slots + ms) Q (F0 m pc ls rest) q9)
    (kk : ∀ (r : Int32) (T : zS) (H1 : Heap) (locs1 : List Loc), post r T → va_P D vwCl (lw cyI cyJ ad (zUp T 18 (S 18))) H1 → va_S (zA ad 37 s.heap.size) s.heap H1 locs1 → W p l e R s m args below meth c H1 locs1 (cells + mc) (slots + ms) Q (F0 m (pc + 3) ls (.int r :: rest))) : W p l e R s m args below meth c H locs cells slots Q (F0 m pc ls st) := by
  have hPc : va_P D vwCl (cw cyI ad S) H := hP.sub (List.range 36) rfl
  have hPo : va_P D vwCl [(ad 36, .inl (cyJ, 1, .inr (.inl (oV (S 18 0)))))] H := hP.sub [36] rfl
  have hlo : ad 36 < H.size := (hPo 0 _ rfl).lt
  have h36 : ∀ q, zA ad 36 H.size q → zA ad 37 s.heap.size q := fun q h => zA_36 hS.1 h
  have hno : ¬ zA ad 36 H.size (ad 36) := by
    rintro (⟨k, hk, e⟩ | h)
    · have := hI 36 k (by decide) (by omega) e
      omega
    · omega
  have keep : ∀ H1 : Heap, (∀ q : Nat, q < H.size → ¬ zA ad 36 H.size q → H1[q]? = H[q]?) → va_P D vwCl [(ad 36, .inl (cyJ, 1, .inr (.inl (oV (S 18 0)))))] H1 := by
    intro H1 hk
    refine hPo.kept (fun k q hq => ?_)
    have e : q.1 = ad 36 := by
      match k, hq with
      | 0, hq => exact (congrArg Prod.fst (Option.some.inj hq)).symm
      | k + 1, hq => simp at hq
    rw [e]
    exact hk _ hlo hno
  have hpre : ∀ U : State, U.heap = H → s.WarmedH U.vm → zPc D tys' ad 36 X (cw cyI ad) (.ref (ad 0) :: As) S H.size (Value.ref (ad 0) :: As).toArray U :=
    fun U hU hW => ⟨rfl, by rw [hU], by rw [hU]; exact hPc, va_K.moved hW.alike hK', hXL _ U (xL_sub ((xL_X ad 37).1 s U H locs hXs hU hW hS) (fun q h => zA_36 (Nat.le_refl _) h))⟩
  refine vx_calli (vx_runV (As := As) (rest := rest) cx (hM H.size) (cwV na cx.2.2.2.2 hG hw hrm.1 hrm.2 hd hR) ⟨zBlind hX, va_recv (ci := 8) (q0 := 0) hK' hPc rfl rfl, hpre⟩ rfl hna hsz hst (lv_room hrest) hdg hcs) hS (fun q _ h => h36 q h) h36 (fun q _ h => h36 q h) ?_ ?_
  · intro E ce q9 u t H1 locs1 ht hvm _ hB hz1 hk1 hS1 hce hcv hcl
    refine kx E ce q9 H1 locs1 hB.1 ?_ hS1 hce hcv hcl
    have h2 := hB.2
    rw [ht] at h2
    exact h2.app (keep H1 hk1)
  · intro r T t H1 locs1 ht hvm hp hB hz1 hk1 hS1
    refine kk r T H1 locs1 hp ?_ hS1
    rw [← lw_18 cyI cyJ ad S T]
    have h2 : va_P D vwCl (cw cyI ad T) t.heap := hB
    rw [ht] at h2
    exact h2.app (keep H1 hk1)
/-- the answer goes into its row -/
theorem lStore {T : zS} {h : Nat → Int32} {v : Int32} (cx : CallFix p m c cc nL s args Ts own) (hI : zI ad 37) (hK : va_K D vwCl (lTys cyI cyJ cyB) s) (hP : va_P D vwCl (lw cyI cyJ ad (zUp T 18 h)) H) (hS : va_S (zA ad 37 s.heap.size) s.heap H locs) (hdg : decode cc pc = .ok (.lastore, 1))
    (kk : ∀ (H1 : Heap) (locs1 : List Loc), va_P D vwCl (lw cyI cyJ ad (zUp T 18 (upd h 0 v))) H1 → va_S (zA ad 37 s.heap.size) s.heap H1 locs1 → W p l e R s m args below meth c H1 locs1 cells slots Q (F0 m (pc + 1) ls rest)) : W p l e R s m args below meth c H locs cells slots Q (F0 m pc ls (.long v.toInt64 :: .int 0 :: .ref (ad 36) :: rest)) :=
  va_last cx.1 cx.2.1 hK hP (zD (lw_W cyI cyJ ad) hI _ (fun _ h => zA_ad h)) hS 36 1 rfl rfl vp_01 hdg (fun H1 locs1 hP1 _ hS1 => kk H1 locs1 (by rw [← lw_set]; exact hP1) hS1)
/-- the end -/
theorem lRet {post : Int32 → zS → Prop} {v : Int32} {T : zS} {rt : FieldType} (cx : CallFix p m c cc nL s args Ts own) (hr : meth.sig.returnType = some rt) (hlocks : meth.locks = false) (hn : narrow rt (.int v) = .int v) (hS : va_S (zA ad 37 s.heap.size) s.heap H locs) (hP : va_P D vwCl (lw cyI cyJ ad T) H) (hp : post v T) (h1 : cells ≤ mc) (h2 : slots ≤ ms) (hdg : decode cc pc = .ok (.ireturn, 1)) :
    W p l e R s m args below meth c H locs cells slots (MQ below (zQi D (lw cyI cyJ ad) post (zA ad 37 s.heap.size)) args s mc ms (zA ad 37 s.heap.size)) (F0 m pc ls [.int v]) :=
  W.widen h1 h2 (W.zret cx.1 cx.2.1 hr hn (fun t ht _ => ⟨⟨v, T, rfl, hp, by show va_P D vwCl (lw cyI cyJ ad T) t.heap; rw [ht]; exact hP⟩, hS.F ht⟩) hS.2.2 hdg hlocks)
end LCA
theorem tE_cell (x : Int32) : t_X6_requireCell x = none ∨ t_X6_requireCell x = some xIO := by
  unfold t_X6_requireCell
  split
  · exact Or.inr rfl
  · split
    · exact Or.inl rfl
    · exact Or.inr rfl
theorem tE_range (x a b : Int32) : t_X6_requireRange x a b = none ∨ t_X6_requireRange x a b = some xIA := by
  unfold t_X6_requireRange
  split
  · exact Or.inr rfl
  · split
    · exact Or.inl rfl
    · exact Or.inr rfl
theorem tE_cash (S : zS) (x : Int32) : t_X6_requireCash S x = none ∨ t_X6_requireCash S x = some xIS := by
  unfold t_X6_requireCash
  split
  · exact Or.inl rfl
  · exact Or.inr rfl
