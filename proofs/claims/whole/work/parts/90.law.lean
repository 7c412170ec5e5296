/-! THE LAW: the class and the reference side by side -/
def LI (D : va_G) (cyI cyZ cyJ : ClassId) (aC aM : Nat → Nat) (C M : zS) (H : Heap) : Prop := va_P D vwCl (lw cyI cyJ aC C) H ∧ va_P D vwCl (mw cyI cyZ aM M) H
def lA (s : State) : Nat → Prop := fun q => s.heap.size ≤ q
def LC (D : va_G) (cyI cyZ cyJ cyB : ClassId) (aC aM : Nat → Nat) (s : State) : Prop := zI aC 37 ∧ zI aM 14 ∧ (∀ i j, i < 37 → j < 14 → aC i ≠ aM j) ∧ (∀ i, i < 37 → s.heap.size ≤ aC i) ∧ (∀ j, j < 14 → s.heap.size ≤ aM j) ∧ va_K D vwCl [(cyI, .int), (cyJ, .long), (cyB, .byte), (cyZ, .boolean)] s ∧ xL (lA s) s
theorem xT_on {A B : Nat → Prop} {s U : State} {H : Heap} {locs : List Loc} (h : xT A s) (hU : U.heap = H) (hW : s.WarmedH U.vm) (hS : va_S A s.heap H locs) (hAB : ∀ q, B q → A q) : xT B U :=
  ⟨⟨va_Nw.warmM hW h.1.1, va_Nw.warmM hW h.1.2⟩, by rw [hU]; exact ((h.2.1.moved hW.alike).kept hS.2.1).narrow hAB, by rw [hU]; exact ((h.2.2.1.moved hW.alike).kept hS.2.1).narrow hAB, fun q hq => by
      obtain ⟨sa, hsa⟩ := h.2.2.2.1 q hq
      exact ⟨sa, vk_R.warm hW hsa⟩, fun x hx => xdeclW hW (h.2.2.2.2.1 x hx), fun C hC => va_Nw.warmC hW (h.2.2.2.2.2 C hC)⟩
theorem xL_on {A B : Nat → Prop} {s U : State} {H : Heap} {locs : List Loc} (h : xL A s) (hU : U.heap = H) (hW : s.WarmedH U.vm) (hS : va_S A s.heap H locs) (hAB : ∀ q, B q → A q) : xL B U :=
  ⟨⟨xT_on h.1.1 hU hW hS hAB, by rw [hU]; exact ((h.1.2.1.moved hW.alike).kept hS.2.1).narrow hAB, fun q hq => by
      obtain ⟨a, h1, h2⟩ := h.1.2.2 q hq
      exact ⟨a, vk_R.warm hW h1, by rw [hU]; exact ((h2.moved hW.alike).kept hS.2.1).narrow hAB⟩⟩, h.2.1.moved hW.alike, h.2.2.1.moved hW.alike, h.2.2.2.moved hW.alike⟩
section LAW
variable {p : Program} {l : Launch} {e : Env} {R : Room} {s : State} {m : MethodId} {args : Array Value} {below : List Frame} {meth : Method} {c : Code} {H : Heap} {locs : List Loc} {cells slots : Nat} {Q : State → Prop}
variable {D : va_G} {cyI cyZ cyJ cyB : ClassId} {aC aM : Nat → Nat} {C M : zS}
variable {cc : ByteArray} {nL mc ms : Nat} {Ts : List Cond} {own : String} {y : MethodName} {ws ws' : List Cond} {rm : Room} {bytes : ByteArray} {maxL : Nat} {ret : Option FieldType} {hh : List (Nat × Nat × Nat × Nat)} {index pc : Nat} {ls : Array Slot} {st rest As av : List Value} {post : Int32 → zS → Prop}
theorem law_notM (hL : LC D cyI cyZ cyJ cyB aC aM s) {n k : Nat} (hn : n ≤ 37) (hk : k < 14) (hlt : aM k < H.size) : ¬ zA aC n H.size (aM k) := by
  rintro (⟨i, hi, e⟩ | h)
  · exact hL.2.2.1 i k (by omega) hk e.symm
  · omega
theorem law_notC (hL : LC D cyI cyZ cyJ cyB aC aM s) {k : Nat} (hk : k < 37) (hlt : aC k < H.size) : ¬ zA aM 14 H.size (aC k) := by
  rintro (⟨i, hi, e⟩ | h)
  · exact hL.2.2.1 k i hk hi e
  · omega
theorem law_keepM {H1 : Heap} {n : Nat} (hL : LC D cyI cyZ cyJ cyB aC aM s) (hn : n ≤ 37) (hP : va_P D vwCl (mw cyI cyZ aM M) H) (hk : ∀ q : Nat, q < H.size → ¬ zA aC n H.size q → H1[q]? = H[q]?) : va_P D vwCl (mw cyI cyZ aM M) H1 :=
  hP.kept (fun k q hq => by
    obtain ⟨h1, h2⟩ := zW_at (mw_W cyI cyZ aM) hq
    have hlt := (hP k q hq).lt
    rw [h2] at hlt ⊢
    exact hk _ hlt (law_notM hL hn h1 hlt))
theorem law_keepC {H1 : Heap} (hL : LC D cyI cyZ cyJ cyB aC aM s) (hP : va_P D vwCl (lw cyI cyJ aC C) H) (hk : ∀ q : Nat, q < H.size → ¬ zA aM 14 H.size q → H1[q]? = H[q]?) : va_P D vwCl (lw cyI cyJ aC C) H1 :=
  hP.kept (fun k q hq => by
    obtain ⟨h1, h2⟩ := zW_at (lw_W cyI cyJ aC) hq
    have hlt := (hP k q hq).lt
    rw [h2] at hlt ⊢
    exact hk _ hlt (law_notC hL h1 hlt))
theorem law_inC (hL : LC D cyI cyZ cyJ cyB aC aM s) (hS : va_S (lA s) s.heap H locs) {n : Nat} (hn : n ≤ 37) : ∀ q, zA aC n H.size q → lA s q := by
  rintro q (⟨i, hi, e⟩ | h)
  · rw [e]
    exact hL.2.2.2.1 i (by omega)
  · exact Nat.le_trans hS.1 h
theorem law_inM (hL : LC D cyI cyZ cyJ cyB aC aM s) (hS : va_S (lA s) s.heap H locs) : ∀ q, zA aM 14 H.size q → lA s q := by
  rintro q (⟨i, hi, e⟩ | h)
  · rw [e]
    exact hL.2.2.2.2.1 i hi
  · exact Nat.le_trans hS.1 h
/-- one of the law's small methods is called -/
theorem lawL (na : Nat) (cx : CallFix p m c cc nL s args Ts own) (hM : lMet l D cyI cyJ cyB aC y ws rm av C mc ms post) (hG : GoodIn Ts (va_wsS own index y ws)) (hw : ws = Cond.codeWith y bytes maxL ret hh :: ws') (hrm : rm.cells = mc ∧ rm.slots = ms)
    (hd : y.cls ≠ "java/lang/invoke/MethodHandle" ∧ y.cls ≠ "java/lang/invoke/VarHandle" ∧ (parseMethodDescriptor y.desc).map (fun d => d.parameters.length) = some na) (hR : rm.frames + 1 ≤ R.frames ∧ 8 + (maxL + 11) + rm.locals ≤ R.locals)
    (hL : LC D cyI cyZ cyJ cyB aC aM s) (hI : LI D cyI cyZ cyJ aC aM C M H) (hS : va_S (lA s) s.heap H locs)
    (hna : av.length = na) (hsz : ls.size = nL) (hst : st = av.reverse ++ rest) (hrest : (rest.map fun v => v.category).sum ≤ 8) (hdg : decode cc pc = .ok (.invokestatic index, 3)) (hcs : cells + mc ≤ R.cells ∧ slots + ms ≤ R.slots)
    (kk : ∀ (r : Int32) (T : zS) (H1 : Heap) (locs1 : List Loc), post r T → LI D cyI cyZ cyJ aC aM T M H1 → va_S (lA s) s.heap H1 locs1 → W p l e R s m args below meth c H1 locs1 (cells + mc) (slots + ms) Q (F0 m (pc + 3) ls (.int r :: rest))) : W p l e R s m args below meth c H locs cells slots Q (F0 m pc ls st) := by
  have hA := law_inC hL hS (n := 37) (Nat.le_refl _)
  have hpre : ∀ U : State, U.heap = H → s.WarmedH U.vm → zPc D (lTys cyI cyJ cyB) aC 37 xL (lw cyI cyJ aC) av C H.size av.toArray U :=
    fun U hU hW => ⟨rfl, by rw [hU], by rw [hU]; exact hI.1, va_K.moved hW.alike (hL.2.2.2.2.2.1.sub (tys' := lTys cyI cyJ cyB) [0, 1, 2] rfl), xL_on hL.2.2.2.2.2.2 hU hW hS hA⟩
  exact va_calli (vx_runSW (As := av) (rest := rest) cx (hM H.size) (vx_cwSW na cx.2.2.2.2 hG hw hrm.1 hrm.2 hd hR) ⟨zBlind (xL_X aC 37), hpre⟩ rfl hna hsz hst (lv_room hrest) hdg hcs) hS (fun q _ h => hA q h) hA
    (fun r T t H1 locs1 ht hvm hp hB hz1 hk1 hS1 => kk r T H1 locs1 hp ⟨by
      have h2 : va_P D vwCl (lw cyI cyJ aC T) t.heap := hB
      rw [ht] at h2
      exact h2, law_keepM hL (Nat.le_refl _) hI.2 hk1⟩ hS1)
/-- the reference is called -/
theorem lawM (na : Nat) (cx : CallFix p m c cc nL s args Ts own) (hM : zMi l D [(cyI, .int), (cyZ, .boolean)] aM 14 (fun _ _ => True) (mw cyI cyZ aM) y ws rm (.ref (aM 0) :: As) M post) (hG : GoodIn Ts (wsV own index RX7 y ws)) (hw : ws = Cond.code y bytes maxL ret :: ws') (hrm : rm.cells = 0 ∧ rm.slots = 0)
    (hd : y.cls = RX7 ∧ y.cls ≠ "java/lang/invoke/MethodHandle" ∧ y.cls ≠ "java/lang/invoke/VarHandle" ∧ (parseMethodDescriptor y.desc).map (fun d => d.parameters.length) = some na) (hR : rm.frames + 1 ≤ R.frames ∧ 8 + (maxL + 11) + rm.locals ≤ R.locals)
    (hL : LC D cyI cyZ cyJ cyB aC aM s) (hI : LI D cyI cyZ cyJ aC aM C M H) (hS : va_S (lA s) s.heap H locs)
    (hna : As.length = na) (hsz : ls.size = nL) (hst : st = As.reverse ++ .ref (aM 0) :: rest) (hrest : (rest.map fun v => v.category).sum ≤ 8) (hdg : decode cc pc = .ok (.invokevirtual index, 3)) (hcs : cells + 0 ≤ R.cells ∧ slots + 0 ≤ R.slots)
    (kk : ∀ (r : Int32) (T : zS) (H1 : Heap) (locs1 : List Loc), post r T → LI D cyI cyZ cyJ aC aM C T H1 → va_S (lA s) s.heap H1 locs1 → W p l e R s m args below meth c H1 locs1 cells slots Q (F0 m (pc + 3) ls (.int r :: rest))) : W p l e R s m args below meth c H locs cells slots Q (F0 m pc ls st) := by
  have hA := law_inM hL hS
  have hK := hL.2.2.2.2.2.1.sub (tys' := [(cyI, .int), (cyZ, .boolean)]) [0, 3] rfl
  have hpre : ∀ U : State, U.heap = H → s.WarmedH U.vm → zPc D [(cyI, .int), (cyZ, .boolean)] aM 14 (fun _ _ => True) (mw cyI cyZ aM) (.ref (aM 0) :: As) M H.size (Value.ref (aM 0) :: As).toArray U :=
    fun U hU hW => ⟨rfl, by rw [hU], by rw [hU]; exact hI.2, va_K.moved hW.alike hK, trivial⟩
  exact va_calli (va_runV (As := As) (rest := rest) cx (hM H.size) (cwV na cx.2.2.2.2 hG hw hrm.1 hrm.2 hd hR) ⟨zBlind zX_true, va_recv (ci := 9) (q0 := 0) hK hI.2 rfl rfl, hpre⟩ rfl hna hsz hst (lv_room hrest) hdg hcs) hS (fun q _ h => hA q h) hA
    (fun r T t H1 locs1 ht hvm hp hB hz1 hk1 hS1 => kk r T H1 locs1 hp ⟨law_keepC hL hI.1 hk1, by
      have h2 : va_P D vwCl (mw cyI cyZ aM T) t.heap := hB
      rw [ht] at h2
      exact h2⟩ hS1)
/-- the class is called, for what it only reads -/
theorem lawC {f : Int32} (na : Nat) (cx : CallFix p m c cc nL s args Ts own) (hM : zMi l D [(cyI, .int)] aC 36 xN (cw cyI aC) y ws rm (.ref (aC 0) :: As) C (fun v T => v = f ∧ T = C)) (hG : GoodIn Ts (wsV own index RX6 y ws)) (hw : ws = Cond.code y bytes maxL ret :: ws') (hrm : rm.cells = 0 ∧ rm.slots = 0)
    (hd : y.cls = RX6 ∧ y.cls ≠ "java/lang/invoke/MethodHandle" ∧ y.cls ≠ "java/lang/invoke/VarHandle" ∧ (parseMethodDescriptor y.desc).map (fun d => d.parameters.length) = some na) (hR : rm.frames + 1 ≤ R.frames ∧ 8 + (maxL + 11) + rm.locals ≤ R.locals)
    (hL : LC D cyI cyZ cyJ cyB aC aM s) (hI : LI D cyI cyZ cyJ aC aM C M H) (hS : va_S (lA s) s.heap H locs)
    (hna : As.length = na) (hsz : ls.size = nL) (hst : st = As.reverse ++ .ref (aC 0) :: rest) (hrest : (rest.map fun v => v.category).sum ≤ 8) (hdg : decode cc pc = .ok (.invokevirtual index, 3)) (hcs : cells + 0 ≤ R.cells ∧ slots + 0 ≤ R.slots)
    (kk : ∀ (H1 : Heap) (locs1 : List Loc), LI D cyI cyZ cyJ aC aM C M H1 → va_S (lA s) s.heap H1 locs1 → W p l e R s m args below meth c H1 locs1 cells slots Q (F0 m (pc + 3) ls (.int f :: rest))) : W p l e R s m args below meth c H locs cells slots Q (F0 m pc ls st) := by
  have hA := law_inC hL hS (n := 36) (by decide)
  have hK := hL.2.2.2.2.2.1.sub (tys' := [(cyI, .int)]) [0] rfl
  have hPc : va_P D vwCl (cw cyI aC C) H := hI.1.sub (List.range 36) rfl
  have hPo : va_P D vwCl [(aC 36, .inl (cyJ, 1, .inr (.inl (oV (C 18 0)))))] H := hI.1.sub [36] rfl
  have hN : xN (lA s) s := hL.2.2.2.2.2.2.1.1.1
  have hpre : ∀ U : State, U.heap = H → s.WarmedH U.vm → zPc D [(cyI, .int)] aC 36 xN (cw cyI aC) (.ref (aC 0) :: As) C H.size (Value.ref (aC 0) :: As).toArray U :=
    fun U hU hW => ⟨rfl, by rw [hU], by rw [hU]; exact hPc, va_K.moved hW.alike hK, va_Nw.warmM hW hN.1, va_Nw.warmM hW hN.2⟩
  refine va_calli (va_runV (As := As) (rest := rest) cx (hM H.size) (cwV na cx.2.2.2.2 hG hw hrm.1 hrm.2 hd hR) ⟨zBlind (xN_X aC 36), va_recv (ci := 8) (q0 := 0) hK hPc rfl rfl, hpre⟩ rfl hna hsz hst (lv_room hrest) hdg hcs) hS (fun q _ h => hA q h) hA
    (fun r T t H1 locs1 ht hvm hp hB hz1 hk1 hS1 => ?_)
  obtain ⟨h7, h8⟩ := hp
  have h2 : va_P D vwCl (cw cyI aC T) t.heap := hB
  rw [ht, h8] at h2
  rw [h7]
  refine kk H1 locs1 ⟨h2.app (hPo.kept (fun k q hq => ?_)), law_keepM hL (by decide) hI.2 hk1⟩ hS1
  have e9 : q.1 = aC 36 := by
    match k, hq with
    | 0, hq => exact (congrArg Prod.fst (Option.some.inj hq)).symm
    | k + 1, hq => simp at hq
  have hlo : aC 36 < H.size := (hPo 0 _ rfl).lt
  rw [e9]
  refine hk1 _ hlo ?_
  rintro (⟨i, hi, e⟩ | h)
  · have := hL.1 36 i (by decide) (by omega) e
    omega
  · omega
end LAW
def nfun (num : List (String × Int32)) : Prop := (∀ q ∈ num, ∀ q' ∈ num, q.1 = q'.1 → q.2 = q'.2) ∧ ∀ q ∈ num, q.2 ≠ 0
theorem nfB : nfun nB := ⟨by decide +kernel, by decide +kernel⟩
theorem nfT : nfun nT := ⟨by decide +kernel, by decide +kernel⟩
theorem nfG : nfun nG := ⟨by decide +kernel, by decide +kernel⟩
theorem nfA : nfun nA := ⟨by decide +kernel, by decide +kernel⟩
theorem nfO : nfun nO := ⟨by decide +kernel, by decide +kernel⟩
theorem law_agree {num : List (String × Int32)} {t : Option String} {f fM r : Int32} {C G T M1 : zS} (hf : nfun num) (hp : lPost num t f G C r T) (hr : LR num t f fM C G M1) : M1 13 5 = r ∧ (r = 0 → T 18 0 = fM) ∧ Rel T M1 := by
  rcases hp with ⟨h1, h2, h3⟩ | ⟨q, hq, h1, h2, h3⟩
  · rcases hr with ⟨r1, r2, r3, r4⟩ | ⟨q', hq', r1, r2, r3⟩
    · refine ⟨r2.trans h2.symm, fun _ => ?_, ?_⟩
      · rw [h3, zUp_s, pk_us]
        exact r3
      · rw [h3]
        exact Rel_18 r4 _
    · rw [h1] at r1
      cases r1
  · rcases hr with ⟨r1, r2, r3, r4⟩ | ⟨q', hq', r1, r2, r3⟩
    · rw [h1] at r1
      cases r1
    · have e := hf.1 q hq q' hq' (Option.some.inj (h1.symm.trans r1))
      refine ⟨by rw [r2, h2, e], fun z => absurd (h2.symm.trans z) (hf.2 q hq), ?_⟩
      rw [h3]
      exact r3
