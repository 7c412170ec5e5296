/-! TEXTS: what is taken as given of the JDK's statics and of the class's constants; all of it lies outside the world -/
def xStr (a n : Nat) (f : Nat → Int32) (A : Nat → Prop) (U : State) (H : Heap) : Prop := ∃ v : Nat, va_O "java/lang/String" a A U H ∧ va_OF "java/lang/String" "coder" "B" (.int 0) a A U H ∧ va_OF "java/lang/String" "value" "[B" (.ref v) a A U H ∧ va_T .byte v n (fun j => .int (f j)) A U H
theorem xStr.moved {a n : Nat} {f : Nat → Int32} {A : Nat → Prop} {u U : State} {H : Heap} (hvm : u.vm.Alike U.vm) (h : xStr a n f A u H) : xStr a n f A U H := by
  obtain ⟨v, h1, h2, h3, h4⟩ := h
  exact ⟨v, va_O.moved hvm h1, va_OF.moved hvm h2, va_OF.moved hvm h3, va_T.moved hvm h4⟩
theorem xStr.kept {a n : Nat} {f : Nat → Int32} {A : Nat → Prop} {U : State} {H H1 : Heap} (h : xStr a n f A U H) (hq : ∀ a : Nat, a < H.size → ¬ A a → H1[a]? = H[a]?) : xStr a n f A U H1 := by
  obtain ⟨v, h1, h2, h3, h4⟩ := h
  exact ⟨v, h1.kept hq, h2.kept hq, h3.kept hq, h4.kept hq⟩
theorem xStr.narrow {a n : Nat} {f : Nat → Int32} {A B : Nat → Prop} {U : State} {H : Heap} (h : xStr a n f A U H) (hAB : ∀ q, B q → A q) : xStr a n f B U H := by
  obtain ⟨v, h1, h2, h3, h4⟩ := h
  exact ⟨v, h1.narrow hAB, h2.narrow hAB, h3.narrow hAB, h4.narrow hAB⟩
def xJ (A : Nat → Prop) (U : State) (H : Heap) : Prop := va_Z "java/lang/String" "COMPACT_STRINGS" "Z" (.int 1) A U H ∧ (∃ t : Nat, va_Z "java/lang/Integer" "DigitOnes" "[B" (.ref t) A U H ∧ va_T .byte t 100 (fun j => .int (nI (48 + j % 10))) A U H) ∧ va_Zq "jdk/internal/util/Preconditions" "SIOOBE_FORMATTER" "Ljava/util/function/BiFunction;" A U H
theorem xJ.moved {A : Nat → Prop} {u U : State} {H : Heap} (hvm : u.vm.Alike U.vm) (h : xJ A u H) : xJ A U H := by
  obtain ⟨h1, ⟨t, h2, h3⟩, h4⟩ := h
  exact ⟨va_Z.moved hvm h1, ⟨t, va_Z.moved hvm h2, va_T.moved hvm h3⟩, va_Zq.moved hvm h4⟩
theorem xJ.kept {A : Nat → Prop} {U : State} {H H1 : Heap} (h : xJ A U H) (hq : ∀ a : Nat, a < H.size → ¬ A a → H1[a]? = H[a]?) : xJ A U H1 := by
  obtain ⟨h1, ⟨t, h2, h3⟩, h4⟩ := h
  exact ⟨h1.kept hq, ⟨t, h2.kept hq, h3.kept hq⟩, h4.kept hq⟩
theorem xJ.narrow {A B : Nat → Prop} {U : State} {H : Heap} (h : xJ A U H) (hAB : ∀ q, B q → A q) : xJ B U H := by
  obtain ⟨h1, ⟨t, h2, h3⟩, h4⟩ := h
  exact ⟨h1.narrow hAB, ⟨t, h2.narrow hAB, h3.narrow hAB⟩, h4.narrow hAB⟩
def sLits : List (Nat × String × List Int32) := [(34, "#", [35]), (40, "park", [112, 97, 114, 107]), (42, "power", [112, 111, 119, 101, 114]), (44, "water", [119, 97, 116, 101, 114]), (46, ".", [46])]
def xK (A : Nat → Prop) (U : State) (H : Heap) : Prop := ∀ q ∈ sLits, ∃ a : Nat, vk_R RX0 q.1 q.2.1 a U ∧ xStr a q.2.2.length (fun j => q.2.2.getD j 0) A U H
/-- a premise beside the world, of its own cells -/
theorem zX_of {Y : (Nat → Prop) → State → Heap → Prop} {s0 : State → State → Prop} (hm : ∀ (A : Nat → Prop) (u U : State) (H : Heap), s0 u U → Y A u H → Y A U H) (hb : ∀ (A : Nat → Prop) (U : State) (g : JFrame) (mk : MethodId) (a : Array Value) (H : Heap), Y A U H → Y A (U.calling g mk a) H)
    (hk : ∀ (A : Nat → Prop) (U : State) (H H1 : Heap), Y A U H → (∀ a : Nat, a < H.size → ¬ A a → H1[a]? = H[a]?) → Y A U H1) (hn : ∀ (A B : Nat → Prop) (U : State) (H : Heap), Y A U H → (∀ q, B q → A q) → Y B U H)
    (hs0 : ∀ s U : State, s.WarmedH U.vm → s0 s U) (ad : Nat → Nat) (n : Nat) : zX (fun A U => Y A U U.heap) ad n := by
  refine ⟨fun s U H locs h hU hW hS => ?_, fun A U g mk a h => hb A U g mk a U.heap h⟩
  show Y (zA ad n H.size) U U.heap
  rw [hU]
  exact hn _ _ _ _ (hk _ _ _ _ (hm _ _ _ _ (hs0 s U hW) h) hS.2.1) (fun q hq => zA_mono hS.1 hq)
theorem xK_X (ad : Nat → Nat) (n : Nat) : zX (fun A U => xK A U U.heap) ad n :=
  zX_of (Y := xK) (s0 := fun s U => s.WarmedH U.vm) (fun A u U H hW h q hq => by
    obtain ⟨a, h1, h2⟩ := h q hq
    exact ⟨a, vk_R.warm hW h1, h2.moved hW.alike⟩) (fun A U g mk a H h q hq => by
    obtain ⟨b, h1, h2⟩ := h q hq
    exact ⟨b, vk_R.same rfl h1, xStr.moved (u := U) (U := U.calling g mk a) (Vm.Alike.refl U.vm) h2⟩) (fun A U H H1 h hq q hm => by
    obtain ⟨a, h1, h2⟩ := h q hm
    exact ⟨a, h1, h2.kept hq⟩) (fun A B U H h hAB q hm => by
    obtain ⟨a, h1, h2⟩ := h q hm
    exact ⟨a, h1, h2.narrow hAB⟩) (fun _ _ h => h) ad n
theorem xJ_X (ad : Nat → Nat) (n : Nat) : zX (fun A U => xJ A U U.heap) ad n :=
  zX_of (Y := xJ) (s0 := fun s U => s.vm.Alike U.vm) (fun A u U H hW h => h.moved hW) (fun A U g mk a H h => xJ.moved (u := U) (U := U.calling g mk a) (Vm.Alike.refl U.vm) h) (fun A U H H1 h hq => h.kept hq) (fun A B U H h hAB => h.narrow hAB) (fun _ _ h => h.alike) ad n
def xS : (Nat → Prop) → State → Prop := fun A U => xT A U ∧ xJ A U U.heap ∧ xK A U U.heap
theorem xS_X (ad : Nat → Nat) (n : Nat) : zX xS ad n :=
  ⟨fun s U H locs h hU hW hS => ⟨(xT_X ad n).1 s U H locs h.1 hU hW hS, (xJ_X ad n).1 s U H locs h.2.1 hU hW hS, (xK_X ad n).1 s U H locs h.2.2 hU hW hS⟩,
   fun A U g mk a h => ⟨(xT_X ad n).2 A U g mk a h.1, (xJ_X ad n).2 A U g mk a h.2.1, (xK_X ad n).2 A U g mk a h.2.2⟩⟩
theorem xT_sub {A B : Nat → Prop} {U : State} (h : xT A U) (hAB : ∀ q, B q → A q) : xT B U :=
  ⟨h.1, h.2.1.narrow hAB, h.2.2.1.narrow hAB, h.2.2.2⟩
theorem xS_sub {A B : Nat → Prop} {U : State} (h : xS A U) (hAB : ∀ q, B q → A q) : xS B U :=
  ⟨xT_sub h.1 hAB, h.2.1.narrow hAB, fun q hq => by
    obtain ⟨a, h1, h2⟩ := h.2.2 q hq
    exact ⟨a, h1, h2.narrow hAB⟩⟩
