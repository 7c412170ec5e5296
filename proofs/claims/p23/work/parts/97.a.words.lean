/-! THE LAW: what its start gives -/
def R_law : String := "MillbrookBoroughLaw"
def lw_P (b : Addr) (xs : List Int32) (args : Array Value) (s : State) : Prop := args = #[.ref b] ∧ s.IntsAt b xs ∧ xs.length ≤ 260 ∧ (Jvm.Cond.and given_1 narrow_1).before args s = true
def lw_Q (_ : Array Value) (s : State) (o : Outcome) (t : State) : Prop := o = .returned (some (.int 1)) ∧ Framed s o t [] 860307 6520261
def lw_Z (below : List Frame) (a : Array Value) (s : State) : State → Prop := fun t => ∃ o, t.status = .running ∧ Ended t below o ∧ lw_Q a s o t
/-- the law's own end, with 1 on the stack, nothing written that was there before, its room as the claim has it -/
theorem lw_ret {p : Program} {l : Launch} {e : Env} {s : State} {m : MethodId} {below : List Frame} {meth : Method} {c : Code} {b : Nat} (hx : p.tables.exec = Jvm.exec) (hb : c.code = code) (hr : meth.sig.returnType = ret) (hlocks : meth.locks = false) {pc : Nat} {H : Heap} {ls : Array Slot} (hdg : decode code pc = .ok (.ireturn, 1)) : W p l e room_1 s m #[Value.ref b] below meth c H [] 860307 6520261 (lw_Z below #[Value.ref b] s) (F0 m pc ls [.int 1]) := by
  intro T hT X
  obtain ⟨fs, hret, hrun, hended, hW, hframe⟩ := X.leave (v := some (.int 1)) (hlocks := hlocks) (fun h => by rw [hr] at h; cases h)
  have hmeth' : T.vm.method? m = some meth := X.method'
  refine ⟨T.setFrames fs, ?_, .returned (some (.int 1)), hrun, hended, rfl, ⟨_, rfl⟩, hW, hframe⟩
  jvm_step X.here [X.here.top, hx, hb, hdg, hmeth', hr, ret, narrow_b1]
  (try refine ⟨rfl, ?_⟩); (try refine ⟨rfl, ?_⟩)
  first | (intro acts; rw [hret _ acts rfl rfl rfl]) | rw [hret _ _ rfl rfl rfl]
  exact Steps.refl _
/-- what holds at the law's entry: the machine, the code, the tables' words (any of lw_tbl by 'hts w (by decide +kernel)'), the script of L ints xs at the cell b, what the Statement gives of the start (any of its parts by flat_of_before) -/
def lw_At (p : Program) (s : State) (m : MethodId) (meth : Method) (c : Code) (b L : Nat) (xs : Nat → Int32) : Prop :=
  p.tables.exec = Jvm.exec ∧ c.code = code ∧ meth.sig.returnType = ret ∧ c.maxLocals = 7 ∧ s.vm.findClass R_law = some m.cls ∧ (∀ w ∈ lw_tbl, w.before #[Value.ref b] s = true) ∧ va_X b L xs s s.heap ∧ b < s.heap.size ∧ meth.locks = false ∧ (Jvm.Cond.and given_1 narrow_1).before #[Value.ref b] s = true
/-- what the law makes -/
def lA (s : State) : Nat → Prop := fun q => s.heap.size ≤ q
theorem xStr_word {args : Array Value} {s : State} {own : String} {k n : Nat} {f : Nat → Int32} {A : Nat → Prop} (hn : n < 2 ^ 31) (hex : (Cond.exactly (.string own k) "java/lang/String").before args s = true) (hco : (Cond.eq (.field (.string own k) "java/lang/String" "coder" "B") (.int 0)).before args s = true)
    (har : (Cond.arrayOf (.field (.string own k) "java/lang/String" "value" "[B") .byte).before args s = true) (hle : (Cond.eq (.length (.field (.string own k) "java/lang/String" "value" "[B")) (.int (Int32.ofNat n))).before args s = true)
    (hel : ∀ j : Nat, j < n → (Cond.eq (.elem (.field (.string own k) "java/lang/String" "value" "[B") (.int (Int32.ofNat j))) (.int (f j))).before args s = true) (hA : ∀ a : Nat, a < s.heap.size → ¬ A a) : ∃ a : Nat, (Term.string own k).eval args s none [] s = some (.ref a) ∧ xStr a n f A s s.heap := by
  obtain ⟨a, c, cA, kA, q1, q2, q3, q4, q5, q6, -⟩ := Cond.exactly_spec (args := args) (first := s) (o := none) (s := s) (idx := []) hex
  obtain ⟨t, ht, hT⟩ := va_Tof (f := fun j => .int (f j)) (A := A) hn har (va_eqt hle) (fun j hj => va_eqt (hel j hj)) hA
  exact ⟨a, q1, t, ⟨cA, q3, q5, by rw [q6]; exact q2, hA a (Array.getElem?_eq_some_iff.mp q3).1⟩, vk_OFof q1 (va_eqt hco) hA, vk_OFof q1 ht hA, hT⟩
theorem str_ref {args : Array Value} {s : State} {own tx : String} {k : Nat} (h1 : (Cond.stringRef own k tx).before args s = true) (h2 : (Cond.exactly (.string own k) "java/lang/String").before args s = true) : ∃ a : Nat, vk_R own k tx a s := by
  obtain ⟨a, c, cA, kA, q1, -⟩ := Cond.exactly_spec (args := args) (first := s) (o := none) (s := s) (idx := []) h2
  exact ⟨a, vk_R.of h1 q1⟩
theorem arrT {args : Array Value} {s : State} {ty : FieldType} (h : (Cond.arrayClass ty).before args s = true) : ∃ cA : ClassId, ArrOfT s cA ty ∧ s.vm.findClass ("[" ++ ty.toString) = some cA := by
  obtain ⟨c, k, comp, h1, h2, h3⟩ := Cond.arrayClass_spec (args := args) (first := s) (o := none) (s := s) (idx := []) h
  exact ⟨c, fun n z => ⟨fun k h => (by cases h), k, h2, comp, h3⟩, h1⟩
theorem tbl_in {w : Cond} (h : w ∈ tables_1) : w ∈ lw_tbl := by
  unfold lw_tbl
  simp only [List.mem_append]
  first | exact Or.inr h | exact Or.inr (Or.inr h) | exact Or.inr (Or.inr (Or.inr h))
abbrev gvn : Cond := Jvm.Cond.and given_1 narrow_1
theorem digit_words : ∀ j, j < 100 → Cond.eq (.elem (.static "java/lang/Integer" "DigitOnes" "[B") (.int (Int32.ofNat j))) (.int (nI (48 + j % 10))) ∈ flatC gvn := by decide +kernel
set_option maxHeartbeats 4000000 in
set_option maxRecDepth 100000 in
theorem xL_start {s : State} {b : Nat} (hts0 : ∀ w ∈ lw_tbl, w.before #[Value.ref b] s = true) (hgv : gvn.before #[Value.ref b] s = true) : xL (lA s) s := by
  have hs := flat_of_before gvn hgv
  have hA : ∀ a : Nat, a < s.heap.size → ¬ lA s a := fun a h => Nat.not_le.mpr h
  have ht : ∀ w ∈ tables_1, w.before #[Value.ref b] s = true := fun w hw => hts0 w (tbl_in hw)
  refine ⟨⟨⟨?_, ?_, ?_, ?_, ?_, ?_⟩, ⟨?_, ?_, ?_⟩, ?_⟩, ?_, ?_, ?_⟩
  · exact ⟨va_Nw.of rfl (ht (.methodLinkNest RX0 30 yX6_distanceOf "MillbrookBorough") (by decide +kernel)), va_Nw.of rfl (ht (.methodLinkNest RX3 54 yX6_neighbourOf "MillbrookBorough") (by decide +kernel))⟩
  · exact vx_Zqof (ht (.laysStatic "java/lang/Throwable" "UNASSIGNED_STACK" "[Ljava/lang/StackTraceElement;") (by decide +kernel)) (ht (.initialized "java/lang/Throwable") (by decide +kernel)) (hs (.isRef (.static "java/lang/Throwable" "UNASSIGNED_STACK" "[Ljava/lang/StackTraceElement;")) (by decide +kernel)) hA
  · exact vx_Zqof (ht (.laysStatic "java/lang/Throwable" "SUPPRESSED_SENTINEL" "Ljava/util/List;") (by decide +kernel)) (ht (.initialized "java/lang/Throwable") (by decide +kernel)) (hs (.isRef (.static "java/lang/Throwable" "SUPPRESSED_SENTINEL" "Ljava/util/List;")) (by decide +kernel)) hA
  · intro q hq
    simp only [xstrs, List.mem_cons, List.not_mem_nil, or_false] at hq
    rcases hq with rfl | rfl | rfl | rfl | rfl | rfl | rfl | rfl
    · exact str_ref (ht (.stringRef "MillbrookBorough" 152 "no such cell") (by decide +kernel)) (hs (.exactly (.string "MillbrookBorough" 152) "java/lang/String") (by decide +kernel))
    · exact str_ref (ht (.stringRef "MillbrookBorough" 156 "an argument is out of range") (by decide +kernel)) (hs (.exactly (.string "MillbrookBorough" 156) "java/lang/String") (by decide +kernel))
    · exact str_ref (ht (.stringRef "MillbrookBorough" 159 "the cash is too little") (by decide +kernel)) (hs (.exactly (.string "MillbrookBorough" 159) "java/lang/String") (by decide +kernel))
    · exact str_ref (ht (.stringRef "MillbrookBorough" 58 "the cell is not empty") (by decide +kernel)) (hs (.exactly (.string "MillbrookBorough" 58) "java/lang/String") (by decide +kernel))
    · exact str_ref (ht (.stringRef "MillbrookBorough" 97 "it is more than the debt") (by decide +kernel)) (hs (.exactly (.string "MillbrookBorough" 97) "java/lang/String") (by decide +kernel))
    · exact str_ref (ht (.stringRef "MillbrookBorough" 119 "no such place") (by decide +kernel)) (hs (.exactly (.string "MillbrookBorough" 119) "java/lang/String") (by decide +kernel))
    · exact str_ref (ht (.stringRef "MillbrookBorough" 83 "the cell is empty") (by decide +kernel)) (hs (.exactly (.string "MillbrookBorough" 83) "java/lang/String") (by decide +kernel))
    · exact str_ref (ht (.stringRef "MillbrookBorough" 92 "the debt would be too great") (by decide +kernel)) (hs (.exactly (.string "MillbrookBorough" 92) "java/lang/String") (by decide +kernel))
  · intro x hx
    simp only [xdecl, List.mem_cons, List.not_mem_nil, or_false] at hx
    rcases hx with rfl | rfl | rfl
    · exact va_Nw.of rfl (ht (.declares (Bundle.initS "java/lang/RuntimeException")) (by decide +kernel))
    · exact va_Nw.of rfl (ht (.declares (Bundle.initS "java/lang/Exception")) (by decide +kernel))
    · exact va_Nw.of rfl (ht (.declares (Bundle.initS Bundle.tN)) (by decide +kernel))
  · intro C hC
    simp only [xcls, List.mem_cons, List.not_mem_nil, or_false] at hC
    rcases hC with rfl | rfl | rfl
    · exact va_Nw.of rfl (ht (.castable xIO xIO) (by decide +kernel))
    · exact va_Nw.of rfl (ht (.castable xIA xIA) (by decide +kernel))
    · exact va_Nw.of rfl (ht (.castable xIS xIS) (by decide +kernel))
  · exact va_Zof (ht (.laysStatic "java/lang/String" "COMPACT_STRINGS" "Z") (by decide +kernel)) (ht (.initialized "java/lang/String") (by decide +kernel)) (va_eqt (hs (.eq (.static "java/lang/String" "COMPACT_STRINGS" "Z") (.int 1)) (by decide +kernel))) hA
  · obtain ⟨t, h1, h2⟩ := va_Tof (ty := .byte) (N := 100) (tm := .static "java/lang/Integer" "DigitOnes" "[B") (f := fun j => .int (nI (48 + j % 10))) (A := lA s) (by decide) (hs (.arrayOf (.static "java/lang/Integer" "DigitOnes" "[B") .byte) (by decide +kernel)) (va_eqt (hs (.eq (.length (.static "java/lang/Integer" "DigitOnes" "[B")) (.int 100)) (by decide +kernel))) (fun j hj => va_eqt (hs _ (digit_words j hj))) hA
    exact ⟨t, va_Zref (ht (.laysStatic "java/lang/Integer" "DigitOnes" "[B") (by decide +kernel)) (ht (.initialized "java/lang/Integer") (by decide +kernel)) h1 hA, h2⟩
  · exact va_Zqof (ht (.laysStatic "jdk/internal/util/Preconditions" "SIOOBE_FORMATTER" "Ljava/util/function/BiFunction;") (by decide +kernel)) (ht (.initialized "jdk/internal/util/Preconditions") (by decide +kernel)) (hs (.isRef (.static "jdk/internal/util/Preconditions" "SIOOBE_FORMATTER" "Ljava/util/function/BiFunction;")) (by decide +kernel)) hA
  · intro q hq
    simp only [sLits, List.mem_cons, List.not_mem_nil, or_false] at hq
    rcases hq with rfl | rfl | rfl | rfl | rfl
    · obtain ⟨a, h1, h2⟩ := xStr_word (own := "MillbrookBorough$Board") (k := 34) (n := 1) (f := fun j => ([35] : List Int32).getD j 0) (A := lA s) (by decide) (hs (.exactly (.string "MillbrookBorough$Board" 34) "java/lang/String") (by decide +kernel)) (hs (.eq (.field (.string "MillbrookBorough$Board" 34) "java/lang/String" "coder" "B") (.int 0)) (by decide +kernel)) (hs (.arrayOf (.field (.string "MillbrookBorough$Board" 34) "java/lang/String" "value" "[B") .byte) (by decide +kernel)) (hs (.eq (.length (.field (.string "MillbrookBorough$Board" 34) "java/lang/String" "value" "[B")) (.int 1)) (by decide +kernel)) (fun j hj => by
        rcases (show j = 0 by omega) with rfl
        · exact hs (.eq (.elem (.field (.string "MillbrookBorough$Board" 34) "java/lang/String" "value" "[B") (.int 0)) (.int 35)) (by decide +kernel)) hA
      exact ⟨a, vk_R.of (ht (.stringRef "MillbrookBorough$Board" 34 "#") (by decide +kernel)) h1, h2⟩
    · obtain ⟨a, h1, h2⟩ := xStr_word (own := "MillbrookBorough$Board") (k := 40) (n := 4) (f := fun j => ([112, 97, 114, 107] : List Int32).getD j 0) (A := lA s) (by decide) (hs (.exactly (.string "MillbrookBorough$Board" 40) "java/lang/String") (by decide +kernel)) (hs (.eq (.field (.string "MillbrookBorough$Board" 40) "java/lang/String" "coder" "B") (.int 0)) (by decide +kernel)) (hs (.arrayOf (.field (.string "MillbrookBorough$Board" 40) "java/lang/String" "value" "[B") .byte) (by decide +kernel)) (hs (.eq (.length (.field (.string "MillbrookBorough$Board" 40) "java/lang/String" "value" "[B")) (.int 4)) (by decide +kernel)) (fun j hj => by
        rcases (show j = 0 ∨ j = 1 ∨ j = 2 ∨ j = 3 by omega) with rfl | rfl | rfl | rfl
        · exact hs (.eq (.elem (.field (.string "MillbrookBorough$Board" 40) "java/lang/String" "value" "[B") (.int 0)) (.int 112)) (by decide +kernel)
        · exact hs (.eq (.elem (.field (.string "MillbrookBorough$Board" 40) "java/lang/String" "value" "[B") (.int 1)) (.int 97)) (by decide +kernel)
        · exact hs (.eq (.elem (.field (.string "MillbrookBorough$Board" 40) "java/lang/String" "value" "[B") (.int 2)) (.int 114)) (by decide +kernel)
        · exact hs (.eq (.elem (.field (.string "MillbrookBorough$Board" 40) "java/lang/String" "value" "[B") (.int 3)) (.int 107)) (by decide +kernel)) hA
      exact ⟨a, vk_R.of (ht (.stringRef "MillbrookBorough$Board" 40 "park") (by decide +kernel)) h1, h2⟩
    · obtain ⟨a, h1, h2⟩ := xStr_word (own := "MillbrookBorough$Board") (k := 42) (n := 5) (f := fun j => ([112, 111, 119, 101, 114] : List Int32).getD j 0) (A := lA s) (by decide) (hs (.exactly (.string "MillbrookBorough$Board" 42) "java/lang/String") (by decide +kernel)) (hs (.eq (.field (.string "MillbrookBorough$Board" 42) "java/lang/String" "coder" "B") (.int 0)) (by decide +kernel)) (hs (.arrayOf (.field (.string "MillbrookBorough$Board" 42) "java/lang/String" "value" "[B") .byte) (by decide +kernel)) (hs (.eq (.length (.field (.string "MillbrookBorough$Board" 42) "java/lang/String" "value" "[B")) (.int 5)) (by decide +kernel)) (fun j hj => by
        rcases (show j = 0 ∨ j = 1 ∨ j = 2 ∨ j = 3 ∨ j = 4 by omega) with rfl | rfl | rfl | rfl | rfl
        · exact hs (.eq (.elem (.field (.string "MillbrookBorough$Board" 42) "java/lang/String" "value" "[B") (.int 0)) (.int 112)) (by decide +kernel)
        · exact hs (.eq (.elem (.field (.string "MillbrookBorough$Board" 42) "java/lang/String" "value" "[B") (.int 1)) (.int 111)) (by decide +kernel)
        · exact hs (.eq (.elem (.field (.string "MillbrookBorough$Board" 42) "java/lang/String" "value" "[B") (.int 2)) (.int 119)) (by decide +kernel)
        · exact hs (.eq (.elem (.field (.string "MillbrookBorough$Board" 42) "java/lang/String" "value" "[B") (.int 3)) (.int 101)) (by decide +kernel)
        · exact hs (.eq (.elem (.field (.string "MillbrookBorough$Board" 42) "java/lang/String" "value" "[B") (.int 4)) (.int 114)) (by decide +kernel)) hA
      exact ⟨a, vk_R.of (ht (.stringRef "MillbrookBorough$Board" 42 "power") (by decide +kernel)) h1, h2⟩
    · obtain ⟨a, h1, h2⟩ := xStr_word (own := "MillbrookBorough$Board") (k := 44) (n := 5) (f := fun j => ([119, 97, 116, 101, 114] : List Int32).getD j 0) (A := lA s) (by decide) (hs (.exactly (.string "MillbrookBorough$Board" 44) "java/lang/String") (by decide +kernel)) (hs (.eq (.field (.string "MillbrookBorough$Board" 44) "java/lang/String" "coder" "B") (.int 0)) (by decide +kernel)) (hs (.arrayOf (.field (.string "MillbrookBorough$Board" 44) "java/lang/String" "value" "[B") .byte) (by decide +kernel)) (hs (.eq (.length (.field (.string "MillbrookBorough$Board" 44) "java/lang/String" "value" "[B")) (.int 5)) (by decide +kernel)) (fun j hj => by
        rcases (show j = 0 ∨ j = 1 ∨ j = 2 ∨ j = 3 ∨ j = 4 by omega) with rfl | rfl | rfl | rfl | rfl
        · exact hs (.eq (.elem (.field (.string "MillbrookBorough$Board" 44) "java/lang/String" "value" "[B") (.int 0)) (.int 119)) (by decide +kernel)
        · exact hs (.eq (.elem (.field (.string "MillbrookBorough$Board" 44) "java/lang/String" "value" "[B") (.int 1)) (.int 97)) (by decide +kernel)
        · exact hs (.eq (.elem (.field (.string "MillbrookBorough$Board" 44) "java/lang/String" "value" "[B") (.int 2)) (.int 116)) (by decide +kernel)
        · exact hs (.eq (.elem (.field (.string "MillbrookBorough$Board" 44) "java/lang/String" "value" "[B") (.int 3)) (.int 101)) (by decide +kernel)
        · exact hs (.eq (.elem (.field (.string "MillbrookBorough$Board" 44) "java/lang/String" "value" "[B") (.int 4)) (.int 114)) (by decide +kernel)) hA
      exact ⟨a, vk_R.of (ht (.stringRef "MillbrookBorough$Board" 44 "water") (by decide +kernel)) h1, h2⟩
    · obtain ⟨a, h1, h2⟩ := xStr_word (own := "MillbrookBorough$Board") (k := 46) (n := 1) (f := fun j => ([46] : List Int32).getD j 0) (A := lA s) (by decide) (hs (.exactly (.string "MillbrookBorough$Board" 46) "java/lang/String") (by decide +kernel)) (hs (.eq (.field (.string "MillbrookBorough$Board" 46) "java/lang/String" "coder" "B") (.int 0)) (by decide +kernel)) (hs (.arrayOf (.field (.string "MillbrookBorough$Board" 46) "java/lang/String" "value" "[B") .byte) (by decide +kernel)) (hs (.eq (.length (.field (.string "MillbrookBorough$Board" 46) "java/lang/String" "value" "[B")) (.int 1)) (by decide +kernel)) (fun j hj => by
        rcases (show j = 0 by omega) with rfl
        · exact hs (.eq (.elem (.field (.string "MillbrookBorough$Board" 46) "java/lang/String" "value" "[B") (.int 0)) (.int 46)) (by decide +kernel)) hA
      exact ⟨a, vk_R.of (ht (.stringRef "MillbrookBorough$Board" 46 ".") (by decide +kernel)) h1, h2⟩
  · exact va_Nc.of (hs (.not (.castable xIA xIO)) (by decide +kernel))
  · exact va_Nc.of (hs (.not (.castable xIS xIO)) (by decide +kernel))
  · exact va_Nc.of (hs (.not (.castable xIS xIA)) (by decide +kernel))
theorem xI_start {s : State} {b : Nat} (hts0 : ∀ w ∈ lw_tbl, w.before #[Value.ref b] s = true) : xI s := by
  have ht : ∀ w ∈ tables_1, w.before #[Value.ref b] s = true := fun w hw => hts0 w (tbl_in hw)
  exact ⟨va_Nw.of rfl (ht (.methodLinkNest RX6 9 yX0_init "MillbrookBorough") (by decide +kernel)), va_Nw.of rfl (ht (.methodLinkNest RX6 18 yX3_init "MillbrookBorough") (by decide +kernel)), va_Nw.of rfl (ht (.methodLinkNest RX6 25 yX5_init "MillbrookBorough") (by decide +kernel)), va_Nw.of rfl (ht (.methodLinkNest RX6 32 yX1_init "MillbrookBorough") (by decide +kernel)), va_Nw.of rfl (ht (.methodLinkNest RX6 39 yX2_init "MillbrookBorough") (by decide +kernel))⟩
theorem inB {w : Cond} (h : w ∈ wsL_law) : w ∈ wsB_law := List.mem_append_left _ h
def adL (u : Nat → Nat) (q1 q2 q3 : Nat) : Nat → Nat := fun k => if k < 36 then u k else if k = 36 then q1 else if k = 37 then q2 else q3
theorem zA_L {ad : Nat → Nat} {s : State} (h : ∀ i, i < 39 → lA s (ad i)) : zA ad 39 s.heap.size = lA s := by
  funext q
  apply propext
  constructor
  · rintro (⟨k, hk, e⟩ | h1)
    · rw [e]
      exact h k hk
    · exact h1
  · intro h1
    exact Or.inr h1
