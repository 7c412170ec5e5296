/-! THE FRAME, for methods that throw -/
def xstrs : List (Nat × String) := [(152, "no such cell"), (156, "an argument is out of range"), (159, "the cash is too little"), (58, "the cell is not empty"), (97, "it is more than the debt"), (119, "no such place"), (83, "the cell is empty"), (92, "the debt would be too great")]
def xT : (Nat → Prop) → State → Prop := fun A U => xN A U ∧ vx_Zq Bundle.tN "UNASSIGNED_STACK" Bundle.steD A U U.heap ∧ vx_Zq Bundle.tN "SUPPRESSED_SENTINEL" Bundle.listD A U U.heap ∧ ∀ q ∈ xstrs, ∃ sa, vk_R RX6 q.1 q.2 sa U
theorem zq_on {C f d : String} {ad : Nat → Nat} {n : Nat} {s U : State} {H : Heap} {locs : List Loc} (h : vx_Zq C f d (zA ad n s.heap.size) s s.heap) (hU : U.heap = H) (hW : s.WarmedH U.vm) (hS : va_S (zA ad n s.heap.size) s.heap H locs) : vx_Zq C f d (zA ad n H.size) U U.heap := by
  rw [hU]
  exact ((h.moved hW.alike).kept hS.2.1).narrow (fun q hq => zA_mono hS.1 hq)
theorem xT_X (ad : Nat → Nat) (n : Nat) : zX xT ad n :=
  ⟨fun s U H locs h hU hW hS => ⟨(xN_X ad n).1 s U H locs h.1 hU hW hS, zq_on h.2.1 hU hW hS, zq_on h.2.2.1 hU hW hS, fun q hq => by
      obtain ⟨sa, hsa⟩ := h.2.2.2 q hq
      exact ⟨sa, vk_R.warm hW hsa⟩⟩,
   fun A U g mk a h => ⟨(xN_X ad n).2 A U g mk a h.1, vx_Zq.moved (u := U) (U := U.calling g mk a) (Vm.Alike.refl U.vm) h.2.1, vx_Zq.moved (u := U) (U := U.calling g mk a) (Vm.Alike.refl U.vm) h.2.2.1, fun q hq => by
      obtain ⟨sa, hsa⟩ := h.2.2.2 q hq
      exact ⟨sa, vk_R.same rfl hsa⟩⟩⟩
theorem tst1 : (vx_atS RX6 121 "java/lang/IndexOutOfBoundsException" ["java/lang/RuntimeException", "java/lang/Exception"]).filter (fun w => !goodWord w) = [] := by decide +kernel
theorem tst2 : (vx_atS RX6 121 "java/lang/IndexOutOfBoundsException" ["java/lang/RuntimeException", "java/lang/Exception"]).filter (fun w => !goodWord w) = [.castable "java/lang/IndexOutOfBoundsException" "java/lang/IndexOutOfBoundsException"] := by decide +kernel
theorem tst3 : (vx_atS RX6 121 "java/lang/IndexOutOfBoundsException" ["java/lang/RuntimeException", "java/lang/Exception"]).all vx_ot = true := by decide +kernel
theorem tst4 : ((vx_atS RX6 121 "java/lang/IndexOutOfBoundsException" ["java/lang/RuntimeException", "java/lang/Exception"]).filter (fun w => !goodWord w)).length = 0 := by decide +kernel
theorem tst5 : ((vx_atS RX6 121 "java/lang/IndexOutOfBoundsException" ["java/lang/RuntimeException", "java/lang/Exception"]).filter (fun w => !goodWord w)).length = 1 := by decide +kernel
