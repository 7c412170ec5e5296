set_option maxHeartbeats 4000000 in
set_option maxRecDepth 100000 in
theorem c_X6_sign (l : Launch) (dC : Nat → ClassId) (dI : Nat → Nat → Nat) (cyI cyB : ClassId) (ad : Nat → Nat) (hI : zI ad 36) (hlf : l.stackTraces = false) (S : zS) (x0 x1 : Int32) (hlv : lvOK (S 1)) : ∀ sz, vx_Met l yX6_sign wsX6_sign ({ frames := 12, cells := 8, slots := 64, locals := 400 } : Room) (zPc (dC, dI) [(cyI, .int), (cyB, .byte)] ad 36 xS (cw cyI ad) [.ref (ad 0), .int x0, .int x1] S sz) (zQi (dC, dI) (cw cyI ad) (fun v T => v = f_X6_sign S x0 x1 ∧ T = S ∧ t_X6_sign S x0 x1 = none) (zA ad 36 sz)) (xXC (dC, dI) (cw cyI ad) S (t_X6_sign S x0 x1) (zA ad 36 sz)) 8 64 (zA ad 36 sz) := by
  sorry
