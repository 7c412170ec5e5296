/-! a cell that is none -/
theorem misses_f {S : zS} {x : Int32} (h : f_X7_misses S x = 0) : ¬ f_X7_isCell x = 0 := by
  intro z
  unfold f_X7_misses at h
  rw [if_pos z, if_pos z] at h
  exact absurd h (by decide)
theorem miss_in {S : zS} {x : Int32} (h : f_X7_misses S x = 0) : vp_in x 64 := cell_in (misses_f h)
theorem misses_g {S : zS} {x : Int32} (h : f_X7_misses S x = 0) : g_X7_misses S x = zUp (g_X7_finds S) 13 (upd (g_X7_finds S 13) 5 0) := by
  unfold g_X7_misses
  rw [if_neg (misses_f h), if_neg (misses_f h)]
theorem miss_r {S : zS} {x : Int32} (h : f_X7_misses S x = 0) : ∀ k, k < 64 → rOK (g_X7_misses S x 2) k := by
  rw [misses_g h, zUp_n _ _ (show (2 : Nat) ≠ 13 by decide)]
  exact finds_r S
theorem miss_n {S : zS} {x : Int32} (h : f_X7_misses S x = 0) : ∀ k, k < 64 → rOK (g_X7_misses S x 3) k := by
  rw [misses_g h, zUp_n _ _ (show (3 : Nat) ≠ 13 by decide)]
  exact finds_n S
theorem signOf_nar (S : zS) (n : Nat) (p : Int32) : narrow .char (.int (f_X7_signOf S n p)) = .int (f_X7_signOf S n p) := by
  unfold f_X7_signOf
  (repeat' split) <;> first | rfl | exact pk_nc _ | exact letter_nar _ _
