/-! cells as arguments; what fails answers -/
theorem isIn_t {x a b : Int32} (h : ¬ f_X7_isIn x a b = 0) : ¬ x < a ∧ ¬ b < x := by
  unfold f_X7_isIn at h
  by_cases c : x < a
  · rw [if_pos c] at h
    exact absurd rfl h
  · rw [if_neg c] at h
    by_cases c2 : b < x
    · rw [if_pos c2] at h
      exact absurd rfl h
    · exact ⟨c, c2⟩
theorem cell_in {x : Int32} (h : ¬ f_X7_isCell x = 0) : vp_in x 64 := by
  unfold f_X7_isCell at h
  obtain ⟨h1, h2⟩ := isIn_t h
  refine vp_in_of2 (by decide) h1 (fun z => h2 ?_)
  have e : (63 : Int32) < nI 64 := by decide
  exact Int32.lt_of_lt_of_le e z
theorem cell_nI {x : Int32} (h : vp_in x 64) : nI x.toNatClampNeg = x := by
  obtain ⟨j, hj, rfl⟩ := vp_in_of h (by decide)
  rw [nI_clamp (by omega)]
theorem fails_0 {S : zS} : f_X7_fails S 0 = 0 := by
  unfold f_X7_fails
  exact if_pos (by decide)
theorem fails_1 {S : zS} : f_X7_fails S 1 = 1 := by
  unfold f_X7_fails
  exact if_neg (by decide)
theorem fails_2 {S : zS} : f_X7_fails S 2 = 1 := by
  unfold f_X7_fails
  exact if_neg (by decide)
theorem fails_3 {S : zS} : f_X7_fails S 3 = 1 := by
  unfold f_X7_fails
  exact if_neg (by decide)
theorem finds_2 (S : zS) : g_X7_finds S 2 = g_X7_findsNets S 2 := by
  unfold g_X7_finds
  rw [fr_X7_works _ 2 (by decide) (by decide) (by decide), fr_X7_supplies _ 2 (by decide) (by decide) (by decide)]
theorem finds_3 (S : zS) : g_X7_finds S 3 = g_X7_findsNets S 3 := by
  unfold g_X7_finds
  rw [fr_X7_works _ 3 (by decide) (by decide) (by decide), fr_X7_supplies _ 3 (by decide) (by decide) (by decide)]
theorem finds_r (S : zS) : ∀ k, k < 64 → rOK (g_X7_finds S 2) k := by
  rw [finds_2]
  exact (nets_w S).1
theorem finds_n (S : zS) : ∀ k, k < 64 → rOK (g_X7_finds S 3) k := by
  rw [finds_3]
  exact nets_n S
theorem letter_nar (a b : Int32) : narrow .char (.int (f_X7_letter a b)) = .int (f_X7_letter a b) := by
  unfold f_X7_letter
  (repeat' split) <;> rfl
