/-! what the class keeps and what the reference finds -/
def sv (K L : Nat → Int32) (C F : zS) : Prop := eqS K L C F ∧ (∀ k, k < 64 → C 6 k = F 6 k ∧ (C 8 k = F 8 k ∧ (F 8 k = 0 ∨ F 8 k = 1)) ∧ C 9 k = F 9 k ∧ C 11 k = F 11 k) ∧
  (∀ a b, a < 64 → b < 64 → f_X1_goingBetween C (nI a) (nI b) = F 10 (64 * a + b)) ∧
  f_X1_allPlaced C = ksum K 2 (F 9) 64 ∧ f_X1_allPlaced C = ksum K 3 (F 9) 64 ∧ ∀ k, k < 64 → ∃ m, m ≤ 6 ∧ 2 * L k - F 9 k = nI m ∧ nI m ≤ 2 * L k
theorem sv_again0 {K L : Nat → Int32} {C N T Y : zS} (hE : eqS K L C N) (hL : lvOK L) (hT : T = g_X5_find C) (hY : Y = g_X7_supplies N) : sv K L (g_X1_find T) (g_X7_works Y) := by
  obtain ⟨i1, i2, i3, i4, -⟩ := eq_supply hE hL
  rw [← hT] at i1
  rw [← hY] at i2
  rw [← hT, ← hY] at i3 i4
  have hE' : eqS K L T Y := by
    obtain ⟨e1, e2, e3, e4, e5, e6⟩ := hE
    exact ⟨cRd_congr e1 (i1 2 (by decide) (by decide) (by decide)) (i1 3 (by decide) (by decide) (by decide)) (i1 4 (by decide) (by decide) (by decide)) (i1 15 (by decide) (by decide) (by decide)), mRd_congr e2 (i2 2 (by decide) (by decide) (by decide)) (i2 3 (by decide) (by decide) (by decide)) (i2 4 (by decide) (by decide) (by decide)), (i1 0 (by decide) (by decide) (by decide)).trans e3, (i2 0 (by decide) (by decide) (by decide)).trans e4, (i1 1 (by decide) (by decide) (by decide)).trans e5, (i2 1 (by decide) (by decide) (by decide)).trans e6⟩
  obtain ⟨j1, j2, j3, j4, j5, j6, j7⟩ := eq_jobs hE' hL
  generalize g_X1_find T = T2 at j1 j3 j4 j5 j6 ⊢
  generalize g_X7_works Y = Y2 at j2 j3 j4 j5 j6 j7 ⊢
  have hE2 : eqS K L T2 Y2 := by
    obtain ⟨e1, e2, e3, e4, e5, e6⟩ := hE'
    exact ⟨cRd_congr e1 (j1 2 (by decide) (by decide) (by decide) (by decide) (by decide) (by decide) (by decide)) (j1 3 (by decide) (by decide) (by decide) (by decide) (by decide) (by decide) (by decide)) (j1 4 (by decide) (by decide) (by decide) (by decide) (by decide) (by decide) (by decide)) (j1 15 (by decide) (by decide) (by decide) (by decide) (by decide) (by decide) (by decide)), mRd_congr e2 (j2 2 (by decide) (by decide) (by decide)) (j2 3 (by decide) (by decide) (by decide)) (j2 4 (by decide) (by decide) (by decide)), (j1 0 (by decide) (by decide) (by decide) (by decide) (by decide) (by decide) (by decide)).trans e3, (j2 0 (by decide) (by decide) (by decide)).trans e4, (j1 1 (by decide) (by decide) (by decide) (by decide) (by decide) (by decide) (by decide)).trans e5, (j2 1 (by decide) (by decide) (by decide)).trans e6⟩
  refine ⟨hE2, fun k hk => ⟨?_, ?_, j3 k hk⟩, j4, j5, j6, j7⟩
  · rw [j1 6 (by decide) (by decide) (by decide) (by decide) (by decide) (by decide) (by decide), j2 6 (by decide) (by decide) (by decide)]
    exact (i3 k hk).1
  · rw [j1 8 (by decide) (by decide) (by decide) (by decide) (by decide) (by decide) (by decide), j2 8 (by decide) (by decide) (by decide)]
    exact i4 k hk
theorem sv_again {K L : Nat → Int32} {C M : zS} (hR : cRd K C) (c0 : C 0 = K) (m0 : M 0 = K) (c1 : C 1 = L) (m1 : M 1 = L) (hL : lvOK L) : sv K L (g_X1_find (g_X5_find C)) (g_X7_finds M) := by
  have hm := mRd_of M
  rw [m0] at hm
  have hN := (nets_f M).1
  have hE : eqS K L C (g_X7_findsNets M) := ⟨hR, hm, c0, (hN 0 (by decide) (by decide) (by decide) (by decide)).trans m0, c1, (hN 1 (by decide) (by decide) (by decide) (by decide)).trans m1⟩
  unfold g_X7_finds
  exact sv_again0 hE hL rfl rfl
/-- after a change of the board -/
theorem sv_survey {K L : Nat → Int32} {C M : zS} (c0 : C 0 = K) (m0 : M 0 = K) (c1 : C 1 = L) (m1 : M 1 = L) (hL : lvOK L) : sv K L (g_X6_survey C) (g_X7_finds M) := by
  have hr := cRd_of C
  rw [c0] at hr
  have hC := (cfind_f C).1
  unfold g_X6_survey
  exact sv_again hr ((hC 0 (by decide) (by decide) (by decide) (by decide) (by decide)).trans c0) m0 ((hC 1 (by decide) (by decide) (by decide) (by decide) (by decide)).trans c1) m1 hL
