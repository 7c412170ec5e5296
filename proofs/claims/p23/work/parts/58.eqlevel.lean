/-! LEVELS after a month -/
theorem lvl_pure {v P w g : Int32} {k2 : Prop} [Decidable k2] {cash : Int32} (hv : v = 0 ∨ v = 1 ∨ v = 2 ∨ v = 3) (hg : g = if cash < 0 then 0 else 1) (hP : ∃ m, m ≤ 6 ∧ 2 * v - P = nI m ∧ nI m ≤ 2 * v) :
    (if (if ¬ k2 then (if 2 * v ≤ 0 then (0 : Int32) else (if ¬ P = 0 then 0 else 1)) else (if 2 * (2 * v - P) ≤ 2 * v then 0 else 1)) = 0 then (if ¬ P = 2 * v then (if w < 5 * (v + 1) then (if g = 0 then v else (if 3 ≤ v then v else v)) else (if g = 0 then v else (if 3 ≤ v then v else v))) else (if w < 5 * (v + 1) then (if g = 0 then v else (if 3 ≤ v then v else v)) else (if g = 0 then v else (if 3 ≤ v then v else v + 1)))) else (if v ≤ 0 then 0 else v - 1)) =
    v + (if ¬ k2 then (if v ≤ 0 then (if cash < 0 then 0 else (if 3 ≤ v then 0 else (if w < 5 * (v + 1) then 0 else (if ¬ P = 2 * v then 0 else 1)))) else (if ¬ P = 0 then (if cash < 0 then 0 else (if 3 ≤ v then 0 else (if w < 5 * (v + 1) then 0 else (if ¬ P = 2 * v then 0 else 1)))) else (-1))) else (if 2 * (2 * v - P) ≤ 2 * v then (if cash < 0 then 0 else (if 3 ≤ v then 0 else (if w < 5 * (v + 1) then 0 else (if ¬ P = 2 * v then 0 else 1)))) else (-1))) := by
  have grow : (if ¬ P = 2 * v then (if w < 5 * (v + 1) then (if g = 0 then v else (if 3 ≤ v then v else v)) else (if g = 0 then v else (if 3 ≤ v then v else v))) else (if w < 5 * (v + 1) then (if g = 0 then v else (if 3 ≤ v then v else v)) else (if g = 0 then v else (if 3 ≤ v then v else v + 1)))) = v + (if cash < 0 then 0 else (if 3 ≤ v then 0 else (if w < 5 * (v + 1) then 0 else (if ¬ P = 2 * v then 0 else 1)))) := by
    by_cases c : cash < 0
    · rw [if_pos c] at hg
      rw [hg]
      simp [c]
    · rw [if_neg c] at hg
      rw [hg, if_neg c]
      by_cases a3 : 3 ≤ v
      · simp [a3]
      · by_cases aw : w < 5 * (v + 1)
        · simp [a3, aw]
        · by_cases aP : P = 2 * v
          · simp [a3, aw, aP]
          · simp [a3, aw, aP]
  have two : ∀ x : Int32, (x = 0 ∨ x = 1 ∨ x = 2 ∨ x = 3) → (2 * x ≤ 0 ↔ x ≤ 0) := by
    intro x hx
    rcases hx with z | z | z | z <;> rw [z] <;> decide
  have down : ∀ x : Int32, ¬ x ≤ 0 → (if x ≤ 0 then (0 : Int32) else x - 1) = x + -1 := fun x hx => by rw [if_neg hx, Int32.sub_eq_add_neg]
  by_cases k : k2
  · rw [if_neg (not_not_intro k), if_neg (not_not_intro k)]
    by_cases c : 2 * (2 * v - P) ≤ 2 * v
    · rw [if_pos c, if_pos rfl, if_pos c]
      exact grow
    · rw [if_neg c, if_neg (show ¬ (1 : Int32) = 0 by decide), if_neg c]
      refine down v (fun z => ?_)
      obtain ⟨m, hm, e, hle⟩ := hP
      have v0 : v = 0 := by
        rcases hv with y | y | y | y
        · exact y
        all_goals (rw [y] at z; exact absurd z (by decide))
      rw [v0] at hle e c
      have h0 := (nI_leI (a := m) (b := 0) (by omega) (by omega)).mp hle
      have m0 : m = 0 := by omega
      rw [e, m0] at c
      exact c (by decide)
  · rw [if_pos k, if_pos k]
    by_cases c : v ≤ 0
    · rw [if_pos ((two v hv).mpr c), if_pos rfl, if_pos c]
      exact grow
    · rw [if_neg (fun z => c ((two v hv).mp z)), if_neg c, if_neg c]
      by_cases d : P = 0
      · rw [if_neg (not_not_intro d), if_neg (show ¬ (1 : Int32) = 0 by decide), if_neg (not_not_intro d)]
        exact Int32.sub_eq_add_neg v 1
      · rw [if_pos d, if_pos rfl, if_pos d]
        exact grow
theorem eq_level {K L : Nat → Int32} {C M : zS} {k : Nat} {g : Int32} (hk : k < 64) (c0 : C 0 = K) (m0 : M 0 = K) (c1 : C 1 k = L k) (m1 : M 1 k = L k) (hL : L k = 0 ∨ L k = 1 ∨ L k = 2 ∨ L k = 3) (c2 : C 2 k = rdI K k) (m2 : M 2 k = rdI K k) (h11 : ∀ j, j < 64 → C 11 j = M 11 j) (h9 : C 9 k = M 9 k) (h8 : C 8 k = M 8 k ∧ (M 8 k = 0 ∨ M 8 k = 1)) (hg : g = if M 13 0 < 0 then 0 else 1) (hP : ∃ m, m ≤ 6 ∧ 2 * L k - M 9 k = nI m ∧ nI m ≤ 2 * L k) : f_X6_nextLevel C (nI k) g = M 1 k + f_X7_changeOf M k := by
  unfold f_X6_nextLevel f_X7_changeOf
  rw [eq_value hk c0 c2 m2 m0 h11]
  generalize f_X7_valueOf M k = w
  unfold f_X5_serves f_X6_lacksPeople f_X0_levelOf f_X1_placedAt f_X0_peopleOf f_X0_kindOf
  rw [rg_nI hk (by decide), rg_nI hk (by decide), rg_nI hk (by decide), rg_nI hk (by decide), c0, c1, m0, m1, h9, h8.1]
  rcases h8.2 with z | z
  · rw [z, if_pos (show ¬ (0 : Int32) = 1 by decide), if_pos rfl, if_neg (not_not_intro rfl)]
    by_cases c : L k ≤ 0
    · have v0 : L k = 0 := by
        rcases hL with y | y | y | y
        · exact y
        all_goals (rw [y] at c; exact absurd c (by decide))
      rw [if_pos c, if_pos c, v0]
      rfl
    · rw [if_neg c, if_neg c, Int32.sub_eq_add_neg]
  · rw [z, if_neg (show ¬ ¬ (1 : Int32) = 1 by decide), if_neg (show ¬ (1 : Int32) = 0 by decide), if_pos (show ¬ (1 : Int32) = 0 by decide)]
    exact lvl_pure (k2 := K k = 2) hL hg hP
