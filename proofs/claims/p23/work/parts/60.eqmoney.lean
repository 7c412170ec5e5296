/-! MONEY of a month -/
def ups (K : Nat → Int32) : Nat → Int32
  | 0 => 0
  | n + 1 => ups K n + f_X6_upkeepOf (K n)
theorem c_ups {S : zS} : ∀ n, n ≤ 64 → lp_X6_upkeep_4 S 0 n = ups (S 0) n
  | 0, _ => rfl
  | n + 1, hn => by
    show bd_X6_upkeep_4 S n (lp_X6_upkeep_4 S 0 n) = ups (S 0) n + f_X6_upkeepOf (S 0 n)
    unfold bd_X6_upkeep_4 f_X0_kindOf
    rw [c_ups n (by omega), rg_nI (by omega) (by decide)]
def inc (K P : Nat → Int32) (h t : Int32) (i : Nat) : Int32 := if K i = 2 then h * P i else if K i = 3 then t * P i else 0
theorem bd18_f {S : zS} {K P : Nat → Int32} {h t : Int32} (k0 : g_X7_finds S 0 = K) (k9 : g_X7_finds S 9 = P) (kh : g_X7_finds S 13 3 = h) (kt : g_X7_finds S 13 4 = t) (i : Nat) (sm : Int32) : bd_X7_lives_18 S i sm = (sm + inc K P h t i) - f_X6_upkeepOf (K i) := by
  unfold bd_X7_lives_18 inc f_X6_upkeepOf
  rw [k0, k9, kh, kt]
  by_cases c2 : K i = 2
  · simp [c2]
  · by_cases c3 : K i = 3
    · simp [c3]
    · by_cases c1 : K i = 1
      · simp [c1]
      · by_cases c4 : K i = 4
        · simp [c4]
        · by_cases c5 : K i = 5
          · simp [c5]
          · by_cases c6 : K i = 6
            · simp [c6]
            · simp [c1, c2, c3, c4, c5, c6]
theorem ring1 (c h t A B U p u : Int32) : ((((c + h * A) + t * B) - U) + h * p) - u = ((c + h * (A + p)) + t * (B + 0)) - (U + u) := by grind
theorem ring2 (c h t A B U p u : Int32) : ((((c + h * A) + t * B) - U) + t * p) - u = ((c + h * (A + 0)) + t * (B + p)) - (U + u) := by grind
theorem ring3 (c h t A B U u : Int32) : ((((c + h * A) + t * B) - U) + 0) - u = ((c + h * (A + 0)) + t * (B + 0)) - (U + u) := by grind
theorem ring4 (h t p U d : Int32) : ((-d + h * p) + t * p) - U = (((p * h) + (p * t)) - U) - d := by grind
theorem m_18 {S : zS} {K P : Nat → Int32} {h t c : Int32} (k0 : g_X7_finds S 0 = K) (k9 : g_X7_finds S 9 = P) (kh : g_X7_finds S 13 3 = h) (kt : g_X7_finds S 13 4 = t) : ∀ n, lp_X7_lives_18 S c n = ((c + h * ksum K 2 P n) + t * ksum K 3 P n) - ups K n
  | 0 => by
    show c = ((c + h * 0) + t * 0) - 0
    grind
  | n + 1 => by
    show bd_X7_lives_18 S n (lp_X7_lives_18 S c n) = _
    rw [bd18_f k0 k9 kh kt, m_18 k0 k9 kh kt n]
    show _ = ((c + h * (ksum K 2 P n + if K n = 2 then P n else 0)) + t * (ksum K 3 P n + if K n = 3 then P n else 0)) - (ups K n + f_X6_upkeepOf (K n))
    unfold inc
    by_cases c2 : K n = 2
    · rw [if_pos c2, if_pos c2, if_neg (show ¬ K n = 3 by rw [c2]; decide)]
      exact ring1 _ _ _ _ _ _ _ _
    · by_cases c3 : K n = 3
      · rw [if_neg c2, if_pos c3, if_neg c2, if_pos c3]
        exact ring2 _ _ _ _ _ _ _ _
      · rw [if_neg c2, if_neg c3, if_neg c2, if_neg c3]
        exact ring3 _ _ _ _ _ _ _
theorem eq_money {S C : zS} {K P : Nat → Int32} {h t d p : Int32} (k0 : g_X7_finds S 0 = K) (k9 : g_X7_finds S 9 = P) (kh : g_X7_finds S 13 3 = h) (kt : g_X7_finds S 13 4 = t) (c0 : C 0 = K) (p2 : p = ksum K 2 P 64) (p3 : p = ksum K 3 P 64) : lp_X7_lives_18 S (-d) 64 = (((p * h) + (p * t)) - f_X6_upkeep C) - d := by
  rw [m_18 k0 k9 kh kt 64, ← p2, ← p3]
  unfold f_X6_upkeep
  rw [c_ups 64 (Nat.le_refl _), c0]
  exact ring4 _ _ _ _ _
