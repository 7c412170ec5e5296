/-! WORTH OF LAND -/
theorem eq_apart (x y : Int32) : f_X6_distanceOf x y = f_X7_apart x y := by
  unfold f_X6_distanceOf f_X7_apart
  by_cases c : 0 ≤ x / 8 - y / 8
  · rw [if_pos c, if_pos c]
    by_cases d : 0 ≤ (x - x / 8 * 8) - (y - y / 8 * 8)
    · rw [if_pos d, if_pos d]
    · rw [if_neg d, if_neg d, Int32.zero_sub]
  · rw [if_neg c, if_neg c, Int32.zero_sub]
    by_cases d : 0 ≤ (x - x / 8 * 8) - (y - y / 8 * 8)
    · rw [if_pos d, if_pos d]
    · rw [if_neg d, if_neg d, Int32.zero_sub]
theorem near_sum {K : Nat → Int32} {C M : zS} (c0 : C 0 = K) (m0 : M 0 = K) {k : Nat} : ∀ n, n ≤ 64 → lp_X7_valueOf_5 M k 10 n = (10 + 5 * lp_X0_countNear_5 C (nI k) 4 0 n) - 10 * lp_X0_countNear_5 C (nI k) 5 0 n := by
  intro n
  induction n with
  | zero => intro _; show (10 : Int32) = (10 + 5 * 0) - 10 * 0; decide
  | succ n ih =>
    intro hn
    show bd_X7_valueOf_5 M k n (lp_X7_valueOf_5 M k 10 n) = (10 + 5 * bd_X0_countNear_5 C (nI k) 4 n (lp_X0_countNear_5 C (nI k) 4 0 n)) - 10 * bd_X0_countNear_5 C (nI k) 5 n (lp_X0_countNear_5 C (nI k) 5 0 n)
    rw [ih (by omega)]
    generalize lp_X0_countNear_5 C (nI k) 4 0 n = x
    generalize lp_X0_countNear_5 C (nI k) 5 0 n = y
    unfold bd_X7_valueOf_5 bd_X0_countNear_5
    rw [rg_nI (by omega) (by decide), c0, m0, eq_apart]
    have z0 : ∀ w : Int32, w + 0 - 0 = w := fun w => by rw [Int32.add_zero, Int32.sub_zero]
    by_cases c : 2 < f_X7_apart (nI k) (nI n)
    · rw [if_pos c, if_pos c, if_pos c, ite_self, ite_self, z0]
    · rw [if_neg c, if_neg c, if_neg c]
      by_cases k4 : K n = 4
      · have k5 : ¬ K n = 5 := by
          rw [k4]
          decide
        rw [if_neg (not_not_intro k4), if_pos k5, if_neg (not_not_intro k4), if_pos k5, Int32.sub_zero, Int32.mul_add, Int32.mul_one, Int32.sub_eq_add_neg, Int32.sub_eq_add_neg, ← Int32.add_assoc 10, Int32.add_assoc (10 + 5 * x), Int32.add_comm (-(10 * y)) 5, ← Int32.add_assoc]
      · rw [if_pos k4, if_pos k4]
        by_cases k5 : K n = 5
        · rw [if_neg (not_not_intro k5), if_neg (not_not_intro k5), Int32.add_zero, Int32.mul_add, Int32.mul_one, Int32.sub_eq_add_neg, Int32.sub_eq_add_neg, Int32.sub_eq_add_neg, Int32.neg_add, Int32.sub_eq_add_neg, ← Int32.add_assoc]
        · rw [if_pos k5, if_pos k5, z0]
theorem max_e (x : Int32) : (if x < 0 then 0 else x) = if 0 ≤ x then x else 0 := by
  by_cases c : x < 0
  · rw [if_pos c, if_neg (Int32.not_le.mpr c)]
  · rw [if_neg c, if_pos (Int32.not_lt.mp c)]
theorem rd_own {K : Nat → Int32} {k : Nat} (hk : k < 64) (h : ¬ K k = 1) : ¬ rdI K k = nI k := by
  intro z
  rcases rdI_in K hk with y | ⟨u, hu, e, ku⟩
  · rw [y] at z
    exact nI_m1 (by omega) z.symm
  · have := nI_inj (by omega) (by omega) (e.symm.trans z)
    rw [this] at ku
    exact h ku
theorem eq_value0 {K : Nat → Int32} {C M : zS} {A B W : Int32} {k : Nat} (hk : k < 64) (c2 : C 2 k = rdI K k) (m2 : M 2 k = rdI K k) (m0 : M 0 = K) (h11 : ∀ j, j < 64 → C 11 j = M 11 j) (hW : W = (10 + 5 * A) - 10 * B) :
    (if (f_X3_roadOf C (nI k)) = (-1) then if ((10 + (5 * A)) - (10 * B)) < 0 then 0 else (10 + (5 * A)) - (10 * B) else (if (f_X3_roadOf C (nI k)) = nI k then if ((10 + (5 * A)) - (10 * B)) < 0 then 0 else (10 + (5 * A)) - (10 * B) else (if (((10 + (5 * A)) - (10 * B)) - (f_X1_trafficOn C (f_X3_roadOf C (nI k)))) < 0 then 0 else ((10 + (5 * A)) - (10 * B)) - (f_X1_trafficOn C (f_X3_roadOf C (nI k)))))) =
    (if (M 0 k) = 1 then (if 0 ≤ (W - 0) then W - 0 else (0)) else (if (M 2 k) = (-1) then (if 0 ≤ (W - 0) then W - 0 else (0)) else (if 0 ≤ (W - (M 11 (M 2 k).toNatClampNeg)) then W - (M 11 (M 2 k).toNatClampNeg) else (0)))) := by
  rw [← hW, max_e, max_e]
  unfold f_X3_roadOf f_X1_trafficOn
  rw [rg_nI hk (by decide), c2, m2, m0, Int32.sub_zero]
  by_cases k1 : K k = 1
  · have e : rdI K k = nI k := by
      unfold rdI
      rw [if_pos k1]
    rw [e, if_neg (nI_m1 (by omega)), if_pos rfl, if_pos k1]
  · rw [if_neg k1]
    rcases rdI_in K hk with y | ⟨u, hu, e, ku⟩
    · rw [if_pos y, if_pos y]
    · rw [if_neg (rd_own hk k1), e, if_neg (nI_m1 (by omega)), if_neg (nI_m1 (by omega)), rg_nI hu (by decide), nI_clamp (by omega), h11 u hu]
theorem eq_value {K : Nat → Int32} {C M : zS} {k : Nat} (hk : k < 64) (c0 : C 0 = K) (c2 : C 2 k = rdI K k) (m2 : M 2 k = rdI K k) (m0 : M 0 = K) (h11 : ∀ j, j < 64 → C 11 j = M 11 j) : f_X6_valueOf C (nI k) = f_X7_valueOf M k := by
  unfold f_X6_valueOf f_X7_valueOf f_X0_countNear
  exact eq_value0 hk c2 m2 m0 h11 (near_sum c0 m0 64 (Nat.le_refl _))
