/-! THE LAW'S BOOK as the reference's beginnings, and what the class answers by it -/
def bM (S : zS) : zS := fun r => if r = 0 then S 20 else if r = 1 then S 21 else if r = 13 then S 22 else fun _ => 0
def kdOK (K : Nat → Int32) : Prop := ∀ k, k < 64 → K k = 0 ∨ K k = 1 ∨ K k = 2 ∨ K k = 3 ∨ K k = 4 ∨ K k = 5 ∨ K k = 6
def lzOK (K L : Nat → Int32) : Prop := ∀ k, k < 64 → ¬ isZ K k → L k = 0
def LB (S : zS) : Prop := Rel S (bM S) ∧ kdOK (S 20) ∧ lzOK (S 20) (S 21)
def LF (S F : zS) : Prop := LB S ∧ F = g_X7_finds (bM S)
section LFS
variable {S F : zS}
theorem LF.sv (H : LF S F) : sv (S 20) (S 21) S F := by
  rw [H.2]
  exact H.1.1.1
theorem LF.lv (H : LF S F) : lvOK (S 21) := H.1.1.2.1
theorem LF.kd (H : LF S F) : kdOK (S 20) := H.1.2.1
theorem LF.lz (H : LF S F) : lzOK (S 20) (S 21) := H.1.2.2
theorem LF.cR (H : LF S F) : cRd (S 20) S := H.sv.1.1
theorem LF.mR (H : LF S F) : mRd (S 20) F := H.sv.1.2.1
theorem LF.s0 (H : LF S F) : S 0 = S 20 := H.sv.1.2.2.1
theorem LF.f0 (H : LF S F) : F 0 = S 20 := H.sv.1.2.2.2.1
theorem LF.s1 (H : LF S F) : S 1 = S 21 := H.sv.1.2.2.2.2.1
theorem LF.f1 (H : LF S F) : F 1 = S 21 := H.sv.1.2.2.2.2.2
theorem LF.f13 (H : LF S F) : F 13 = S 22 := by
  rw [H.2]
  exact (finds_0 (bM S)).2.2
theorem LF.dd (H : LF S F) : dOK (S 20) (F 4) := H.mR.2.1
theorem q_kind (H : LF S F) {k : Nat} (hk : k < 64) : f_X6_kind S (nI k) = S 20 k := by
  unfold f_X6_kind f_X0_kindOf
  rw [rg_nI hk (by decide), H.s0]
theorem q_level (H : LF S F) {k : Nat} (hk : k < 64) : f_X6_level S (nI k) = S 21 k := by
  unfold f_X6_level f_X0_levelOf
  rw [rg_nI hk (by decide), H.s1]
theorem q_net (H : LF S F) {k : Nat} (hk : k < 64) : f_X6_net S (nI k) = F 3 k := eq_net H.cR H.mR hk
theorem q_steps (H : LF S F) {a b : Nat} (ha : a < 64) (hb : b < 64) : f_X6_steps S (nI a) (nI b) = mBet F a b := eq_bet H.cR H.mR ha hb
theorem q_served (H : LF S F) {k : Nat} (hk : k < 64) : f_X6_isServed S (nI k) = F 8 k := by
  unfold f_X6_isServed f_X5_serves
  obtain ⟨_, ⟨h1, h2⟩, _⟩ := H.sv.2.1 k hk
  rw [rg_nI hk (by decide), h1]
  rcases h2 with z | z
  · rw [z, if_pos (by decide)]
  · rw [z, if_neg (by decide)]
theorem q_served01 (H : LF S F) {k : Nat} (hk : k < 64) : F 8 k = 0 ∨ F 8 k = 1 := (H.sv.2.1 k hk).2.1.2
theorem q_placed (H : LF S F) {k : Nat} (hk : k < 64) : f_X6_placed S (nI k) = F 9 k := by
  unfold f_X6_placed f_X1_placedAt
  rw [rg_nI hk (by decide)]
  exact (H.sv.2.1 k hk).2.2.1
theorem q_traffic (H : LF S F) {k : Nat} (hk : k < 64) : f_X6_traffic S (nI k) = F 11 k := by
  unfold f_X6_traffic f_X1_trafficOn
  rw [rg_nI hk (by decide)]
  exact (H.sv.2.1 k hk).2.2.2
theorem q_value (H : LF S F) {k : Nat} (hk : k < 64) : f_X6_value S (nI k) = f_X7_valueOf F k := eq_value hk H.s0 (H.cR.1 k hk) (H.mR.1 k hk) H.f0 (fun j hj => (H.sv.2.1 j hj).2.2.2)
theorem q_going (H : LF S F) {a b : Nat} (ha : a < 64) (hb : b < 64) : f_X6_going S (nI a) (nI b) = F 10 (64 * a + b) := H.sv.2.2.1 a b ha hb
def pwl (F : zS) (k : Nat) : Int32 := if F 3 k = -1 then 0 else F 6 (F 3 k).toNatClampNeg
theorem q_power (H : LF S F) {k : Nat} (hk : k < 64) : f_X6_powerLeft S (nI k) = pwl F k := by
  have hn : f_X3_netOf S (nI k) = F 3 k := eq_net H.cR H.mR hk
  unfold f_X6_powerLeft pwl f_X5_powerOf
  rw [hn]
  rcases net_in H.mR hk with z | ⟨u, hu, z⟩
  · rw [z, if_neg (not_not_intro rfl), if_pos rfl]
  · have h1 : ¬ F 3 k = -1 := by
      rw [z]
      exact nI_m1 (by omega)
    rw [if_pos h1, if_neg h1, z, rg_nI hu (by decide), nI_clamp (by omega)]
    exact (H.sv.2.1 u hu).1
theorem q_cash (H : LF S F) : f_X6_cash S = S 22 0 := H.1.1.2.2.1
theorem q_debt (H : LF S F) : f_X6_debt S = S 22 1 := H.1.1.2.2.2.1
theorem q_earned (H : LF S F) : f_X6_earned S = S 22 2 := H.1.1.2.2.2.2.2.2
end LFS
/-! nets, told of a cell with a road and of one without -/
section NETS
variable {S F : zS}
theorem LF.rd (H : LF S F) {k : Nat} (hk : k < 64) : F 2 k = -1 ∨ ∃ w, w < 64 ∧ F 2 k = nI w ∧ S 20 w = 1 := by
  rw [H.mR.1 k hk]
  exact rdI_in _ hk
theorem LF.n0 (H : LF S F) {k : Nat} (hk : k < 64) (h : F 2 k = -1) : F 3 k = -1 := by
  rw [H.mR.2.2 k hk]
  unfold netR
  rw [if_pos h]
theorem LF.n1 (H : LF S F) {k w : Nat} (hk : k < 64) (hw : w < 64) (h : F 2 k = nI w) : F 3 k = lowD (F 4) w := by
  rw [H.mR.2.2 k hk]
  unfold netR lowD
  rw [h, if_neg (nI_m1 (by omega)), nI_clamp (by omega)]
theorem LF.rr (H : LF S F) {k : Nat} (hk : k < 64) (h : S 20 k = 1) : F 2 k = nI k := by
  rw [H.mR.1 k hk]
  unfold rdI
  rw [if_pos h]
theorem mBet_0 {a b : Nat} (h : F 2 a = -1) : mBet F a b = -1 := by
  unfold mBet
  rw [if_pos h]
theorem mBet_00 {a b : Nat} (h : F 2 b = -1) : mBet F a b = -1 := by
  unfold mBet
  by_cases z : F 2 a = -1
  · rw [if_pos z]
  · rw [if_neg z, if_neg (not_not_intro h)]
theorem mBet_1 {a b w o : Nat} (hw : w < 64) (ho : o < 64) (h1 : F 2 a = nI w) (h2 : F 2 b = nI o) : mBet F a b = F 4 (64 * w + o) := by
  unfold mBet
  rw [h1, h2, if_neg (nI_m1 (by omega)), if_pos (nI_m1 (by omega)), nI_clamp (by omega), nI_clamp (by omega)]
end NETS
