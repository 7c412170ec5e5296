/-! WHAT THE LAW DOES, and the book behind it -/
section DPO
variable {t : Option String} {f r : Int32} {G S T : zS}
theorem d_mem {q : String × Int32} (h : q ∈ dNum) : q = (xIO, (-3000000)) ∨ q = (xIA, (-2000000)) ∨ q = (xIS, (-1000000)) := by
  simpa [dNum] using h
theorem d_code {E : String} {v : Int32} (hp : dPost t f G S r T) (ht : t = some E) (hu : ∀ q ∈ dNum, q.1 = E → q.2 = v) : r = v ∧ T = S := by
  rcases hp with ⟨h, _⟩ | ⟨q, hq, h1, h2, h3⟩
  · rw [ht] at h
    cases h
  · rw [ht] at h1
    exact ⟨h2.trans (hu q hq (Option.some.inj h1).symm), h3⟩
theorem d_IO (hp : dPost t f G S r T) (ht : t = some xIO) : r = (-3000000) ∧ T = S := d_code hp ht (by decide +kernel)
theorem d_IA (hp : dPost t f G S r T) (ht : t = some xIA) : r = (-2000000) ∧ T = S := d_code hp ht (by decide +kernel)
theorem d_IS (hp : dPost t f G S r T) (ht : t = some xIS) : r = (-1000000) ∧ T = S := d_code hp ht (by decide +kernel)
theorem d_ok (hp : dPost t f G S r T) (ht : t = none) : r = f ∧ T = mix G S := by
  rcases hp with ⟨_, h⟩ | ⟨q, hq, h1, _⟩
  · exact h
  · rw [ht] at h1
    cases h1
end DPO
theorem rng_bad {a lo hi : Nat} (hl : lo < 2 ^ 31) (hh : hi < 2 ^ 31) (ha : a < 2 ^ 31) (h : a < lo ∨ hi < a) : t_X6_requireRange (nI a) (nI lo) (nI hi) = some xIA := by
  unfold t_X6_requireRange
  by_cases c : a < lo
  · rw [if_pos (nI_lt c hl)]
  · rw [if_neg (fun z => c ((nI_ltI ha hl).mp z)), if_neg (fun z => by
      have := (nI_leI ha hh).mp z
      omega)]
theorem rng_ok {a lo hi : Nat} (hl : lo < 2 ^ 31) (hh : hi < 2 ^ 31) (ha : a < 2 ^ 31) (h1 : lo ≤ a) (h2 : a ≤ hi) : t_X6_requireRange (nI a) (nI lo) (nI hi) = none := by
  unfold t_X6_requireRange
  rw [if_neg (fun z => by
    have := (nI_ltI ha hl).mp z
    omega), if_pos ((nI_leI ha hh).mpr h2)]
theorem upd_id (f : Nat → Int32) (u : Nat) : upd f u (f u) = f := by
  funext k
  by_cases e : k = u
  · rw [e, pk_us]
  · rw [pk_un e]
theorem zU_id {S : zS} {r : Nat} {g : Nat → Int32} (h : g = S r) : zUp S r g = S := by
  rw [h]
  exact zUp_self S r
theorem bM_n {S T : zS} {r : Nat} (h0 : T 20 = S 20) (h1 : T 21 = S 21) (h : r ≠ 13) : bM T r = bM S r := by
  unfold bM
  rw [h0, h1, if_neg h, if_neg h]
/-- money alone: the class's money and the book's change alike -/
theorem LBd_mny {S S1 G T : zS} {g : Nat → Int32} (H : LBd S) (hS1 : S1 = zUp S 22 g) (hT : T = mix G S1) (hR : Rel G (bM T)) (hd : ∃ d, d ≤ 5000 ∧ g 1 = nI d) : LBd T := by
  have t20 : T 20 = S 20 := by
    rw [hT, hS1]
    rfl
  have t21 : T 21 = S 21 := by
    rw [hT, hS1]
    rfl
  have t22 : T 22 = g := by
    rw [hT, hS1]
    rfl
  refine ⟨⟨Rel_lo hR (fun r hr => ?_), ?_, ?_⟩, ?_⟩
  · rw [hT]
    unfold mix
    rw [if_pos (by omega)]
  · rw [t20]
    exact H.1.2.1
  · rw [t20, t21]
    exact H.1.2.2
  · rw [t22]
    exact hd
theorem S1_lo {S S1 : zS} {g : Nat → Int32} (hS1 : S1 = zUp S 22 g) : ∀ r, r < 18 → S1 r = S r := fun r hr => by rw [hS1, zUp_n _ _ (by omega)]
/-- taxes -/
theorem m2_bad {S S1 T : zS} {r b : Int32} {j t : Nat} (H : LBd S) (ht : t = 21) (hS1 : S1 = zUp S 22 (upd (S 22) j (S 22 j))) (hp : dPost (t_X6_setTax S1 b (nI t)) (f_X6_setTax S1 b (nI t)) (g_X6_setTax S1 b (nI t)) S1 r T) : r = (-2000000) ∧ LBd T := by
  rw [upd_id, zUp_self] at hS1
  obtain ⟨h1, h2⟩ := d_IA hp (by
    unfold t_X6_setTax
    rw [show t_X6_requireRange (nI t) 0 20 = some xIA from rng_bad (lo := 0) (hi := 20) (by decide) (by decide) (by omega) (by omega)]
    rfl)
  rw [h2, hS1]
  exact ⟨h1, H⟩
theorem m2_0 {S S1 T : zS} {r : Int32} {t : Nat} (H : LBd S) (ht : t ≤ 20) (hS1 : S1 = zUp S 22 (upd (S 22) 3 (nI t))) (hp : dPost (t_X6_setTax S1 0 (nI t)) (f_X6_setTax S1 0 (nI t)) (g_X6_setTax S1 0 (nI t)) S1 r T) : r = S 22 3 ∧ LBd T := by
  obtain ⟨h1, h2⟩ := d_ok hp (by
    unfold t_X6_setTax
    rw [show t_X6_requireRange (nI t) 0 20 = none from rng_ok (lo := 0) (hi := 20) (by decide) (by decide) (by omega) (by omega) (by omega)]
    rfl)
  have hR := Rel_lo H.1.1 (S1_lo hS1)
  obtain ⟨n0, n1, n2, n3, n4⟩ := hR.2.2
  have t22 : T 22 = upd (S 22) 3 (nI t) := by
    rw [h2, hS1]
    rfl
  have e17 : g_X6_setTax S1 0 (nI t) = zUp S1 17 (upd (S1 17) 2 (nI t)) := rfl
  refine ⟨?_, LBd_mny H hS1 h2 ?_ ?_⟩
  · rw [h1]
    exact n2
  · rw [e17]
    refine Rel_mny hR (fun r h _ => zUp_n _ _ h) (fun r h => bM_n (by rw [h2, hS1]; rfl) (by rw [h2, hS1]; rfl) h) ?_
    unfold mny
    rw [zUp_s, bM_13, t22]
    exact ⟨(pk_un (by decide)).trans (n0.trans (pk_un (by decide)).symm), (pk_un (by decide)).trans (n1.trans (pk_un (by decide)).symm), pk_us.trans pk_us.symm, (pk_un (by decide)).trans (n3.trans (pk_un (by decide)).symm), (pk_un (by decide)).trans (n4.trans (pk_un (by decide)).symm)⟩
  · rw [pk_un (by decide)]
    exact H.2
theorem m2_1 {S S1 T : zS} {r : Int32} {t : Nat} (H : LBd S) (ht : t ≤ 20) (hS1 : S1 = zUp S 22 (upd (S 22) 4 (nI t))) (hp : dPost (t_X6_setTax S1 1 (nI t)) (f_X6_setTax S1 1 (nI t)) (g_X6_setTax S1 1 (nI t)) S1 r T) : r = S 22 4 ∧ LBd T := by
  obtain ⟨h1, h2⟩ := d_ok hp (by
    unfold t_X6_setTax
    rw [show t_X6_requireRange (nI t) 0 20 = none from rng_ok (lo := 0) (hi := 20) (by decide) (by decide) (by omega) (by omega) (by omega)]
    rfl)
  have hR := Rel_lo H.1.1 (S1_lo hS1)
  obtain ⟨n0, n1, n2, n3, n4⟩ := hR.2.2
  have t22 : T 22 = upd (S 22) 4 (nI t) := by
    rw [h2, hS1]
    rfl
  have e17 : g_X6_setTax S1 1 (nI t) = zUp S1 17 (upd (S1 17) 3 (nI t)) := rfl
  refine ⟨?_, LBd_mny H hS1 h2 ?_ ?_⟩
  · rw [h1]
    exact n3
  · rw [e17]
    refine Rel_mny hR (fun r h _ => zUp_n _ _ h) (fun r h => bM_n (by rw [h2, hS1]; rfl) (by rw [h2, hS1]; rfl) h) ?_
    unfold mny
    rw [zUp_s, bM_13, t22]
    exact ⟨(pk_un (by decide)).trans (n0.trans (pk_un (by decide)).symm), (pk_un (by decide)).trans (n1.trans (pk_un (by decide)).symm), (pk_un (by decide)).trans (n2.trans (pk_un (by decide)).symm), pk_us.trans pk_us.symm, (pk_un (by decide)).trans (n4.trans (pk_un (by decide)).symm)⟩
  · rw [pk_un (by decide)]
    exact H.2
/-- loans -/
theorem lend_mny {S S1 T : zS} {x : Int32} {g : Nat → Int32} (H : LBd S) (hS1 : S1 = zUp S 22 g) (hT : T = mix (g_X2_lend S1 x) S1) (g0 : g 0 = S 22 0 + x) (g1 : g 1 = S 22 1 + x) (gO : ∀ i, i ≠ 0 → i ≠ 1 → g i = S 22 i) (hd : ∃ d, d ≤ 5000 ∧ g 1 = nI d) : f_X2_debtNow (g_X2_lend S1 x) = S 22 1 + x ∧ LBd T := by
  have hR := Rel_lo H.1.1 (S1_lo hS1)
  have t22 : T 22 = g := by
    rw [hT, hS1]
    rfl
  obtain ⟨q1, q2⟩ := Rel_lend (M' := bM T) (v := x) hR (fun r h => bM_n (by rw [hT, hS1]; rfl) (by rw [hT, hS1]; rfl) h) (by rw [bM_13, t22, g0]; rfl) (by rw [bM_13, t22, g1]; rfl) (by rw [bM_13, t22, gO 2 (by decide) (by decide)]; rfl) (by rw [bM_13, t22, gO 3 (by decide) (by decide)]; rfl) (by rw [bM_13, t22, gO 4 (by decide) (by decide)]; rfl)
  exact ⟨q2, LBd_mny H hS1 hT q1 hd⟩
theorem two_id (f : Nat → Int32) : upd (upd f 0 (f 0 + 0)) 1 ((upd f 0 (f 0 + 0)) 1 + 0) = f := by
  rw [upd_0, upd_0]
theorem debtS {S S1 : zS} {g : Nat → Int32} {d : Nat} (H : LBd S) (hd : S 22 1 = nI d) (hS1 : S1 = zUp S 22 g) : f_X2_debtNow S1 = nI d := by
  unfold f_X2_debtNow
  rw [S1_lo hS1 17 (by decide), H.1.1.2.2.2.1]
  exact hd
theorem cashS {S S1 : zS} {g : Nat → Int32} (H : LBd S) (hS1 : S1 = zUp S 22 g) : f_X2_cashNow S1 = S 22 0 := by
  unfold f_X2_cashNow
  rw [S1_lo hS1 17 (by decide), H.1.1.2.2.1]
  rfl
theorem m3_bad {S S1 T : zS} {r : Int32} {a : Nat} (H : LBd S) (ha : a < 7000) (h : a < 1 ∨ 1000 < a) (hS1 : S1 = zUp S 22 (upd (upd (S 22) 0 (S 22 0 + 0)) 1 ((upd (S 22) 0 (S 22 0 + 0)) 1 + 0))) (hp : dPost (t_X6_borrow S1 (nI a)) (f_X6_borrow S1 (nI a)) (g_X6_borrow S1 (nI a)) S1 r T) : r = (-2000000) ∧ LBd T := by
  rw [two_id, zUp_self] at hS1
  obtain ⟨h1, h2⟩ := d_IA hp (by
    unfold t_X6_borrow
    rw [show t_X6_requireRange (nI a) 1 1000 = some xIA from rng_bad (lo := 1) (hi := 1000) (by decide) (by decide) (by omega) h]
    rfl)
  rw [h2, hS1]
  exact ⟨h1, H⟩
theorem m3_more {S S1 T : zS} {r : Int32} {a d : Nat} (H : LBd S) (hdb : d ≤ 5000) (hd : S 22 1 = nI d) (h1 : 1 ≤ a) (h2 : a ≤ 1000) (h3 : 5000 < d + a) (hS1 : S1 = zUp S 22 (upd (upd (S 22) 0 (S 22 0 + 0)) 1 ((upd (S 22) 0 (S 22 0 + 0)) 1 + 0))) (hp : dPost (t_X6_borrow S1 (nI a)) (f_X6_borrow S1 (nI a)) (g_X6_borrow S1 (nI a)) S1 r T) : r = (-1000000) ∧ LBd T := by
  have hds := debtS H hd hS1
  rw [two_id, zUp_self] at hS1
  obtain ⟨g1, g2⟩ := d_IS hp (by
    unfold t_X6_borrow
    rw [show t_X6_requireRange (nI a) 1 1000 = none from rng_ok (lo := 1) (hi := 1000) (by decide) (by decide) (by omega) h1 h2, hds, nI_add, if_neg (fun z => by
      have := (nI_leI (a := d + a) (b := 5000) (by omega) (by omega)).mp z
      omega)]
    rfl)
  rw [g2, hS1]
  exact ⟨g1, H⟩
theorem m3_ok {S S1 T : zS} {r : Int32} {a d : Nat} (H : LBd S) (hd : S 22 1 = nI d) (h1 : 1 ≤ a) (h2 : a ≤ 1000) (h3 : d + a ≤ 5000) (hS1 : S1 = zUp S 22 (upd (upd (S 22) 0 (S 22 0 + nI a)) 1 ((upd (S 22) 0 (S 22 0 + nI a)) 1 + nI a))) (hp : dPost (t_X6_borrow S1 (nI a)) (f_X6_borrow S1 (nI a)) (g_X6_borrow S1 (nI a)) S1 r T) : r = nI (d + a) ∧ LBd T := by
  have hds := debtS H hd hS1
  have hle : nI d + nI a ≤ 5000 := by
    rw [nI_add]
    exact (nI_leI (a := d + a) (b := 5000) (by omega) (by omega)).mpr h3
  obtain ⟨g1, g2⟩ := d_ok hp (by
    unfold t_X6_borrow
    rw [show t_X6_requireRange (nI a) 1 1000 = none from rng_ok (lo := 1) (hi := 1000) (by decide) (by decide) (by omega) h1 h2, hds, if_pos hle]
    rfl)
  unfold f_X6_borrow at g1
  unfold g_X6_borrow at g2
  rw [hds, if_pos hle] at g1 g2
  obtain ⟨q1, q2⟩ := lend_mny H hS1 g2 (by rw [pk_un (by decide), pk_us]) (by rw [pk_us, pk_un (by decide)]) (fun i a b => by rw [pk_un b, pk_un a]) ⟨d + a, h3, by rw [pk_us, pk_un (by decide), hd, nI_add]⟩
  rw [g1, q1, hd, nI_add]
  exact ⟨rfl, q2⟩
theorem two_idm (f : Nat → Int32) : upd (upd f 0 (f 0 - 0)) 1 ((upd f 0 (f 0 - 0)) 1 - 0) = f := by
  rw [Int32.sub_zero, upd_id, Int32.sub_zero, upd_id]
theorem m4_bad {S S1 T : zS} {r : Int32} {a : Nat} (H : LBd S) (ha : a < 7000) (h : a < 1 ∨ 5000 < a) (hS1 : S1 = zUp S 22 (upd (upd (S 22) 0 (S 22 0 - 0)) 1 ((upd (S 22) 0 (S 22 0 - 0)) 1 - 0))) (hp : dPost (t_X6_repay S1 (nI a)) (f_X6_repay S1 (nI a)) (g_X6_repay S1 (nI a)) S1 r T) : r = (-2000000) ∧ LBd T := by
  rw [two_idm, zUp_self] at hS1
  obtain ⟨h1, h2⟩ := d_IA hp (by
    unfold t_X6_repay
    rw [show t_X6_requireRange (nI a) 1 5000 = some xIA from rng_bad (lo := 1) (hi := 5000) (by decide) (by decide) (by omega) h]
    rfl)
  rw [h2, hS1]
  exact ⟨h1, H⟩
theorem m4_no {S S1 T : zS} {r : Int32} {a d : Nat} (H : LBd S) (hdb : d ≤ 5000) (hd : S 22 1 = nI d) (h1 : 1 ≤ a) (h2 : a ≤ 5000) (h3 : d < a ∨ S 22 0 < nI a) (hS1 : S1 = zUp S 22 (upd (upd (S 22) 0 (S 22 0 - 0)) 1 ((upd (S 22) 0 (S 22 0 - 0)) 1 - 0))) (hp : dPost (t_X6_repay S1 (nI a)) (f_X6_repay S1 (nI a)) (g_X6_repay S1 (nI a)) S1 r T) : r = (-1000000) ∧ LBd T := by
  have hds := debtS H hd hS1
  have hcs := cashS H hS1
  rw [two_idm, zUp_self] at hS1
  obtain ⟨g1, g2⟩ := d_IS hp (by
    unfold t_X6_repay
    rw [show t_X6_requireRange (nI a) 1 5000 = none from rng_ok (lo := 1) (hi := 5000) (by decide) (by decide) (by omega) h1 h2, hds]
    by_cases c : nI a ≤ nI d
    · rw [if_pos c]
      unfold t_X6_requireCash
      rw [hcs, if_neg (fun z => by
        rcases h3 with y | y
        · have := (nI_leI (a := a) (b := d) (by omega) (by omega)).mp c
          omega
        · exact Int32.lt_irrefl (Int32.lt_of_le_of_lt z y))]
      rfl
    · rw [if_neg c]
      rfl)
  rw [g2, hS1]
  exact ⟨g1, H⟩
theorem m4_ok {S S1 T : zS} {r : Int32} {a d : Nat} (H : LBd S) (hdb : d ≤ 5000) (hd : S 22 1 = nI d) (h1 : 1 ≤ a) (h2 : a ≤ 5000) (h3 : a ≤ d) (h4 : nI a ≤ S 22 0) (hS1 : S1 = zUp S 22 (upd (upd (S 22) 0 (S 22 0 - nI a)) 1 ((upd (S 22) 0 (S 22 0 - nI a)) 1 - nI a))) (hp : dPost (t_X6_repay S1 (nI a)) (f_X6_repay S1 (nI a)) (g_X6_repay S1 (nI a)) S1 r T) : r = T 22 1 ∧ LBd T := by
  have hds := debtS H hd hS1
  have hcs := cashS H hS1
  have hle : nI a ≤ nI d := (nI_leI (by omega) (by omega)).mpr h3
  obtain ⟨g1, g2⟩ := d_ok hp (by
    unfold t_X6_repay t_X6_requireCash
    rw [show t_X6_requireRange (nI a) 1 5000 = none from rng_ok (lo := 1) (hi := 5000) (by decide) (by decide) (by omega) h1 h2, hds, hcs, if_pos hle, if_pos h4]
    rfl)
  unfold f_X6_repay at g1
  unfold g_X6_repay at g2
  rw [hds, if_pos hle] at g1 g2
  have e1 : S 22 1 - nI a = nI (d - a) := by
    rw [hd]
    exact pk_sub h3
  obtain ⟨q1, q2⟩ := lend_mny H hS1 g2 (by rw [pk_un (by decide), pk_us, Int32.sub_eq_add_neg]) (by rw [pk_us, pk_un (by decide), Int32.sub_eq_add_neg]) (fun i a b => by rw [pk_un b, pk_un a]) ⟨d - a, by omega, by rw [pk_us, pk_un (by decide), e1]⟩
  have t22 : T 22 1 = S 22 1 - nI a := by
    rw [g2, hS1]
    show upd (upd (S 22) 0 (S 22 0 - nI a)) 1 ((upd (S 22) 0 (S 22 0 - nI a)) 1 - nI a) 1 = _
    rw [pk_us, pk_un (by decide)]
  rw [g1, q1, t22, Int32.sub_eq_add_neg]
  exact ⟨rfl, q2⟩
/-- building and tearing -/
theorem cost_LX : ∀ k, k < 7 → 0 < k → f_X6_costOf (nI k) = f_L_costOf (nI k) ∧ 0 < f_L_costOf (nI k) := by decide +kernel
theorem kd_0 {x : Int32} (hx : x = 0 ∨ x = 1 ∨ x = 2 ∨ x = 3 ∨ x = 4 ∨ x = 5 ∨ x = 6) (h : ¬ 0 < x) : x = 0 := by
  rcases hx with e | e | e | e | e | e | e <;> rw [e] at h ⊢ <;> exact absurd (by decide) h
theorem kd_p {x : Int32} (hx : x = 0 ∨ x = 1 ∨ x = 2 ∨ x = 3 ∨ x = 4 ∨ x = 5 ∨ x = 6) (h : ¬ x = 0) : ¬ x ≤ 0 := by
  rcases hx with e | e | e | e | e | e | e <;> rw [e] at h ⊢ <;> first | exact absurd rfl h | decide
theorem due_big {c f : Int32} (h0 : 0 < f) (h : f ≤ c) : ¬ c - f ≤ (-1000000) := by
  intro z
  rw [Int32.le_iff_toInt_le] at h z
  rw [Int32.lt_iff_toInt_lt] at h0
  have e0 : (0 : Int32).toInt = 0 := by decide
  have e1 : (-1000000 : Int32).toInt = -1000000 := by decide
  rw [e0] at h0
  rw [e1] at z
  have hc := c.toInt_lt
  have hc2 : (c - f).toInt = c.toInt - f.toInt := by
    rw [Int32.toInt_sub, Int.bmod_eq_of_le (by omega) (by omega)]
  rw [hc2] at z
  omega
theorem kindS {S S1 : zS} {c : Nat} (H : LBd S) (hc : c < 64) (hlo : ∀ r, r < 18 → S1 r = S r) : f_X0_kindOf S1 (nI c) = S 20 c := by
  unfold f_X0_kindOf
  rw [rg_nI hc (by decide), hlo 0 (by decide), (Rel_kl H.1.1).1]
  rfl
theorem cashL {S S1 : zS} (H : LBd S) (hlo : ∀ r, r < 18 → S1 r = S r) : f_X2_cashNow S1 = S 22 0 := by
  unfold f_X2_cashNow
  rw [hlo 17 (by decide), H.1.1.2.2.1]
  rfl
theorem b_out {S T : zS} {r x : Int32} {c : Nat} (H : LBd S) (hc : c = 64) (hp : dPost (t_X6_build S (nI c) x) (f_X6_build S (nI c) x) (g_X6_build S (nI c) x) S r T) : r = (-3000000) ∧ LBd T := by
  obtain ⟨h1, h2⟩ := d_IO hp (by
    unfold t_X6_build
    rw [hc, show t_X6_requireCell (nI 64) = some xIO from tq_hi]
    rfl)
  rw [h2]
  exact ⟨h1, H⟩
theorem b_kind {S T : zS} {r : Int32} {c k : Nat} (H : LBd S) (hc : c < 64) (hk : k = 7) (hp : dPost (t_X6_build S (nI c) (nI k)) (f_X6_build S (nI c) (nI k)) (g_X6_build S (nI c) (nI k)) S r T) : r = (-2000000) ∧ LBd T := by
  obtain ⟨h1, h2⟩ := d_IA hp (by
    unfold t_X6_build
    rw [tq_in hc, show t_X6_requireRange (nI k) 1 6 = some xIA from rng_bad (lo := 1) (hi := 6) (by decide) (by decide) (by omega) (by omega)]
    rfl)
  rw [h2]
  exact ⟨h1, H⟩
theorem b_no {S T : zS} {r : Int32} {c k : Nat} (H : LBd S) (hc : c < 64) (hk : 1 ≤ k) (hk6 : k ≤ 6) (h : 0 < S 20 c ∨ S 22 0 < f_L_costOf (nI k)) (hp : dPost (t_X6_build S (nI c) (nI k)) (f_X6_build S (nI c) (nI k)) (g_X6_build S (nI c) (nI k)) S r T) : r = (-1000000) ∧ LBd T := by
  obtain ⟨h1, h2⟩ := d_IS hp (by
    unfold t_X6_build
    rw [tq_in hc, show t_X6_requireRange (nI k) 1 6 = none from rng_ok (lo := 1) (hi := 6) (by decide) (by decide) (by omega) hk hk6, kindS H hc (fun _ _ => rfl)]
    by_cases z : S 20 c = 0
    · rw [if_pos z]
      unfold t_X6_requireCash
      rw [cashL H (fun _ _ => rfl), (cost_LX k (by omega) (by omega)).1, if_neg (fun y => by
        rcases h with w | w
        · rw [z] at w
          exact absurd w (by decide)
        · exact Int32.lt_irrefl (Int32.lt_of_le_of_lt y w))]
      rfl
    · rw [if_neg z]
      rfl)
  rw [h2]
  exact ⟨h1, H⟩
theorem kdOK_upd {K : Nat → Int32} {v : Int32} (h : kdOK K) (c : Nat) (hv : v = 0 ∨ v = 1 ∨ v = 2 ∨ v = 3 ∨ v = 4 ∨ v = 5 ∨ v = 6) : kdOK (upd K c v) := by
  intro k hk
  by_cases e : k = c
  · rw [e, pk_us]
    exact hv
  · rw [pk_un e]
    exact h k hk
theorem lzOK_upd {K L : Nat → Int32} {v : Int32} (h : lzOK K L) (c : Nat) : lzOK (upd K c v) (upd L c 0) := by
  intro k hk hz
  by_cases e : k = c
  · rw [e, pk_us]
  · rw [pk_un e]
    refine h k hk (fun z => hz ?_)
    unfold isZ
    rw [pk_un e]
    exact z
theorem lay_bd {S S1 G T : zS} {c : Nat} {v w : Int32} (H : LBd S) (hc : c < 64) (hv : v = 0 ∨ v = 1 ∨ v = 2 ∨ v = 3 ∨ v = 4 ∨ v = 5 ∨ v = 6) (hS1 : S1 = zUp (zUp (zUp S 20 (upd (S 20) c v)) 21 (upd (S 21) c 0)) 22 (upd (S 22) 0 (S 22 0 - w))) (hG : G = g_X6_survey (g_X0_lay (g_X2_spend S1 w) (nI c) v)) (hT : T = mix G S1) : G 17 0 = S 22 0 - w ∧ LBd T := by
  have hlo : ∀ r, r < 18 → S1 r = S r := fun r hr => by rw [hS1, zUp_n _ _ (by omega), zUp_n _ _ (by omega), zUp_n _ _ (by omega)]
  have hR := Rel_lo H.1.1 hlo
  have t20 : T 20 = upd (S 20) c v := by
    rw [hT, hS1]
    rfl
  have t21 : T 21 = upd (S 21) c 0 := by
    rw [hT, hS1]
    rfl
  have t22 : T 22 = upd (S 22) 0 (S 22 0 - w) := by
    rw [hT, hS1]
    rfl
  obtain ⟨q1, q2⟩ := Rel_lay (M' := bM T) (c := w) hR hc hG (by rw [bM_0, t20]; rfl) (by rw [bM_1, t21]; rfl) (by rw [bM_13, t22, pk_us]; rfl) (fun i _ h0 => by rw [bM_13, t22, pk_un h0]; rfl)
  refine ⟨q2, ⟨Rel_lo q1 (fun r hr => ?_), ?_, ?_⟩, ?_⟩
  · rw [hT]
    unfold mix
    rw [if_pos (by omega)]
  · rw [t20]
    exact kdOK_upd H.1.2.1 c hv
  · rw [t20, t21]
    exact lzOK_upd H.1.2.2 c
  · rw [t22, pk_un (by decide)]
    exact H.2
theorem b_ok {S S1 T : zS} {r : Int32} {c k : Nat} (H : LBd S) (hc : c < 64) (hk : 1 ≤ k) (hk6 : k ≤ 6) (h0 : ¬ 0 < S 20 c) (h : f_L_costOf (nI k) ≤ S 22 0) (hS1 : S1 = zUp (zUp (zUp S 20 (upd (S 20) c (nI k))) 21 (upd (S 21) c 0)) 22 (upd (S 22) 0 (S 22 0 - f_L_costOf (nI k)))) (hp : dPost (t_X6_build S1 (nI c) (nI k)) (f_X6_build S1 (nI c) (nI k)) (g_X6_build S1 (nI c) (nI k)) S1 r T) : r = S 22 0 - f_L_costOf (nI k) ∧ LBd T := by
  have hlo : ∀ r, r < 18 → S1 r = S r := fun r hr => by rw [hS1, zUp_n _ _ (by omega), zUp_n _ _ (by omega), zUp_n _ _ (by omega)]
  have hz : f_X0_kindOf S1 (nI c) = 0 := (kindS H hc hlo).trans (kd_0 (H.1.2.1 c hc) h0)
  have hcst := (cost_LX k (by omega) (by omega)).1
  obtain ⟨g1, g2⟩ := d_ok hp (by
    unfold t_X6_build t_X6_requireCash
    rw [tq_in hc, show t_X6_requireRange (nI k) 1 6 = none from rng_ok (lo := 1) (hi := 6) (by decide) (by decide) (by omega) hk hk6, if_pos hz, cashL H hlo, hcst, if_pos h]
    rfl)
  unfold f_X6_build f_X2_cashNow at g1
  unfold g_X6_build at g2
  rw [if_pos hz, hcst] at g1 g2
  obtain ⟨G, hG⟩ : ∃ G, G = g_X6_survey (g_X0_lay (g_X2_spend S1 (f_L_costOf (nI k))) (nI c) (nI k)) := ⟨_, rfl⟩
  rw [← hG] at g1 g2
  obtain ⟨q1, q2⟩ := lay_bd H hc (by
    rcases (show k = 1 ∨ k = 2 ∨ k = 3 ∨ k = 4 ∨ k = 5 ∨ k = 6 by omega) with e | e | e | e | e | e <;> rw [e]
    · exact Or.inr (Or.inl rfl)
    · exact Or.inr (Or.inr (Or.inl rfl))
    · exact Or.inr (Or.inr (Or.inr (Or.inl rfl)))
    · exact Or.inr (Or.inr (Or.inr (Or.inr (Or.inl rfl))))
    · exact Or.inr (Or.inr (Or.inr (Or.inr (Or.inr (Or.inl rfl)))))
    · exact Or.inr (Or.inr (Or.inr (Or.inr (Or.inr (Or.inr rfl)))))) hS1 hG g2
  exact ⟨g1.trans q1, q2⟩
theorem t_out {S T : zS} {r : Int32} {c : Nat} (H : LBd S) (hc : c = 64) (hp : dPost (t_X6_tear S (nI c)) (f_X6_tear S (nI c)) (g_X6_tear S (nI c)) S r T) : r = (-3000000) ∧ LBd T := by
  obtain ⟨h1, h2⟩ := d_IO hp (by
    unfold t_X6_tear
    rw [hc, show t_X6_requireCell (nI 64) = some xIO from tq_hi]
    rfl)
  rw [h2]
  exact ⟨h1, H⟩
theorem t_no {S T : zS} {r : Int32} {c : Nat} (H : LBd S) (hc : c < 64) (h : S 20 c = 0 ∨ S 22 0 < 5) (hp : dPost (t_X6_tear S (nI c)) (f_X6_tear S (nI c)) (g_X6_tear S (nI c)) S r T) : r = (-1000000) ∧ LBd T := by
  obtain ⟨h1, h2⟩ := d_IS hp (by
    unfold t_X6_tear
    rw [tq_in hc, kindS H hc (fun _ _ => rfl)]
    by_cases z : S 20 c = 0
    · rw [if_neg (not_not_intro z)]
      rfl
    · rw [if_pos z]
      unfold t_X6_requireCash
      rw [cashL H (fun _ _ => rfl), if_neg (fun y => by
        rcases h with w | w
        · exact z w
        · exact Int32.lt_irrefl (Int32.lt_of_le_of_lt y w))]
      rfl)
  rw [h2]
  exact ⟨h1, H⟩
theorem t_ok {S S1 T : zS} {r : Int32} {c : Nat} (H : LBd S) (hc : c < 64) (h0 : ¬ S 20 c = 0) (h : 5 ≤ S 22 0) (hS1 : S1 = zUp (zUp (zUp S 20 (upd (S 20) c 0)) 21 (upd (S 21) c 0)) 22 (upd (S 22) 0 (S 22 0 - 5))) (hp : dPost (t_X6_tear S1 (nI c)) (f_X6_tear S1 (nI c)) (g_X6_tear S1 (nI c)) S1 r T) : r = S 20 c ∧ LBd T := by
  have hlo : ∀ r, r < 18 → S1 r = S r := fun r hr => by rw [hS1, zUp_n _ _ (by omega), zUp_n _ _ (by omega), zUp_n _ _ (by omega)]
  have hk := kindS H hc hlo
  have hz : ¬ f_X0_kindOf S1 (nI c) = 0 := by
    rw [hk]
    exact h0
  obtain ⟨g1, g2⟩ := d_ok hp (by
    unfold t_X6_tear t_X6_requireCash
    rw [tq_in hc, if_pos hz, cashL H hlo, if_pos h]
    rfl)
  unfold f_X6_tear at g1
  unfold g_X6_tear at g2
  rw [if_pos hz] at g1 g2
  obtain ⟨G, hG⟩ : ∃ G, G = g_X6_survey (g_X0_lay (g_X2_spend S1 5) (nI c) 0) := ⟨_, rfl⟩
  rw [← hG] at g2
  obtain ⟨q1, q2⟩ := lay_bd H hc (Or.inl rfl) hS1 hG g2
  exact ⟨g1.trans hk, q2⟩
/-- calls that the law means to be refused -/
theorem p_bad {S T : zS} {r x : Int32} (H : LBd S) (ht : t_X6_requireRange x 1 12 = some xIA) (hp : dPost (t_X6_pass S x) (f_X6_pass S x) (g_X6_pass S x) S r T) : r = (-2000000) ∧ LBd T := by
  obtain ⟨h1, h2⟩ := d_IA hp (by
    unfold t_X6_pass
    rw [ht]
    rfl)
  rw [h2]
  exact ⟨h1, H⟩
theorem e_bld1 {S T : zS} {r : Int32} (H : LBd S) (hp : dPost (t_X6_build S (-1) 0) (f_X6_build S (-1) 0) (g_X6_build S (-1) 0) S r T) : r = (-3000000) ∧ LBd T := by
  obtain ⟨h1, h2⟩ := d_IO hp (by
    unfold t_X6_build
    rw [tq_lo]
    rfl)
  rw [h2]
  exact ⟨h1, H⟩
theorem e_bld2 {S T : zS} {r : Int32} (H : LBd S) (hp : dPost (t_X6_build S 0 0) (f_X6_build S 0 0) (g_X6_build S 0 0) S r T) : r = (-2000000) ∧ LBd T := by
  obtain ⟨h1, h2⟩ := d_IA hp (by
    unfold t_X6_build
    rw [tq_0, show t_X6_requireRange 0 1 6 = some xIA from rfl]
    rfl)
  rw [h2]
  exact ⟨h1, H⟩
theorem e_tear {S T : zS} {r : Int32} (H : LBd S) (hp : dPost (t_X6_tear S 64) (f_X6_tear S 64) (g_X6_tear S 64) S r T) : r = (-3000000) ∧ LBd T := by
  obtain ⟨h1, h2⟩ := d_IO hp (by
    unfold t_X6_tear
    rw [tq_hi]
    rfl)
  rw [h2]
  exact ⟨h1, H⟩
theorem e_tax {S T : zS} {r : Int32} (H : LBd S) (hp : dPost (t_X6_setTax S 0 (-1)) (f_X6_setTax S 0 (-1)) (g_X6_setTax S 0 (-1)) S r T) : r = (-2000000) ∧ LBd T := by
  obtain ⟨h1, h2⟩ := d_IA hp (by
    unfold t_X6_setTax
    rw [show t_X6_requireRange (-1) 0 20 = some xIA from rfl]
    rfl)
  rw [h2]
  exact ⟨h1, H⟩
theorem e_borrow {S T : zS} {r : Int32} (H : LBd S) (hp : dPost (t_X6_borrow S 0) (f_X6_borrow S 0) (g_X6_borrow S 0) S r T) : r = (-2000000) ∧ LBd T := by
  obtain ⟨h1, h2⟩ := d_IA hp (by
    unfold t_X6_borrow
    rw [show t_X6_requireRange 0 1 1000 = some xIA from rfl]
    rfl)
  rw [h2]
  exact ⟨h1, H⟩
theorem e_repay {S T : zS} {r : Int32} (H : LBd S) (hp : dPost (t_X6_repay S 0) (f_X6_repay S 0) (g_X6_repay S 0) S r T) : r = (-2000000) ∧ LBd T := by
  obtain ⟨h1, h2⟩ := d_IA hp (by
    unfold t_X6_repay
    rw [show t_X6_requireRange 0 1 5000 = some xIA from rfl]
    rfl)
  rw [h2]
  exact ⟨h1, H⟩
