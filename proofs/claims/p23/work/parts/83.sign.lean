/-! SIGNS: the text of a cell, by its kind and its level; kinds are 0 to 6 -/
def textL (v w : Int32) : List Int32 := if v = 1 then [35] else if v = 2 then [72, 48 + w] else if v = 3 then [84, 48 + w] else if v = 4 then [112, 97, 114, 107] else if v = 5 then [112, 111, 119, 101, 114] else if v = 6 then [119, 97, 116, 101, 114] else [46]
def txL (S : zS) (x : Int32) : List Int32 := textL (rg 64 (S 0) x) (rg 64 (S 1) x)
def f_X6_sign (S : zS) (x p : Int32) : Int32 := (txL S x).getD p.toNatClampNeg 0
def t_X6_sign (S : zS) (x p : Int32) : Option String := tOr (t_X6_requireCell x) (if p < 0 then some xIO else if nI (txL S x).length ≤ p then some xIO else none)
def kOK (K : Nat → Int32) : Prop := ∀ k, k < 64 → K k ∈ ([0, 1, 2, 3, 4, 5, 6] : List Int32)
def RK (C M : zS) : Prop := Rel C M ∧ kOK (M 0)
def sgF (v w p : Int32) : Int32 := if v = 0 then (if p = 0 then (if ¬ v = 1 then 46 else (35)) else (32)) else (if ¬ v = 1 then (if v = 2 then (if ¬ p = 0 then (if ¬ p = 1 then 32 else (((48 + w).toUInt32 % 65536).toInt32)) else (if ¬ v = 2 then 84 else (72))) else (if ¬ v = 3 then f_X7_letter v p else (if ¬ p = 0 then (if ¬ p = 1 then 32 else (((48 + w).toUInt32 % 65536).toInt32)) else (if ¬ v = 2 then 84 else (72))))) else (if p = 0 then (if ¬ v = 1 then 46 else (35)) else (32)))
theorem sgF_e (S : zS) (n : Nat) (p : Int32) : f_X7_signOf S n p = sgF (S 0 n) (S 1 n) p := rfl
theorem sg_out {v w p : Int32} (h0 : ¬ p = 0) (h1 : ¬ p = 1) (h2 : ¬ p = 2) (h3 : ¬ p = 3) (h4 : ¬ p = 4) : sgF v w p = 32 := by
  unfold sgF f_X7_letter
  rw [if_neg h0, if_pos h0, if_pos h1, if_neg h1, if_neg h2, if_neg h3, if_neg h4]
  (repeat' split) <;> rfl
theorem sg_in : ∀ v ∈ ([0, 1, 2, 3, 4, 5, 6] : List Int32), ∀ w ∈ ([0, 1, 2, 3] : List Int32), ∀ j, j < 5 → ((nI j < 0 ∨ nI (textL v w).length ≤ nI j) ↔ sgF v w (nI j) = 32) ∧ (sgF v w (nI j) = 32 ∨ (textL v w).getD j 0 = sgF v w (nI j)) := by decide +kernel
theorem text_len (v w : Int32) : 0 < (textL v w).length ∧ (textL v w).length ≤ 5 := by
  unfold textL
  (repeat' split) <;> exact ⟨Nat.le_of_ble_eq_true rfl, Nat.le_of_ble_eq_true rfl⟩
theorem sign_key {v w : Int32} (hv : v ∈ ([0, 1, 2, 3, 4, 5, 6] : List Int32)) (hw : w ∈ ([0, 1, 2, 3] : List Int32)) (p : Int32) : ((p < 0 ∨ nI (textL v w).length ≤ p) ↔ sgF v w p = 32) ∧ (sgF v w p = 32 ∨ (textL v w).getD p.toNatClampNeg 0 = sgF v w p) := by
  have out : (p < 0 ∨ nI 5 ≤ p) → sgF v w p = 32 := by
    intro h
    refine sg_out ?_ ?_ ?_ ?_ ?_ <;> (intro e; subst e; revert h; decide)
  rcases pk_ix p (show 5 < 2 ^ 31 by decide) with h | h | ⟨j, hj, rfl⟩
  · have e := out (Or.inl h)
    exact ⟨⟨fun _ => e, fun _ => Or.inl h⟩, Or.inl e⟩
  · have e := out (Or.inr h)
    exact ⟨⟨fun _ => e, fun _ => Or.inr (Int32.le_trans (nI_le (text_len v w).2 (by decide)) h)⟩, Or.inl e⟩
  · have k := sg_in v hv w hw j hj
    rw [nI_clamp (by omega)]
    exact k
theorem gs_sign0 (M : zS) (x p : Int32) : g_X7_sign M x p = zUp M 13 (upd (M 13) 5 1) ∨ g_X7_sign M x p = zUp M 13 (upd (M 13) 5 0) := by
  unfold g_X7_sign
  (repeat' split) <;> first | exact Or.inl rfl | exact Or.inr rfl
theorem eq_signC {C M : zS} (H : RK C M) (x y : Int32) : LR nO (t_X6_sign C x y) (f_X6_sign C x y) (f_X7_sign M x y) C C (g_X7_sign M x y) := by
  obtain ⟨H, hk6⟩ := H
  rcases cell_c x with ⟨k, hk, rfl, h1, h2⟩ | ⟨h1, h2⟩
  · have hw : M 1 k ∈ ([0, 1, 2, 3] : List Int32) := by
      rcases H.2.1 k hk with z | z | z | z <;> (rw [z]; decide)
    obtain ⟨k1, k2⟩ := sign_key (hk6 k hk) hw y
    have ht : txL C (nI k) = textL (M 0 k) (M 1 k) := by
      unfold txL
      rw [rg_nI hk (by decide), rg_nI hk (by decide), (Rel_kl H).1, (Rel_kl H).2]
    have hc : (nI k).toNatClampNeg = k := nI_clamp (by omega)
    by_cases z : sgF (M 0 k) (M 1 k) y = 32
    · have hg : g_X7_sign M (nI k) y = zUp M 13 (upd (M 13) 5 1) := by
        unfold g_X7_sign
        rw [h2, if_neg i10, hc, sgF_e, if_pos z]
      have htt : t_X6_sign C (nI k) y = some xIO := by
        unfold t_X6_sign
        rw [h1, ht]
        rcases k1.mpr z with q | q
        · rw [if_pos q]
          rfl
        · by_cases q0 : y < 0
          · rw [if_pos q0]
            rfl
          · rw [if_neg q0, if_pos q]
            rfl
      rw [hg]
      exact LR.thr (xIO, 1) (by decide) htt thr_5 (Rel_thr H 1)
    · have hg : g_X7_sign M (nI k) y = zUp M 13 (upd (M 13) 5 0) := by
        unfold g_X7_sign
        rw [h2, if_neg i10, hc, sgF_e, if_neg z]
      have hn : ¬ (y < 0 ∨ nI (textL (M 0 k) (M 1 k)).length ≤ y) := fun q => z (k1.mp q)
      have htt : t_X6_sign C (nI k) y = none := by
        unfold t_X6_sign
        rw [h1, ht, if_neg (fun q => hn (Or.inl q)), if_neg (fun q => hn (Or.inr q))]
        rfl
      rw [hg]
      refine LR.ans htt thr_5 ?_ (Rel_thr H 0)
      unfold f_X6_sign f_X7_sign
      rw [h2, if_neg i10, hc, sgF_e, if_neg z, sgF_e, ht, k2.resolve_left z, zUp_n _ _ (by decide), zUp_n _ _ (by decide)]
  · have hg : g_X7_sign M x y = zUp M 13 (upd (M 13) 5 1) := by
      unfold g_X7_sign
      rw [h2, if_pos rfl]
    rw [hg]
    exact LR.thr (xIO, 1) (by decide) (by unfold t_X6_sign; rw [h1]; rfl) thr_5 (Rel_thr H 1)
theorem tE_sign (S : zS) (x0 x1 : Int32) : t_X6_sign S x0 x1 = none ∨ t_X6_sign S x0 x1 = some xIO := by
  unfold t_X6_sign
  rcases tE_cell x0 with h | h
  · rw [h]
    split
    · exact Or.inr rfl
    · split
      · exact Or.inr rfl
      · exact Or.inl rfl
  · rw [h]
    exact Or.inr rfl
/-- kinds stay 0 to 6 -/
theorem kOK_upd {K : Nat → Int32} {v : Int32} (h : kOK K) (j : Nat) (hv : v ∈ ([0, 1, 2, 3, 4, 5, 6] : List Int32)) : kOK (upd K j v) := by
  intro k hk
  by_cases z : k = j
  · rw [z, pk_us]
    exact hv
  · rw [pk_un z]
    exact h k hk
theorem kk_thr {M : zS} (h : kOK (M 0)) (f : Nat → Int32) : kOK (zUp M 13 f 0) := by
  rw [zUp_n _ _ (by decide)]
  exact h
theorem kk_build {M : zS} (h : kOK (M 0)) (x y : Int32) : kOK (g_X7_build M x y 0) := by
  unfold g_X7_build
  by_cases a : ¬ f_X7_isCell x = 0
  · rw [if_pos a]
    by_cases b : ¬ f_X7_isIn y 1 6 = 0
    · rw [if_pos b]
      by_cases c : ¬ M 0 x.toNatClampNeg = 0
      · rw [if_pos c]
        exact kk_thr h _
      · rw [if_neg c]
        by_cases d : f_X7_costOf y ≤ M 13 0
        · rw [if_pos d, zUp_n _ _ (by decide), zUp_n _ _ (by decide), zUp_s]
          refine kOK_upd h _ ?_
          rcases range_c y 1 6 with ⟨_, _, q1, q2⟩ | ⟨_, q⟩
          · rcases kind_16 q1 q2 with e | e | e | e | e | e <;> (rw [e]; decide)
          · exact absurd q b
        · rw [if_neg d]
          exact kk_thr h _
    · rw [if_neg b]
      exact kk_thr h _
  · rw [if_neg a]
    exact kk_thr h _
theorem kk_tear {M : zS} (h : kOK (M 0)) (x : Int32) : kOK (g_X7_tear M x 0) := by
  unfold g_X7_tear
  by_cases a : ¬ f_X7_isCell x = 0
  · rw [if_pos a]
    by_cases c : M 0 x.toNatClampNeg = 0
    · rw [if_pos c]
      exact kk_thr h _
    · rw [if_neg c]
      by_cases d : 5 ≤ M 13 0
      · rw [if_pos d, zUp_n _ _ (by decide), zUp_n _ _ (by decide), zUp_s]
        exact kOK_upd h _ (by decide)
      · rw [if_neg d]
        exact kk_thr h _
  · rw [if_neg a]
    exact kk_thr h _
theorem kk_setTax {M : zS} (h : kOK (M 0)) (x y : Int32) : kOK (g_X7_setTax M x y 0) := by
  have e : g_X7_setTax M x y 0 = M 0 := by simp [fr_X7_setTax]
  rw [e]
  exact h
theorem kk_borrow {M : zS} (h : kOK (M 0)) (x : Int32) : kOK (g_X7_borrow M x 0) := by
  have e : g_X7_borrow M x 0 = M 0 := by simp [fr_X7_borrow]
  rw [e]
  exact h
theorem kk_repay {M : zS} (h : kOK (M 0)) (x : Int32) : kOK (g_X7_repay M x 0) := by
  have e : g_X7_repay M x 0 = M 0 := by simp [fr_X7_repay]
  rw [e]
  exact h
theorem kk_pass {M : zS} (h : kOK (M 0)) (x : Int32) : kOK (g_X7_pass M x 0) := by
  have e : g_X7_pass M x 0 = M 0 := by simp [fr_X7_pass]
  rw [e]
  exact h
theorem kk_kind {M : zS} (h : kOK (M 0)) (x : Int32) : kOK (g_X7_kind M x 0) := by
  have e : g_X7_kind M x 0 = M 0 := by simp [fr_X7_kind]
  rw [e]
  exact h
theorem kk_level {M : zS} (h : kOK (M 0)) (x : Int32) : kOK (g_X7_level M x 0) := by
  have e : g_X7_level M x 0 = M 0 := by simp [fr_X7_level]
  rw [e]
  exact h
theorem kk_sign {M : zS} (h : kOK (M 0)) (x y : Int32) : kOK (g_X7_sign M x y 0) := by
  have e : g_X7_sign M x y 0 = M 0 := by simp [fr_X7_sign]
  rw [e]
  exact h
theorem kk_net {M : zS} (h : kOK (M 0)) (x : Int32) : kOK (g_X7_net M x 0) := by
  have e : g_X7_net M x 0 = M 0 := by simp [fr_X7_net]
  rw [e]
  exact h
theorem kk_steps {M : zS} (h : kOK (M 0)) (x y : Int32) : kOK (g_X7_steps M x y 0) := by
  have e : g_X7_steps M x y 0 = M 0 := by simp [fr_X7_steps]
  rw [e]
  exact h
theorem kk_isServed {M : zS} (h : kOK (M 0)) (x : Int32) : kOK (g_X7_isServed M x 0) := by
  have e : g_X7_isServed M x 0 = M 0 := by simp [fr_X7_isServed]
  rw [e]
  exact h
theorem kk_placed {M : zS} (h : kOK (M 0)) (x : Int32) : kOK (g_X7_placed M x 0) := by
  have e : g_X7_placed M x 0 = M 0 := by simp [fr_X7_placed]
  rw [e]
  exact h
theorem kk_traffic {M : zS} (h : kOK (M 0)) (x : Int32) : kOK (g_X7_traffic M x 0) := by
  have e : g_X7_traffic M x 0 = M 0 := by simp [fr_X7_traffic]
  rw [e]
  exact h
theorem kk_value {M : zS} (h : kOK (M 0)) (x : Int32) : kOK (g_X7_value M x 0) := by
  have e : g_X7_value M x 0 = M 0 := by simp [fr_X7_value]
  rw [e]
  exact h
theorem kk_powerLeft {M : zS} (h : kOK (M 0)) (x : Int32) : kOK (g_X7_powerLeft M x 0) := by
  have e : g_X7_powerLeft M x 0 = M 0 := by simp [fr_X7_powerLeft]
  rw [e]
  exact h
theorem kk_going {M : zS} (h : kOK (M 0)) (x y : Int32) : kOK (g_X7_going M x y 0) := by
  have e : g_X7_going M x y 0 = M 0 := by simp [fr_X7_going]
  rw [e]
  exact h
theorem kk_cash {M : zS} (h : kOK (M 0)) : kOK (g_X7_cash M  0) := by
  have e : g_X7_cash M  0 = M 0 := by simp [fr_X7_cash]
  rw [e]
  exact h
theorem kk_debt {M : zS} (h : kOK (M 0)) : kOK (g_X7_debt M  0) := by
  have e : g_X7_debt M  0 = M 0 := by simp [fr_X7_debt]
  rw [e]
  exact h
theorem kk_earned {M : zS} (h : kOK (M 0)) : kOK (g_X7_earned M  0) := by
  have e : g_X7_earned M  0 = M 0 := by simp [fr_X7_earned]
  rw [e]
  exact h
