/-! EVERY CALL, side by side: building and money -/
theorem i00 : ¬ ¬ (0 : Int32) = 0 := by decide
theorem cash_c {C M : zS} (H : Rel C M) (x : Int32) : t_X6_requireCash C x = if x ≤ M 13 0 then none else some xIS := by
  unfold t_X6_requireCash f_X2_cashNow
  rw [H.2.2.1]
theorem kind_16 {x : Int32} (h1 : 1 ≤ x) (h2 : x ≤ 6) : x = 1 ∨ x = 2 ∨ x = 3 ∨ x = 4 ∨ x = 5 ∨ x = 6 := by
  rcases pk_ix x (show 7 < 2 ^ 31 by decide) with h | h | ⟨k, hk, rfl⟩
  · exact (Int32.lt_irrefl (Int32.lt_of_lt_of_le h (Int32.le_trans (show (0 : Int32) ≤ 1 by decide) h1))).elim
  · exact absurd (Int32.le_trans h h2) (by decide)
  · rcases (show k = 0 ∨ k = 1 ∨ k = 2 ∨ k = 3 ∨ k = 4 ∨ k = 5 ∨ k = 6 by omega) with rfl | rfl | rfl | rfl | rfl | rfl | rfl
    · exact absurd h1 (by decide)
    all_goals decide
theorem cost_e {x : Int32} (h1 : 1 ≤ x) (h2 : x ≤ 6) : f_X6_costOf x = f_X7_costOf x := by
  rcases kind_16 h1 h2 with rfl | rfl | rfl | rfl | rfl | rfl <;> decide
/-- a change of one cell of the board, and of the cash -/
theorem Rel_lay {C M M' T : zS} {k : Nat} {v c : Int32} (H : Rel C M) (hk : k < 64) (hT : T = g_X6_survey (g_X0_lay (g_X2_spend C c) (nI k) v)) (m0 : M' 0 = upd (M 0) k v) (m1 : M' 1 = upd (M 1) k 0) (mc : M' 13 0 = M 13 0 - c) (mO : ∀ i, i < 5 → i ≠ 0 → M' 13 i = M 13 i) : Rel T M' ∧ T 17 0 = M 13 0 - c := by
  obtain ⟨k0, k1⟩ := Rel_kl H
  have e : g_X0_lay (g_X2_spend C c) (nI k) v = zUp (zUp (g_X2_spend C c) 0 (upd (C 0) k v)) 1 (upd (C 1) k 0) := by
    unfold g_X0_lay
    have a0 : g_X2_spend C c 0 = C 0 := by unfold g_X2_spend; exact zUp_n _ _ (by decide)
    have a1 : g_X2_spend C c 1 = C 1 := by unfold g_X2_spend; exact zUp_n _ _ (by decide)
    rw [a0, a1, rs_nI hk (by decide), rs_nI hk (by decide)]
  have b0 : g_X0_lay (g_X2_spend C c) (nI k) v 0 = M' 0 := by rw [e, zUp_n _ _ (by decide), zUp_s, k0, m0]
  have b1 : g_X0_lay (g_X2_spend C c) (nI k) v 1 = M' 1 := by rw [e, zUp_s, k1, m1]
  have b17 : g_X0_lay (g_X2_spend C c) (nI k) v 17 = upd (C 17) 0 (C 17 0 - c) := by
    rw [e, zUp_n _ _ (by decide), zUp_n _ _ (by decide)]
    unfold g_X2_spend
    exact zUp_s _ _ _
  generalize g_X0_lay (g_X2_spend C c) (nI k) v = N at hT b0 b1 b17
  have t17 : T 17 = upd (C 17) 0 (C 17 0 - c) := by
    rw [hT, ← b17]
    simp [fr_X6_survey]
  have hL : lvOK (M' 1) := by
    intro j hj
    rw [m1]
    by_cases z : j = k
    · rw [z, pk_us]
      exact Or.inl rfl
    · rw [pk_un z]
      exact H.2.1 j hj
  obtain ⟨n0, n1, n2, n3, n4⟩ := H.2.2
  refine ⟨⟨?_, hL, ?_⟩, ?_⟩
  · rw [hT]
    exact sv_survey b0 rfl b1 rfl hL
  · unfold mny
    rw [t17, pk_us, pk_un (by decide), pk_un (by decide), pk_un (by decide), pk_un (by decide), mc, mO 1 (by decide) (by decide), mO 2 (by decide) (by decide), mO 3 (by decide) (by decide), mO 4 (by decide) (by decide), n0]
    exact ⟨rfl, n1, n2, n3, n4⟩
  · rw [t17, pk_us, n0]
theorem eq_buildC {C M : zS} (H : Rel C M) (x y : Int32) : LR nB (t_X6_build C x y) (f_X6_build C x y) (f_X7_build M x y) C (g_X6_build C x y) (g_X7_build M x y) := by
  unfold t_X6_build f_X6_build g_X6_build f_X7_build g_X7_build
  rcases cell_c x with ⟨k, hk, rfl, h1, h2⟩ | ⟨h1, h2⟩
  · rcases range_c y 1 6 with ⟨h3, h4, h5, h6⟩ | ⟨h3, h4⟩
    · rw [h1, h2, h3, h4, if_pos i10, if_pos i10, if_pos i10, if_pos i10]
      unfold f_X0_kindOf
      rw [rg_nI hk (by decide), (Rel_kl H).1, nI_clamp (by omega), cash_c H, cost_e h5 h6]
      by_cases c : M 0 k = 0
      · rw [if_pos c, if_pos c, if_pos c, if_neg (not_not_intro c), if_neg (not_not_intro c)]
        by_cases d : f_X7_costOf y ≤ M 13 0
        · rw [if_pos d, if_pos d, if_pos d]
          generalize f_X7_costOf y = w at d ⊢
          obtain ⟨r1, r2⟩ := Rel_lay (M' := zUp (zUp (zUp (zUp M 13 (upd (M 13) 5 0)) 0 (upd (M 0) k y)) 1 (upd (M 1) k 0)) 13 (upd ((zUp (zUp (zUp M 13 (upd (M 13) 5 0)) 0 (upd (M 0) k y)) 1 (upd (M 1) k 0)) 13) 0 (((zUp (zUp (zUp M 13 (upd (M 13) 5 0)) 0 (upd (M 0) k y)) 1 (upd (M 1) k 0)) 13 0) - w))) (c := w) H hk rfl (by rw [zUp_n _ _ (by decide), zUp_n _ _ (by decide), zUp_s]) (by rw [zUp_n _ _ (by decide), zUp_s]) (by rw [zUp_s, pk_us, zUp_n _ _ (by decide), zUp_n _ _ (by decide), zUp_s, pk_un (by decide)]) (fun i hi h0 => by rw [zUp_s, pk_un h0, zUp_n _ _ (by decide), zUp_n _ _ (by decide), zUp_s, pk_un (by omega)])
          refine LR.ans rfl ?_ ?_ r1
          · rw [zUp_s, pk_un (by decide), zUp_n _ _ (by decide), zUp_n _ _ (by decide), zUp_s, pk_us]
          · unfold f_X2_cashNow
            rw [r2, pk_us, zUp_n _ _ (by decide), zUp_n _ _ (by decide), zUp_s, pk_un (by decide)]
        · rw [if_neg d, if_neg d, if_neg d]
          exact LR.thr (xIS, 3) (by decide) rfl thr_5 (Rel_thr H 3)
      · rw [if_neg c, if_neg c, if_neg c, if_pos c, if_pos c]
        exact LR.thr (xIS, 3) (by decide) rfl thr_5 (Rel_thr H 3)
    · rw [h1, h2, h3, h4, if_pos i10, if_neg i00, if_pos i10, if_neg i00]
      exact LR.thr (xIA, 2) (by decide) rfl thr_5 (Rel_thr H 2)
  · rw [h1, h2, if_neg i00, if_neg i00]
    exact LR.thr (xIO, 1) (by decide) rfl thr_5 (Rel_thr H 1)
theorem eq_tearC {C M : zS} (H : Rel C M) (x : Int32) : LR nT (t_X6_tear C x) (f_X6_tear C x) (f_X7_tear M x) C (g_X6_tear C x) (g_X7_tear M x) := by
  unfold t_X6_tear f_X6_tear g_X6_tear f_X7_tear g_X7_tear
  rcases cell_c x with ⟨k, hk, rfl, h1, h2⟩ | ⟨h1, h2⟩
  · rw [h1, h2, if_pos i10, if_pos i10]
    unfold f_X0_kindOf
    rw [rg_nI hk (by decide), (Rel_kl H).1, nI_clamp (by omega), cash_c H]
    by_cases c : M 0 k = 0
    · rw [if_neg (not_not_intro c), if_neg (not_not_intro c), if_neg (not_not_intro c), if_pos c, if_pos c]
      exact LR.thr (xIS, 2) (by decide) rfl thr_5 (Rel_thr H 2)
    · rw [if_pos c, if_pos c, if_pos c, if_neg c, if_neg c]
      by_cases d : 5 ≤ M 13 0
      · rw [if_pos d, if_pos d, if_pos d]
        obtain ⟨r1, r2⟩ := Rel_lay (M' := zUp (zUp (zUp (zUp M 13 (upd (M 13) 5 0)) 0 (upd (M 0) k 0)) 1 (upd (M 1) k 0)) 13 (upd ((zUp (zUp (zUp M 13 (upd (M 13) 5 0)) 0 (upd (M 0) k 0)) 1 (upd (M 1) k 0)) 13) 0 (((zUp (zUp (zUp M 13 (upd (M 13) 5 0)) 0 (upd (M 0) k 0)) 1 (upd (M 1) k 0)) 13 0) - 5))) (c := 5) H hk rfl (by rw [zUp_n _ _ (by decide), zUp_n _ _ (by decide), zUp_s]) (by rw [zUp_n _ _ (by decide), zUp_s]) (by rw [zUp_s, pk_us, zUp_n _ _ (by decide), zUp_n _ _ (by decide), zUp_s, pk_un (by decide)]) (fun i hi h0 => by rw [zUp_s, pk_un h0, zUp_n _ _ (by decide), zUp_n _ _ (by decide), zUp_s, pk_un (by omega)])
        refine LR.ans rfl ?_ rfl r1
        rw [zUp_s, pk_un (by decide), zUp_n _ _ (by decide), zUp_n _ _ (by decide), zUp_s, pk_us]
      · rw [if_neg d, if_neg d, if_neg d]
        exact LR.thr (xIS, 2) (by decide) rfl thr_5 (Rel_thr H 2)
  · rw [h1, h2, if_neg i00, if_neg i00]
    exact LR.thr (xIO, 1) (by decide) rfl thr_5 (Rel_thr H 1)
theorem go_congr {C C' : zS} {x y : Int32} (h12 : C' 12 = C 12) (h13 : C' 13 = C 13) (h14 : C' 14 = C 14) : ∀ q i, lp_X1_goingBetween_2 C' x y q i = lp_X1_goingBetween_2 C x y q i := by
  intro q
  induction q with
  | zero => intro i; rfl
  | succ q ih =>
    intro i
    rw [lp_X1_goingBetween_2, lp_X1_goingBetween_2, h12, h13, h14, ih]
theorem going_congr {C C' : zS} {x y : Int32} (h12 : C' 12 = C 12) (h13 : C' 13 = C 13) (h14 : C' 14 = C 14) (h16 : C' 16 = C 16) : f_X1_goingBetween C' x y = f_X1_goingBetween C x y := by
  unfold f_X1_goingBetween
  rw [h16, go_congr h12 h13 h14]
theorem al_congr {C C' : zS} (h14 : C' 14 = C 14) {v : Int32} : ∀ n, lp_X1_allPlaced_4 C' v n = lp_X1_allPlaced_4 C v n
  | 0 => rfl
  | n + 1 => by
    show bd_X1_allPlaced_4 C' n (lp_X1_allPlaced_4 C' v n) = bd_X1_allPlaced_4 C n (lp_X1_allPlaced_4 C v n)
    rw [al_congr h14 n]
    unfold bd_X1_allPlaced_4
    rw [h14]
theorem allp_congr {C C' : zS} (h14 : C' 14 = C 14) (h16 : C' 16 = C 16) : f_X1_allPlaced C' = f_X1_allPlaced C := by
  unfold f_X1_allPlaced
  rw [h16, al_congr h14]
theorem lives_5 (M : zS) : g_X7_lives M 13 5 = M 13 5 := by
  unfold g_X7_lives
  rw [(m_199 _).1 13 (by decide), (m_162 _).1 13 (by decide), zUp_s, pk_un (by decide), pk_un (by decide), (finds_0 M).2.2]
/-- money alone changes -/
theorem Rel_mny {C M C' M' : zS} (H : Rel C M) (hC : ∀ r, r ≠ 17 → r ≠ 18 → C' r = C r) (hM : ∀ r, r ≠ 13 → M' r = M r) (hm : mny C' M') : Rel C' M' := by
  have hN : Rel C (zUp M' 13 (M 13)) := Rel_move H (by rw [zUp_n _ _ (by decide)]; exact hM 0 (by decide)) (by rw [zUp_n _ _ (by decide)]; exact hM 1 (by decide)) (fun i _ => by rw [zUp_s])
  obtain ⟨h1, h2, -⟩ := H
  have hE := h1.1
  refine ⟨?_, by rw [hM 1 (by decide)]; exact h2, hm⟩
  rw [hM 0 (by decide), hM 1 (by decide)]
  have h3 := sv_move h1 hE.2.2.1 hE.2.2.2.2.1 rfl rfl (hM 0 (by decide)) (hM 1 (by decide)) h2
  obtain ⟨⟨e1, e2, e3, e4, e5, e6⟩, s2, s3, s4, s5, s6⟩ := h3
  refine ⟨⟨cRd_congr e1 (hC 2 (by decide) (by decide)) (hC 3 (by decide) (by decide)) (hC 4 (by decide) (by decide)) (hC 15 (by decide) (by decide)), e2, (hC 0 (by decide) (by decide)).trans e3, e4, (hC 1 (by decide) (by decide)).trans e5, e6⟩, ?_, ?_, ?_, ?_, s6⟩
  · rw [hC 6 (by decide) (by decide), hC 8 (by decide) (by decide), hC 9 (by decide) (by decide), hC 11 (by decide) (by decide)]
    exact s2
  · intro a b ha hb
    rw [← s3 a b ha hb]
    exact going_congr (hC 12 (by decide) (by decide)) (hC 13 (by decide) (by decide)) (hC 14 (by decide) (by decide)) (hC 16 (by decide) (by decide))
  · rw [← s4]
    exact allp_congr (hC 14 (by decide) (by decide)) (hC 16 (by decide) (by decide))
  · rw [← s5]
    exact allp_congr (hC 14 (by decide) (by decide)) (hC 16 (by decide) (by decide))
/-- row 18 is none of the class's -/
theorem Rel_18 {C M : zS} (H : Rel C M) (f : Nat → Int32) : Rel (zUp C 18 f) M :=
  Rel_mny H (fun r _ h => zUp_n _ _ h) (fun _ _ => rfl) (by
    have h := H.2.2
    unfold mny at h ⊢
    rw [zUp_n _ _ (show (17 : Nat) ≠ 18 by decide)]
    exact h)
theorem eq_setTaxC {C M : zS} (H : Rel C M) (x y : Int32) : LR nA (t_X6_setTax C x y) (f_X6_setTax C x y) (f_X7_setTax M x y) C (g_X6_setTax C x y) (g_X7_setTax M x y) := by
  unfold t_X6_setTax f_X6_setTax g_X6_setTax f_X7_setTax g_X7_setTax f_X2_changeTax g_X2_changeTax
  obtain ⟨n0, n1, n2, n3, n4⟩ := H.2.2
  rcases range_c y 0 20 with ⟨h3, h4, h5, h6⟩ | ⟨h3, h4⟩
  · rw [h3, h4, if_neg i10, if_neg i10]
    by_cases c : x = 0
    · simp only [if_pos c]
      refine LR.ans rfl ?_ ?_ ?_
      · rw [zUp_s, pk_un (by decide), pk_us]
      · rw [pk_un (by decide), n2]
      · refine Rel_mny H (fun r h _ => zUp_n _ _ h) (fun r h => by rw [zUp_n _ _ h, zUp_n _ _ h]) ?_
        unfold mny
        rw [zUp_s, zUp_s, pk_us, pk_us, pk_un (by decide), pk_un (by decide), pk_un (by decide), pk_un (by decide), pk_un (by decide), pk_un (by decide), pk_un (by decide), pk_un (by decide), pk_un (by decide), pk_un (by decide), pk_un (by decide), pk_un (by decide)]
        exact ⟨n0, n1, rfl, n3, n4⟩
    · simp only [if_neg c]
      refine LR.ans rfl ?_ ?_ ?_
      · rw [zUp_s, pk_un (by decide), pk_us]
      · rw [pk_un (by decide), n3]
      · refine Rel_mny H (fun r h _ => zUp_n _ _ h) (fun r h => by rw [zUp_n _ _ h, zUp_n _ _ h]) ?_
        unfold mny
        rw [zUp_s, zUp_s, pk_us, pk_us, pk_un (by decide), pk_un (by decide), pk_un (by decide), pk_un (by decide), pk_un (by decide), pk_un (by decide), pk_un (by decide), pk_un (by decide), pk_un (by decide), pk_un (by decide), pk_un (by decide), pk_un (by decide)]
        exact ⟨n0, n1, n2, rfl, n4⟩
  · rw [h3, h4, if_pos rfl, if_pos rfl]
    exact LR.thr (xIA, 1) (by decide) rfl thr_5 (Rel_thr H 1)
theorem lend_17 {C : zS} {v : Int32} : g_X2_lend C v 17 = upd (upd (C 17) 0 (C 17 0 + v)) 1 (C 17 1 + v) := by
  unfold g_X2_lend
  rw [zUp_s, pk_un (by decide)]
theorem lend_n {C : zS} {v : Int32} {r : Nat} (h : r ≠ 17) : g_X2_lend C v r = C r := by
  unfold g_X2_lend
  rw [zUp_n _ _ h, zUp_n _ _ h]
theorem Rel_lend {C M M' : zS} {v : Int32} (H : Rel C M) (hM : ∀ r, r ≠ 13 → M' r = M r) (m0 : M' 13 0 = M 13 0 + v) (m1 : M' 13 1 = M 13 1 + v) (m2 : M' 13 2 = M 13 2) (m3 : M' 13 3 = M 13 3) (m4 : M' 13 4 = M 13 4) : Rel (g_X2_lend C v) M' ∧ f_X2_debtNow (g_X2_lend C v) = M 13 1 + v := by
  obtain ⟨n0, n1, n2, n3, n4⟩ := H.2.2
  refine ⟨Rel_mny H (fun r h _ => lend_n h) hM ?_, ?_⟩
  · unfold mny
    rw [lend_17, m0, m1, m2, m3, m4, pk_us, pk_un (by decide), pk_us, pk_un (by decide), pk_un (by decide), pk_un (by decide), pk_un (by decide), pk_un (by decide), pk_un (by decide), n0, n1]
    exact ⟨rfl, rfl, n2, n3, n4⟩
  · unfold f_X2_debtNow
    rw [lend_17, pk_us, n1]
theorem eq_borrowC {C M : zS} (H : Rel C M) (x : Int32) : LR nG (t_X6_borrow C x) (f_X6_borrow C x) (f_X7_borrow M x) C (g_X6_borrow C x) (g_X7_borrow M x) := by
  unfold t_X6_borrow f_X6_borrow g_X6_borrow f_X7_borrow g_X7_borrow
  have e : f_X2_debtNow C = M 13 1 := H.2.2.2.1
  rcases range_c x 1 1000 with ⟨h3, h4, h5, h6⟩ | ⟨h3, h4⟩
  · rw [h3, h4, if_pos i10, if_pos i10, e]
    by_cases c : M 13 1 + x ≤ 5000
    · rw [if_pos c, if_pos c, if_pos c, if_pos c, if_pos c]
      obtain ⟨r1, r2⟩ := Rel_lend (v := x) (M' := (zUp (zUp (zUp M 13 (upd (M 13) 5 0)) 13 (upd (upd (M 13) 5 0) 1 ((upd (M 13) 5 0 1) + x))) 13 (upd (upd (upd (M 13) 5 0) 1 ((upd (M 13) 5 0 1) + x)) 0 ((upd (upd (M 13) 5 0) 1 ((upd (M 13) 5 0 1) + x) 0) + x)))) H (fun r h => by rw [zUp_n _ _ h, zUp_n _ _ h, zUp_n _ _ h]) (by rw [zUp_s, pk_us, pk_un (by decide), pk_un (by decide)]) (by rw [zUp_s, pk_un (by decide), pk_us, pk_un (by decide)]) (by rw [zUp_s, pk_un (by decide), pk_un (by decide), pk_un (by decide)]) (by rw [zUp_s, pk_un (by decide), pk_un (by decide), pk_un (by decide)]) (by rw [zUp_s, pk_un (by decide), pk_un (by decide), pk_un (by decide)])
      refine LR.ans rfl ?_ ?_ r1
      · rw [zUp_s, pk_un (by decide), pk_un (by decide), pk_us]
      · rw [r2, zUp_s, pk_un (by decide), pk_us, pk_un (by decide)]
    · rw [if_neg c, if_neg c, if_neg c, if_neg c, if_neg c]
      exact LR.thr (xIS, 2) (by decide) rfl thr_5 (Rel_thr H 2)
  · rw [h3, h4, if_neg i00, if_neg i00]
    exact LR.thr (xIA, 1) (by decide) rfl thr_5 (Rel_thr H 1)
theorem eq_repayC {C M : zS} (H : Rel C M) (x : Int32) : LR nG (t_X6_repay C x) (f_X6_repay C x) (f_X7_repay M x) C (g_X6_repay C x) (g_X7_repay M x) := by
  unfold t_X6_repay f_X6_repay g_X6_repay f_X7_repay g_X7_repay
  have e : f_X2_debtNow C = M 13 1 := H.2.2.2.1
  rcases range_c x 1 5000 with ⟨h3, h4, h5, h6⟩ | ⟨h3, h4⟩
  · rw [h3, h4, if_pos i10, if_pos i10, e, cash_c H]
    by_cases c : x ≤ M 13 1
    · rw [if_pos c, if_pos c, if_pos c, if_neg (Int32.not_lt.mpr c), if_neg (Int32.not_lt.mpr c)]
      by_cases d : x ≤ M 13 0
      · rw [if_pos d, if_pos d, if_pos d]
        obtain ⟨r1, r2⟩ := Rel_lend (v := -x) (M' := (zUp (zUp (zUp M 13 (upd (M 13) 5 0)) 13 (upd (upd (M 13) 5 0) 1 ((upd (M 13) 5 0 1) - x))) 13 (upd (upd (upd (M 13) 5 0) 1 ((upd (M 13) 5 0 1) - x)) 0 ((upd (upd (M 13) 5 0) 1 ((upd (M 13) 5 0 1) - x) 0) - x)))) H (fun r h => by rw [zUp_n _ _ h, zUp_n _ _ h, zUp_n _ _ h]) (by rw [zUp_s, pk_us, pk_un (by decide), pk_un (by decide), Int32.sub_eq_add_neg]) (by rw [zUp_s, pk_un (by decide), pk_us, pk_un (by decide), Int32.sub_eq_add_neg]) (by rw [zUp_s, pk_un (by decide), pk_un (by decide), pk_un (by decide)]) (by rw [zUp_s, pk_un (by decide), pk_un (by decide), pk_un (by decide)]) (by rw [zUp_s, pk_un (by decide), pk_un (by decide), pk_un (by decide)])
        refine LR.ans rfl ?_ ?_ r1
        · rw [zUp_s, pk_un (by decide), pk_un (by decide), pk_us]
        · rw [r2, zUp_s, pk_un (by decide), pk_us, pk_un (by decide), Int32.sub_eq_add_neg]
      · rw [if_neg d, if_neg d, if_neg d]
        exact LR.thr (xIS, 2) (by decide) rfl thr_5 (Rel_thr H 2)
    · rw [if_neg c, if_neg c, if_neg c, if_pos (Int32.not_le.mp c), if_pos (Int32.not_le.mp c)]
      exact LR.thr (xIS, 2) (by decide) rfl thr_5 (Rel_thr H 2)
  · rw [h3, h4, if_neg i00, if_neg i00]
    exact LR.thr (xIA, 1) (by decide) rfl thr_5 (Rel_thr H 1)
theorem months_5 {S S' : zS} {m' : Int32} : ∀ n, lp_X7_pass_31 S m' S' n 13 5 = S' 13 5
  | 0 => rfl
  | n + 1 => by
    show bd_X7_pass_31 S m' n (lp_X7_pass_31 S m' S' n) 13 5 = _
    unfold bd_X7_pass_31
    rw [lives_5]
    exact months_5 n
theorem eq_passC {C M : zS} (H : Rel C M) (x : Int32) : LR nA (t_X6_pass C x) (f_X6_pass C x) (f_X7_pass M x) C (g_X6_pass C x) (g_X7_pass M x) := by
  unfold t_X6_pass f_X6_pass g_X6_pass f_X7_pass g_X7_pass
  rcases range_c x 1 12 with ⟨h3, h4, h5, h6⟩ | ⟨h3, h4⟩
  · rw [h3, h4, if_neg i10, if_neg i10]
    have H' := eq_months (S := C) (S' := M) (m := x) (m' := x) (Rel_thr H 0) x.toNatClampNeg
    refine LR.ans rfl ?_ ?_ H'
    · rw [months_5]
      exact thr_5
    · unfold f_X2_cashNow
      rw [H'.2.2.1, pk_un (by decide), H.2.2.1]
  · rw [h3, h4, if_pos rfl, if_pos rfl]
    exact LR.thr (xIA, 1) (by decide) rfl thr_5 (Rel_thr H 1)
