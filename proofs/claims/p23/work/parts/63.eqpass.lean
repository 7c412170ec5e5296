theorem month0 {C M C1 T T3 F F' Y : zS} {d g : Int32} (H : Rel C M) (hF : F = g_X7_finds M) (hd : d = lp_X7_lives_18 M (-((F 13 1 + 99) / 100)) 64) (hF' : F' = zUp (zUp F 13 (upd (F 13) 0 (F 13 0 + d))) 13 (upd (upd (F 13) 0 (F 13 0 + d)) 2 ((upd (F 13) 0 (F 13 0 + d)) 2 + d))) (hC1 : C1 = g_X2_closeMonth C (f_X1_allPlaced C) (f_X6_upkeep C)) (hg : g = if C1 17 0 < 0 then 0 else 1) (hT : T = g_X6_changeLevels C1 g) (hT3 : T3 = g_X1_find (g_X5_find T)) (hY : Y = lp_X7_lives_199 M (lp_X7_lives_162 M F' 64) 64) : Rel T3 Y := by
  obtain ⟨⟨hE, s2, s3, s4, s5, s6⟩, hL, n0, n1, n2, n3, n4⟩ := H
  rw [← hF] at hE s2 s3 s4 s5 s6
  have f13 : F 13 = M 13 := by
    rw [hF]
    simp [fr_X7_finds]
  have fO : ∀ r, r ≠ 13 → F' r = F r := fun r h => by rw [hF', zUp_n _ _ h, zUp_n _ _ h]
  have q0 : F' 13 0 = F 13 0 + d := by rw [hF', zUp_s, pk_un (by decide), pk_us]
  have q2 : F' 13 2 = F 13 2 + d := by rw [hF', zUp_s, pk_us, pk_un (by decide)]
  have qO : ∀ i, i ≠ 0 → i ≠ 2 → F' 13 i = F 13 i := fun i a b => by rw [hF', zUp_s, pk_un b, pk_un a]
  have cO : ∀ r, r ≠ 17 → C1 r = C r := fun r h => by
    rw [hC1]
    unfold g_X2_closeMonth
    rw [zUp_n _ _ h, zUp_n _ _ h]
  have hdm : d = (((f_X1_allPlaced C * C 17 2) + (f_X1_allPlaced C * C 17 3)) - f_X6_upkeep C) - ((C 17 1 + 99) / 100) := by
    rw [hd, n1, ← f13]
    exact eq_money (S := M) (K := M 0) (P := F 9) (by rw [← hF]; exact hE.2.2.2.1) (by rw [← hF]) (by rw [← hF, f13]; exact n2.symm) (by rw [← hF, f13]; exact n3.symm) hE.2.2.1 s4 s5
  have k0 : C1 17 0 = F' 13 0 := by rw [hC1, close_0, q0, ← hdm, f13, n0]
  have k4 : C1 17 4 = F' 13 2 := by rw [hC1, close_4, q2, ← hdm, f13, n4]
  have k1 : C1 17 1 = F' 13 1 := by rw [hC1, close_o (by decide) (by decide), qO 1 (by decide) (by decide), f13, n1]
  have k2 : C1 17 2 = F' 13 3 := by rw [hC1, close_o (by decide) (by decide), qO 3 (by decide) (by decide), f13, n2]
  have k3 : C1 17 3 = F' 13 4 := by rw [hC1, close_o (by decide) (by decide), qO 4 (by decide) (by decide), f13, n3]
  obtain ⟨e1, e2, e3, e4, e5, e6⟩ := hE
  have hE' : eqS (M 0) (M 1) C1 F' := ⟨cRd_congr e1 (cO 2 (by decide)) (cO 3 (by decide)) (cO 4 (by decide)) (cO 15 (by decide)), mRd_congr e2 (fO 2 (by decide)) (fO 3 (by decide)) (fO 4 (by decide)), (cO 0 (by decide)).trans e3, (fO 0 (by decide)).trans e4, (cO 1 (by decide)).trans e5, (fO 1 (by decide)).trans e6⟩
  obtain ⟨v1, v2, v3, v4⟩ := lv_both (S' := M) hL hE' (fun k hk => by rw [cO 6 (by decide), cO 8 (by decide), cO 9 (by decide), cO 11 (by decide), fO 6 (by decide), fO 8 (by decide), fO 9 (by decide), fO 11 (by decide)]; exact s2 k hk) (fun k hk => by rw [fO 9 (by decide)]; exact s6 k hk) (hg.trans (by rw [k0])) T Y hT hY
  have y0 : Y 0 = M 0 := (v4 0 (by decide) (by decide)).trans hE'.2.2.2.1
  have t0 : T 0 = M 0 := (v3 0 (by decide)).trans hE'.2.2.1
  have t17 : T3 17 = C1 17 := by
    rw [hT3]
    have : g_X1_find (g_X5_find T) 17 = T 17 := by simp [fr_X1_find, fr_X5_find]
    rw [this, v3 17 (by decide)]
  have y13 : Y 13 = F' 13 := v4 13 (by decide) (by decide)
  refine ⟨?_, v2, ?_⟩
  · rw [hT3]
    exact sv_again (by rw [y0]; exact cRd_congr hE'.1 (v3 2 (by decide)) (v3 3 (by decide)) (v3 4 (by decide)) (v3 15 (by decide))) (t0.trans y0.symm) rfl v1 rfl v2
  · unfold mny
    rw [t17, y13]
    exact ⟨k0, k1, k2, k3, k4⟩
/-- a month keeps both alike -/
theorem eq_month {C M : zS} (H : Rel C M) : Rel (g_X6_passMonth C) (g_X7_lives M) := by
  unfold g_X6_passMonth f_X2_cashNow g_X7_lives
  by_cases c : g_X2_closeMonth C (f_X1_allPlaced C) (f_X6_upkeep C) 17 0 < 0
  · rw [if_pos c]
    exact month0 H rfl rfl rfl rfl (by rw [if_pos c]) rfl rfl rfl
  · rw [if_neg c]
    exact month0 H rfl rfl rfl rfl (by rw [if_neg c]) rfl rfl rfl
