/-! EVERY CALL, side by side: what the class throws and what the reference says that is thrown, the answers, the states behind -/
def nB : List (String × Int32) := [(xIO, 1), (xIA, 2), (xIS, 3)]
def nT : List (String × Int32) := [(xIO, 1), (xIS, 2)]
def nG : List (String × Int32) := [(xIA, 1), (xIS, 2)]
def nA : List (String × Int32) := [(xIA, 1)]
def nO : List (String × Int32) := [(xIO, 1)]
def LR (num : List (String × Int32)) (t : Option String) (fC fM : Int32) (C C' M' : zS) : Prop :=
  (t = none ∧ M' 13 5 = 0 ∧ fC = fM ∧ Rel C' M') ∨ ∃ q ∈ num, t = some q.1 ∧ M' 13 5 = q.2 ∧ Rel C M'
theorem LR.thr {num : List (String × Int32)} {t : Option String} {fC fM : Int32} {C C' M' : zS} (q : String × Int32) (hq : q ∈ num) (h1 : t = some q.1) (h2 : M' 13 5 = q.2) (h3 : Rel C M') : LR num t fC fM C C' M' := Or.inr ⟨q, hq, h1, h2, h3⟩
theorem LR.ans {num : List (String × Int32)} {t : Option String} {fC fM : Int32} {C C' M' : zS} (h1 : t = none) (h2 : M' 13 5 = 0) (h3 : fC = fM) (h4 : Rel C' M') : LR num t fC fM C C' M' := Or.inl ⟨h1, h2, h3, h4⟩
theorem cell_c (x : Int32) : (∃ k, k < 64 ∧ x = nI k ∧ t_X6_requireCell x = none ∧ f_X7_isCell x = 1) ∨ (t_X6_requireCell x = some xIO ∧ f_X7_isCell x = 0) := by
  unfold t_X6_requireCell f_X7_isCell f_X7_isIn
  by_cases c : x < 0
  · right
    rw [if_pos c, if_pos c]
    exact ⟨rfl, rfl⟩
  · rw [if_neg c, if_neg c]
    by_cases d : x < 64
    · left
      rcases pk_ix x (show 64 < 2 ^ 31 by decide) with h | h | ⟨k, hk, rfl⟩
      · exact absurd h c
      · exact absurd d (Int32.not_lt.mpr h)
      · refine ⟨k, hk, rfl, if_pos d, if_neg ?_⟩
        exact nI_nlt (a := 63) (by omega) (by decide)
    · right
      rw [if_neg d]
      refine ⟨rfl, if_pos ?_⟩
      have h := Int32.not_lt.mp d
      rw [Int32.le_iff_toInt_le] at h
      rw [Int32.lt_iff_toInt_lt]
      have e1 : (64 : Int32).toInt = 64 := by decide
      have e2 : (63 : Int32).toInt = 63 := by decide
      omega
theorem range_c (x a b : Int32) : (t_X6_requireRange x a b = none ∧ f_X7_isIn x a b = 1 ∧ a ≤ x ∧ x ≤ b) ∨ (t_X6_requireRange x a b = some xIA ∧ f_X7_isIn x a b = 0) := by
  unfold t_X6_requireRange f_X7_isIn
  by_cases c : x < a
  · right
    rw [if_pos c, if_pos c]
    exact ⟨rfl, rfl⟩
  · rw [if_neg c, if_neg c]
    by_cases d : x ≤ b
    · left
      rw [if_pos d, if_neg (Int32.not_lt.mpr d)]
      exact ⟨rfl, rfl, Int32.not_lt.mp c, d⟩
    · right
      rw [if_neg d, if_pos (Int32.not_le.mp d)]
      exact ⟨rfl, rfl⟩
/-- only the number of what is thrown is new -/
theorem Rel_thr {C M : zS} (H : Rel C M) (v : Int32) : Rel C (zUp M 13 (upd (M 13) 5 v)) :=
  Rel_move H (zUp_n _ _ (by decide)) (zUp_n _ _ (by decide)) (fun i hi => by rw [zUp_s, pk_un (by omega)])
theorem thr_5 {M : zS} {v : Int32} : zUp M 13 (upd (M 13) 5 v) 13 5 = v := by rw [zUp_s, pk_us]
theorem finds_0 (M : zS) : g_X7_finds M 0 = M 0 ∧ g_X7_finds M 1 = M 1 ∧ g_X7_finds M 13 = M 13 := by
  refine ⟨?_, ?_, ?_⟩ <;> simp [fr_X7_finds]
theorem Rel_fnd {C M : zS} (H : Rel C M) : Rel C (g_X7_finds M) := by
  obtain ⟨a, b, d⟩ := finds_0 M
  exact Rel_move H a b (fun i _ => by rw [d])
theorem Rel_kl {C M : zS} (H : Rel C M) : C 0 = M 0 ∧ C 1 = M 1 := ⟨H.1.1.2.2.1, H.1.1.2.2.2.2.1⟩
theorem eq_cash {C M : zS} (H : Rel C M) : f_X6_cash C = f_X7_cash M ∧ Rel C (g_X7_cash M) := ⟨by unfold f_X6_cash f_X2_cashNow f_X7_cash; rw [pk_un (by decide)]; exact H.2.2.1, Rel_thr H 0⟩
theorem eq_debt {C M : zS} (H : Rel C M) : f_X6_debt C = f_X7_debt M ∧ Rel C (g_X7_debt M) := ⟨by unfold f_X6_debt f_X2_debtNow f_X7_debt; rw [pk_un (by decide)]; exact H.2.2.2.1, Rel_thr H 0⟩
theorem eq_earned {C M : zS} (H : Rel C M) : f_X6_earned C = f_X7_earned M ∧ Rel C (g_X7_earned M) := ⟨by unfold f_X6_earned f_X2_earnedNow f_X7_earned; rw [pk_un (by decide)]; exact H.2.2.2.2.2.2, Rel_thr H 0⟩
theorem i10 : ¬ (1 : Int32) = 0 := by decide
theorem eq_kind {C M : zS} (H : Rel C M) (x : Int32) : LR nO (t_X6_kind C x) (f_X6_kind C x) (f_X7_kind M x) C C (g_X7_kind M x) := by
  unfold t_X6_kind f_X6_kind f_X7_kind g_X7_kind f_X0_kindOf
  rcases cell_c x with ⟨k, hk, rfl, h1, h2⟩ | ⟨h1, h2⟩
  · rw [h1, h2, if_neg i10, if_neg i10]
    refine LR.ans rfl thr_5 ?_ (Rel_thr H 0)
    rw [rg_nI hk (by decide), (Rel_kl H).1, nI_clamp (by omega)]
  · rw [h1, h2, if_pos rfl, if_pos rfl]
    exact LR.thr (xIO, 1) (by decide) rfl thr_5 (Rel_thr H 1)
theorem eq_levelC {C M : zS} (H : Rel C M) (x : Int32) : LR nO (t_X6_level C x) (f_X6_level C x) (f_X7_level M x) C C (g_X7_level M x) := by
  unfold t_X6_level f_X6_level f_X7_level g_X7_level f_X0_levelOf
  rcases cell_c x with ⟨k, hk, rfl, h1, h2⟩ | ⟨h1, h2⟩
  · rw [h1, h2, if_neg i10, if_neg i10]
    refine LR.ans rfl thr_5 ?_ (Rel_thr H 0)
    rw [rg_nI hk (by decide), (Rel_kl H).2, nI_clamp (by omega)]
  · rw [h1, h2, if_pos rfl, if_pos rfl]
    exact LR.thr (xIO, 1) (by decide) rfl thr_5 (Rel_thr H 1)
/-- calls that look at what is found -/
theorem miss_c {C M : zS} (H : Rel C M) (x : Int32) : (∃ k, k < 64 ∧ x = nI k ∧ t_X6_requireCell x = none ∧ f_X7_misses M x = 0 ∧ g_X7_misses M x 13 5 = 0 ∧ Rel C (g_X7_misses M x) ∧ sv (M 0) (M 1) C (g_X7_misses M x)) ∨ (t_X6_requireCell x = some xIO ∧ f_X7_misses M x = 1 ∧ g_X7_misses M x 13 5 = 1 ∧ Rel C (g_X7_misses M x)) := by
  unfold f_X7_misses g_X7_misses
  rcases cell_c x with ⟨k, hk, rfl, h1, h2⟩ | ⟨h1, h2⟩
  · left
    rw [h2, if_neg i10, if_neg i10, if_neg i10, if_neg i10]
    refine ⟨k, hk, rfl, h1, rfl, thr_5, Rel_thr (Rel_fnd H) 0, ?_⟩
    obtain ⟨hE, s2, s3, s4, s5, s6⟩ := H.1
    have fO : ∀ r, r ≠ 13 → zUp (g_X7_finds M) 13 (upd (g_X7_finds M 13) 5 0) r = g_X7_finds M r := fun r h => zUp_n _ _ h
    have f9 := fO 9 (by decide)
    refine ⟨⟨hE.1, mRd_congr hE.2.1 (fO 2 (by decide)) (fO 3 (by decide)) (fO 4 (by decide)), hE.2.2.1, (fO 0 (by decide)).trans hE.2.2.2.1, hE.2.2.2.2.1, (fO 1 (by decide)).trans hE.2.2.2.2.2⟩, ?_, ?_, ?_, ?_, ?_⟩
    · rw [fO 6 (by decide), fO 8 (by decide), fO 9 (by decide), fO 11 (by decide)]
      exact s2
    · rw [fO 10 (by decide)]
      exact s3
    · rw [f9]
      exact s4
    · rw [f9]
      exact s5
    · rw [f9]
      exact s6
  · right
    rw [h2, if_pos rfl, if_pos rfl, if_pos rfl, if_pos rfl]
    exact ⟨h1, rfl, thr_5, Rel_thr H 1⟩
theorem gs_net (M : zS) (x : Int32) : g_X7_net M x = g_X7_misses M x := by
  unfold g_X7_net
  exact ite_self _
theorem gs_placed (M : zS) (x : Int32) : g_X7_placed M x = g_X7_misses M x := by
  unfold g_X7_placed
  exact ite_self _
theorem gs_traffic (M : zS) (x : Int32) : g_X7_traffic M x = g_X7_misses M x := by
  unfold g_X7_traffic
  exact ite_self _
theorem gs_value (M : zS) (x : Int32) : g_X7_value M x = g_X7_misses M x := by
  unfold g_X7_value
  exact ite_self _
theorem gs_isServed (M : zS) (x : Int32) : g_X7_isServed M x = g_X7_misses M x := by
  unfold g_X7_isServed
  rw [ite_self, ite_self]
theorem gs_powerLeft (M : zS) (x : Int32) : g_X7_powerLeft M x = g_X7_misses M x := by
  unfold g_X7_powerLeft
  rw [ite_self, ite_self]
theorem eq_netC {C M : zS} (H : Rel C M) (x : Int32) : LR nO (t_X6_net C x) (f_X6_net C x) (f_X7_net M x) C C (g_X7_net M x) := by
  rw [gs_net]
  rcases miss_c H x with ⟨k, hk, rfl, h1, h2, h3, h4, h5⟩ | ⟨h1, h2, h3, h4⟩
  · refine LR.ans (by unfold t_X6_net; rw [h1]; rfl) h3 ?_ h4
    unfold f_X6_net f_X7_net 
    rw [if_pos h2, eq_net h5.1.1 h5.1.2.1 hk, nI_clamp (by omega)]
  · exact LR.thr (xIO, 1) (by decide) (by unfold t_X6_net; rw [h1]; rfl) h3 h4
theorem eq_placedC {C M : zS} (H : Rel C M) (x : Int32) : LR nO (t_X6_placed C x) (f_X6_placed C x) (f_X7_placed M x) C C (g_X7_placed M x) := by
  rw [gs_placed]
  rcases miss_c H x with ⟨k, hk, rfl, h1, h2, h3, h4, h5⟩ | ⟨h1, h2, h3, h4⟩
  · refine LR.ans (by unfold t_X6_placed; rw [h1]; rfl) h3 ?_ h4
    unfold f_X6_placed f_X7_placed f_X1_placedAt
    rw [if_pos h2, rg_nI hk (by decide), nI_clamp (by omega)]
    exact (h5.2.1 k hk).2.2.1
  · exact LR.thr (xIO, 1) (by decide) (by unfold t_X6_placed; rw [h1]; rfl) h3 h4
theorem eq_trafficC {C M : zS} (H : Rel C M) (x : Int32) : LR nO (t_X6_traffic C x) (f_X6_traffic C x) (f_X7_traffic M x) C C (g_X7_traffic M x) := by
  rw [gs_traffic]
  rcases miss_c H x with ⟨k, hk, rfl, h1, h2, h3, h4, h5⟩ | ⟨h1, h2, h3, h4⟩
  · refine LR.ans (by unfold t_X6_traffic; rw [h1]; rfl) h3 ?_ h4
    unfold f_X6_traffic f_X7_traffic f_X1_trafficOn
    rw [if_pos h2, rg_nI hk (by decide), nI_clamp (by omega)]
    exact (h5.2.1 k hk).2.2.2
  · exact LR.thr (xIO, 1) (by decide) (by unfold t_X6_traffic; rw [h1]; rfl) h3 h4
theorem eq_servedC {C M : zS} (H : Rel C M) (x : Int32) : LR nO (t_X6_isServed C x) (f_X6_isServed C x) (f_X7_isServed M x) C C (g_X7_isServed M x) := by
  rw [gs_isServed]
  rcases miss_c H x with ⟨k, hk, rfl, h1, h2, h3, h4, h5⟩ | ⟨h1, h2, h3, h4⟩
  · refine LR.ans (by unfold t_X6_isServed; rw [h1]; rfl) h3 ?_ h4
    unfold f_X6_isServed f_X7_isServed f_X5_serves
    rw [if_neg (not_not_intro h2), rg_nI hk (by decide), nI_clamp (by omega)]
    obtain ⟨e, z⟩ := (h5.2.1 k hk).2.1
    rw [e]
    rcases z with z | z
    · rw [z]
      decide
    · rw [z]
      decide
  · exact LR.thr (xIO, 1) (by decide) (by unfold t_X6_isServed; rw [h1]; rfl) h3 h4
theorem eq_valueC {C M : zS} (H : Rel C M) (x : Int32) : LR nO (t_X6_value C x) (f_X6_value C x) (f_X7_value M x) C C (g_X7_value M x) := by
  rw [gs_value]
  rcases miss_c H x with ⟨k, hk, rfl, h1, h2, h3, h4, h5⟩ | ⟨h1, h2, h3, h4⟩
  · refine LR.ans (by unfold t_X6_value; rw [h1]; rfl) h3 ?_ h4
    unfold f_X6_value f_X7_value 
    rw [if_pos h2, nI_clamp (by omega)]
    exact eq_value hk h5.1.2.2.1 (h5.1.1.1 k hk) (h5.1.2.1.1 k hk) h5.1.2.2.2.1 (fun j hj => (h5.2.1 j hj).2.2.2)
  · exact LR.thr (xIO, 1) (by decide) (by unfold t_X6_value; rw [h1]; rfl) h3 h4
theorem eq_powerC {C M : zS} (H : Rel C M) (x : Int32) : LR nO (t_X6_powerLeft C x) (f_X6_powerLeft C x) (f_X7_powerLeft M x) C C (g_X7_powerLeft M x) := by
  rw [gs_powerLeft]
  rcases miss_c H x with ⟨k, hk, rfl, h1, h2, h3, h4, h5⟩ | ⟨h1, h2, h3, h4⟩
  · refine LR.ans (by unfold t_X6_powerLeft; rw [h1]; exact ite_self _) h3 ?_ h4
    unfold f_X6_powerLeft f_X7_powerLeft f_X5_powerOf
    rw [if_neg (not_not_intro h2), nI_clamp (by omega), eq_net h5.1.1 h5.1.2.1 hk]
    have hr : rOK (g_X7_misses M (nI k) 3) k := miss_n h2 k hk
    rcases hr with z | z
    · rw [z, if_neg (not_not_intro rfl), if_neg (not_not_intro rfl)]
    · obtain ⟨u, hu, e⟩ := vp_in_of z (by decide)
      rw [e, if_pos (nI_m1 (by omega)), if_pos (nI_m1 (by omega)), rg_nI hu (by decide), nI_clamp (by omega)]
      exact (h5.2.1 u hu).1
  · exact LR.thr (xIO, 1) (by decide) (by unfold t_X6_powerLeft; rw [h1]; rfl) h3 h4
theorem eq_stepsC {C M : zS} (H : Rel C M) (x y : Int32) : LR nO (t_X6_steps C x y) (f_X6_steps C x y) (f_X7_steps M x y) C C (g_X7_steps M x y) := by
  rcases cell_c x with ⟨k, hk, rfl, h1, h2⟩ | ⟨h1, h2⟩
  · rcases cell_c y with ⟨j, hj, rfl, h3, h4⟩ | ⟨h3, h4⟩
    · have H' := Rel_thr H 0
      have hF := Rel_fnd H'
      have hv := H'.1
      have hg : g_X7_steps M (nI k) (nI j) = g_X7_finds (zUp M 13 (upd (M 13) 5 0)) := by
        unfold g_X7_steps
        rw [h2, h4, if_neg i10, if_neg i10, ite_self, ite_self]
      rw [hg]
      refine LR.ans (by unfold t_X6_steps; rw [h1, h3]; rfl) ?_ ?_ hF
      · rw [(finds_0 _).2.2]
        exact thr_5
      · unfold f_X6_steps f_X7_steps
        rw [h2, h4, if_neg i10, if_neg i10]
        rw [eq_bet hv.1.1 hv.1.2.1 hk hj, nI_clamp (by omega), nI_clamp (by omega)]
        generalize g_X7_finds (zUp M 13 (upd (M 13) 5 0)) = F
        rfl
    · have hg : g_X7_steps M (nI k) y = zUp M 13 (upd (M 13) 5 1) := by
        unfold g_X7_steps
        rw [h2, h4, if_neg i10, if_pos rfl]
      rw [hg]
      exact LR.thr (xIO, 1) (by decide) (by unfold t_X6_steps; rw [h1, h3]; rfl) thr_5 (Rel_thr H 1)
  · have hg : g_X7_steps M x y = zUp M 13 (upd (M 13) 5 1) := by
      unfold g_X7_steps
      rw [h2, if_pos rfl]
    rw [hg]
    exact LR.thr (xIO, 1) (by decide) (by unfold t_X6_steps; rw [h1]; rfl) thr_5 (Rel_thr H 1)
theorem eq_goingC {C M : zS} (H : Rel C M) (x y : Int32) : LR nO (t_X6_going C x y) (f_X6_going C x y) (f_X7_going M x y) C C (g_X7_going M x y) := by
  rcases cell_c x with ⟨k, hk, rfl, h1, h2⟩ | ⟨h1, h2⟩
  · rcases cell_c y with ⟨j, hj, rfl, h3, h4⟩ | ⟨h3, h4⟩
    · have H' := Rel_thr H 0
      have hF := Rel_fnd H'
      have hv := H'.1
      have hg : g_X7_going M (nI k) (nI j) = g_X7_finds (zUp M 13 (upd (M 13) 5 0)) := by
        unfold g_X7_going
        rw [h2, h4, if_neg i10, if_neg i10]
      rw [hg]
      refine LR.ans (by unfold t_X6_going; rw [h1, h3]; rfl) ?_ ?_ hF
      · rw [(finds_0 _).2.2]
        exact thr_5
      · unfold f_X6_going f_X7_going
        rw [h2, h4, if_neg i10, if_neg i10]
        rw [nI_clamp (by omega), nI_clamp (by omega)]
        exact hv.2.2.1 k j hk hj
    · have hg : g_X7_going M (nI k) y = zUp M 13 (upd (M 13) 5 1) := by
        unfold g_X7_going
        rw [h2, h4, if_neg i10, if_pos rfl]
      rw [hg]
      exact LR.thr (xIO, 1) (by decide) (by unfold t_X6_going; rw [h1, h3]; rfl) thr_5 (Rel_thr H 1)
  · have hg : g_X7_going M x y = zUp M 13 (upd (M 13) 5 1) := by
      unfold g_X7_going
      rw [h2, if_pos rfl]
    rw [hg]
    exact LR.thr (xIO, 1) (by decide) (by unfold t_X6_going; rw [h1]; rfl) thr_5 (Rel_thr H 1)
