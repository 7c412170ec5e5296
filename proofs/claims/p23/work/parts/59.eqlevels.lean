/-! LEVELS, all at once -/
theorem dn_in {v : Int32} (hv : v = 0 ∨ v = 1 ∨ v = 2 ∨ v = 3) (h : ¬ v ≤ 0) : v - 1 = 0 ∨ v - 1 = 1 ∨ v - 1 = 2 ∨ v - 1 = 3 := by
  rcases hv with z | z | z | z
  · rw [z] at h
    exact absurd (by decide) h
  all_goals (rw [z]; decide)
theorem up_in {v : Int32} (hv : v = 0 ∨ v = 1 ∨ v = 2 ∨ v = 3) (h : ¬ 3 ≤ v) : v + 1 = 0 ∨ v + 1 = 1 ∨ v + 1 = 2 ∨ v + 1 = 3 := by
  rcases hv with z | z | z | z
  · rw [z]
    decide
  · rw [z]
    decide
  · rw [z]
    decide
  · rw [z] at h
    exact absurd (by decide) h
theorem next_in {C : zS} {x g : Int32} (hv : f_X0_levelOf C x = 0 ∨ f_X0_levelOf C x = 1 ∨ f_X0_levelOf C x = 2 ∨ f_X0_levelOf C x = 3) : f_X6_nextLevel C x g = 0 ∨ f_X6_nextLevel C x g = 1 ∨ f_X6_nextLevel C x g = 2 ∨ f_X6_nextLevel C x g = 3 := by
  unfold f_X6_nextLevel
  generalize f_X0_levelOf C x = v at hv ⊢
  generalize f_X5_serves C x = a
  generalize f_X6_lacksPeople C x = b
  generalize f_X1_placedAt C x = c
  generalize f_X0_peopleOf C x = d
  generalize f_X6_valueOf C x = e
  repeat' split
  all_goals first | exact hv | exact Or.inl rfl | exact dn_in hv (by assumption) | exact up_in hv (by assumption)
theorem near_congr {S T : zS} {x y : Int32} (h : S 0 = T 0) : ∀ n, lp_X0_countNear_5 S x y 0 n = lp_X0_countNear_5 T x y 0 n
  | 0 => rfl
  | n + 1 => by
    show bd_X0_countNear_5 S x y n (lp_X0_countNear_5 S x y 0 n) = bd_X0_countNear_5 T x y n (lp_X0_countNear_5 T x y 0 n)
    rw [near_congr h n]
    unfold bd_X0_countNear_5
    rw [h]
theorem next_congr {S T : zS} {k : Nat} {g : Int32} (hk : k < 64) (h : ∀ r, r ≠ 1 → S r = T r) (h1 : S 1 k = T 1 k) : f_X6_nextLevel S (nI k) g = f_X6_nextLevel T (nI k) g := by
  have hv : f_X6_valueOf S (nI k) = f_X6_valueOf T (nI k) := by
    unfold f_X6_valueOf f_X0_countNear f_X3_roadOf f_X1_trafficOn
    rw [near_congr (h 0 (by decide)) 64, near_congr (h 0 (by decide)) 64, h 2 (by decide), h 11 (by decide)]
  have hl : f_X0_levelOf S (nI k) = f_X0_levelOf T (nI k) := by
    unfold f_X0_levelOf
    rw [rg_nI hk (by decide), rg_nI hk (by decide), h1]
  have hp : f_X0_peopleOf S (nI k) = f_X0_peopleOf T (nI k) := by
    unfold f_X0_peopleOf
    rw [rg_nI hk (by decide), rg_nI hk (by decide), h1]
  have hq : f_X6_lacksPeople S (nI k) = f_X6_lacksPeople T (nI k) := by
    unfold f_X6_lacksPeople
    rw [hp]
    unfold f_X0_kindOf f_X1_placedAt
    rw [h 0 (by decide), h 9 (by decide)]
  unfold f_X6_nextLevel
  rw [hv, hl, hp, hq]
  unfold f_X5_serves f_X1_placedAt
  rw [h 8 (by decide), h 9 (by decide)]
def isZ (K : Nat → Int32) (k : Nat) : Prop := K k = 2 ∨ K k = 3
theorem zoneC {S : zS} {k : Nat} (hk : k < 64) : f_X0_isZone S (nI k) = 0 ↔ ¬ isZ (S 0) k := by
  unfold f_X0_isZone isZ
  rw [rg_nI hk (by decide)]
  by_cases c : S 0 k = 2
  · simp [c]
  · by_cases d : S 0 k = 3
    · simp [d]
    · simp [c, d]
theorem zoneM {S : zS} {k : Nat} : f_X7_isZone S k = 0 ↔ ¬ isZ (S 0) k := by
  unfold f_X7_isZone isZ
  by_cases c : S 0 k = 2
  · simp [c]
  · by_cases d : S 0 k = 3
    · simp [d]
    · simp [c, d]
theorem c_lv {S T : zS} {g : Int32} : ∀ n, n ≤ 64 → (∀ r, r ≠ 1 → (lp_X6_changeLevels_2 S g T n) r = T r) ∧ (∀ k, n ≤ k → (lp_X6_changeLevels_2 S g T n) 1 k = T 1 k) ∧ ∀ k, k < n → (isZ (T 0) k → (lp_X6_changeLevels_2 S g T n) 1 k = f_X6_nextLevel T (nI k) g) ∧ (¬ isZ (T 0) k → (lp_X6_changeLevels_2 S g T n) 1 k = T 1 k) := by
  intro n
  induction n with
  | zero => intro _; exact ⟨fun _ _ => rfl, fun _ _ => rfl, fun k hk => absurd hk (Nat.not_lt_zero _)⟩
  | succ n ih =>
    intro hn
    obtain ⟨h1, h2, h3⟩ := ih (by omega)
    show (∀ r, r ≠ 1 → (bd_X6_changeLevels_2 S g n (lp_X6_changeLevels_2 S g T n)) r = T r) ∧ (∀ k, n + 1 ≤ k → (bd_X6_changeLevels_2 S g n (lp_X6_changeLevels_2 S g T n)) 1 k = T 1 k) ∧ ∀ k, k < n + 1 → (isZ (T 0) k → (bd_X6_changeLevels_2 S g n (lp_X6_changeLevels_2 S g T n)) 1 k = f_X6_nextLevel T (nI k) g) ∧ (¬ isZ (T 0) k → (bd_X6_changeLevels_2 S g n (lp_X6_changeLevels_2 S g T n)) 1 k = T 1 k)
    generalize lp_X6_changeLevels_2 S g T n = Y at h1 h2 h3 ⊢
    unfold bd_X6_changeLevels_2
    have hz := zoneC (S := Y) (show n < 64 by omega)
    rw [h1 0 (by decide)] at hz
    by_cases c : f_X0_isZone Y (nI n) = 0
    · rw [if_pos c]
      refine ⟨h1, fun k hk => h2 k (by omega), fun k hk => ?_⟩
      by_cases e : k = n
      · rw [e]
        exact ⟨fun z => absurd z (hz.mp c), fun _ => h2 n (Nat.le_refl _)⟩
      · exact h3 k (by omega)
    · rw [if_neg c]
      have hzz : isZ (T 0) n := by
        by_cases z : isZ (T 0) n
        · exact z
        · exact absurd (hz.mpr z) c
      unfold g_X0_changeLevel
      rw [rs_nI (by omega) (by decide), next_congr (by omega) h1 (h2 n (Nat.le_refl _))]
      refine ⟨fun r a => by rw [zUp_n _ _ a]; exact h1 r a, fun k hk => ?_, fun k hk => ?_⟩
      · show upd (Y 1) n _ k = _
        rw [pk_un (by omega)]
        exact h2 k (by omega)
      · show (_ → upd (Y 1) n _ k = _) ∧ (_ → upd (Y 1) n _ k = _)
        by_cases e : k = n
        · rw [e, pk_us]
          exact ⟨fun _ => rfl, fun z => absurd hzz z⟩
        · rw [pk_un e]
          exact h3 k (by omega)
theorem vo_congr {S T : zS} {k : Nat} (h : S 0 = T 0) : ∀ n, lp_X7_valueOf_5 S k 10 n = lp_X7_valueOf_5 T k 10 n
  | 0 => rfl
  | n + 1 => by
    show bd_X7_valueOf_5 S k n (lp_X7_valueOf_5 S k 10 n) = bd_X7_valueOf_5 T k n (lp_X7_valueOf_5 T k 10 n)
    rw [vo_congr h n]
    unfold bd_X7_valueOf_5
    rw [h]
theorem change_congr {S T : zS} {k : Nat} (h : ∀ r, r ≠ 12 → S r = T r) : f_X7_changeOf S k = f_X7_changeOf T k := by
  have hv : f_X7_valueOf S k = f_X7_valueOf T k := by
    unfold f_X7_valueOf
    rw [vo_congr (h 0 (by decide)) 64, h 0 (by decide), h 2 (by decide), h 11 (by decide)]
  unfold f_X7_changeOf
  rw [hv, h 8 (by decide), h 0 (by decide), h 1 (by decide), h 13 (by decide), h 9 (by decide)]
theorem m_162 {S T : zS} : ∀ n, (∀ r, r ≠ 12 → (lp_X7_lives_162 S T n) r = T r) ∧ ∀ k, k < n → (isZ (T 0) k → (lp_X7_lives_162 S T n) 12 k = f_X7_changeOf T k) ∧ (¬ isZ (T 0) k → (lp_X7_lives_162 S T n) 12 k = 0) := by
  intro n
  induction n with
  | zero => exact ⟨fun _ _ => rfl, fun k hk => absurd hk (Nat.not_lt_zero _)⟩
  | succ n ih =>
    obtain ⟨h1, h3⟩ := ih
    show (∀ r, r ≠ 12 → (bd_X7_lives_162 S n (lp_X7_lives_162 S T n)) r = T r) ∧ ∀ k, k < n + 1 → (isZ (T 0) k → (bd_X7_lives_162 S n (lp_X7_lives_162 S T n)) 12 k = f_X7_changeOf T k) ∧ (¬ isZ (T 0) k → (bd_X7_lives_162 S n (lp_X7_lives_162 S T n)) 12 k = 0)
    generalize lp_X7_lives_162 S T n = Y at h1 h3 ⊢
    unfold bd_X7_lives_162
    have hz := zoneM (S := Y) (k := n)
    rw [h1 0 (by decide)] at hz
    rw [change_congr h1]
    have key : ∀ v : Int32, (isZ (T 0) n → v = f_X7_changeOf T n) → (¬ isZ (T 0) n → v = 0) → (∀ r, r ≠ 12 → (zUp Y 12 (upd (Y 12) n v)) r = T r) ∧ ∀ k, k < n + 1 → (isZ (T 0) k → (zUp Y 12 (upd (Y 12) n v)) 12 k = f_X7_changeOf T k) ∧ (¬ isZ (T 0) k → (zUp Y 12 (upd (Y 12) n v)) 12 k = 0) := by
      intro v hv1 hv2
      refine ⟨fun r a => by rw [zUp_n _ _ a]; exact h1 r a, fun k hk => ?_⟩
      show (_ → upd (Y 12) n v k = _) ∧ (_ → upd (Y 12) n v k = _)
      by_cases e : k = n
      · rw [e, pk_us]
        exact ⟨hv1, hv2⟩
      · rw [pk_un e]
        exact h3 k (by omega)
    by_cases c : f_X7_isZone Y n = 0
    · rw [if_pos c]
      exact key 0 (fun z => absurd z (hz.mp c)) (fun _ => rfl)
    · rw [if_neg c]
      exact key _ (fun _ => rfl) (fun z => absurd (hz.mpr z) c)
theorem m_199 {S T : zS} : ∀ n, (∀ r, r ≠ 1 → (lp_X7_lives_199 S T n) r = T r) ∧ (∀ k, n ≤ k → (lp_X7_lives_199 S T n) 1 k = T 1 k) ∧ ∀ k, k < n → (lp_X7_lives_199 S T n) 1 k = T 1 k + T 12 k := by
  intro n
  induction n with
  | zero => exact ⟨fun _ _ => rfl, fun _ _ => rfl, fun k hk => absurd hk (Nat.not_lt_zero _)⟩
  | succ n ih =>
    obtain ⟨h1, h2, h3⟩ := ih
    show (∀ r, r ≠ 1 → (bd_X7_lives_199 S n (lp_X7_lives_199 S T n)) r = T r) ∧ (∀ k, n + 1 ≤ k → (bd_X7_lives_199 S n (lp_X7_lives_199 S T n)) 1 k = T 1 k) ∧ ∀ k, k < n + 1 → (bd_X7_lives_199 S n (lp_X7_lives_199 S T n)) 1 k = T 1 k + T 12 k
    generalize lp_X7_lives_199 S T n = Y at h1 h2 h3 ⊢
    unfold bd_X7_lives_199
    refine ⟨fun r a => by rw [zUp_n _ _ a]; exact h1 r a, fun k hk => ?_, fun k hk => ?_⟩
    · show upd (Y 1) n _ k = _
      rw [pk_un (by omega)]
      exact h2 k (by omega)
    · show upd (Y 1) n (Y 1 n + Y 12 n) k = _
      by_cases e : k = n
      · rw [e, pk_us, h2 n (Nat.le_refl _), h1 12 (by decide)]
      · rw [pk_un e]
        exact h3 k (by omega)
