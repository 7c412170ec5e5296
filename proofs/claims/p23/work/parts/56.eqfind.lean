/-! JOBS: found by both -/
theorem ksum_0 {K : Nat → Int32} {c : Int32} {g : Nat → Int32} : ∀ n, (∀ j, j < n → g j = 0) → ksum K c g n = 0
  | 0, _ => rfl
  | n + 1, h => by
    unfold ksum
    rw [ksum_0 n (fun j hj => h j (by omega)), h n (by omega)]
    by_cases e : K n = c
    · rw [if_pos e]
      rfl
    · rw [if_neg e]
      rfl
theorem c_23 {S T : zS} : ∀ n, n ≤ 64 → (∀ r, r ≠ 10 → (lp_X1_find_23 S T n) r = T r) ∧ ∀ k, k < n → (lp_X1_find_23 S T n) 10 k = 2 * T 1 k := by
  intro n
  induction n with
  | zero => intro _; exact ⟨fun _ _ => rfl, fun k hk => absurd hk (Nat.not_lt_zero _)⟩
  | succ n ih =>
    intro hn
    obtain ⟨h1, h2⟩ := ih (by omega)
    show (∀ r, r ≠ 10 → (bd_X1_find_23 S n (lp_X1_find_23 S T n)) r = T r) ∧ ∀ k, k < n + 1 → (bd_X1_find_23 S n (lp_X1_find_23 S T n)) 10 k = 2 * T 1 k
    generalize lp_X1_find_23 S T n = Y at h1 h2 ⊢
    unfold bd_X1_find_23 f_X0_peopleOf
    rw [rg_nI (by omega) (by decide), rs_nI (by omega) (by decide)]
    refine ⟨fun r a => ?_, fun k hk => ?_⟩
    · rw [zUp_n _ _ a]
      exact h1 r a
    · show upd (Y 10) n (2 * Y 1 n) k = _
      by_cases e : k = n
      · rw [e, pk_us, h1 1 (by decide)]
      · rw [pk_un e]
        exact h2 k (by omega)
theorem m_w2 {S T : zS} : ∀ n, (∀ r, r ≠ 9 → r ≠ 11 → (lp_X7_works_2 S T n) r = T r) ∧ ∀ k, k < n → (lp_X7_works_2 S T n) 9 k = 0 ∧ (lp_X7_works_2 S T n) 11 k = 0 := by
  intro n
  induction n with
  | zero => exact ⟨fun _ _ _ => rfl, fun k hk => absurd hk (Nat.not_lt_zero _)⟩
  | succ n ih =>
    obtain ⟨h1, h2⟩ := ih
    show (∀ r, r ≠ 9 → r ≠ 11 → (bd_X7_works_2 S n (lp_X7_works_2 S T n)) r = T r) ∧ ∀ k, k < n + 1 → (bd_X7_works_2 S n (lp_X7_works_2 S T n)) 9 k = 0 ∧ (bd_X7_works_2 S n (lp_X7_works_2 S T n)) 11 k = 0
    generalize lp_X7_works_2 S T n = Y at h1 h2 ⊢
    unfold bd_X7_works_2
    refine ⟨fun r a b => ?_, fun k hk => ?_⟩
    · rw [zUp_n _ _ b, zUp_n _ _ a]
      exact h1 r a b
    · show upd (Y 9) n 0 k = 0 ∧ upd (Y 11) n 0 k = 0
      by_cases e : k = n
      · rw [e, pk_us, pk_us]
        exact ⟨rfl, rfl⟩
      · rw [pk_un e, pk_un e]
        exact h2 k (by omega)
theorem m_w30 {S T : zS} : ∀ n, (∀ r, r ≠ 10 → (lp_X7_works_30 S T n) r = T r) ∧ ∀ k, k < n → (lp_X7_works_30 S T n) 10 k = 0 := by
  intro n
  induction n with
  | zero => exact ⟨fun _ _ => rfl, fun k hk => absurd hk (Nat.not_lt_zero _)⟩
  | succ n ih =>
    obtain ⟨h1, h2⟩ := ih
    show (∀ r, r ≠ 10 → (bd_X7_works_30 S n (lp_X7_works_30 S T n)) r = T r) ∧ ∀ k, k < n + 1 → (bd_X7_works_30 S n (lp_X7_works_30 S T n)) 10 k = 0
    generalize lp_X7_works_30 S T n = Y at h1 h2 ⊢
    unfold bd_X7_works_30
    refine ⟨fun r a => ?_, fun k hk => ?_⟩
    · rw [zUp_n _ _ a]
      exact h1 r a
    · show upd (Y 10) n 0 k = 0
      by_cases e : k = n
      · rw [e, pk_us]
      · rw [pk_un e]
        exact h2 k (by omega)
theorem gb_f {S : zS} {n a b : Nat} {v : Int32} (hn : n ≤ 64) (hy : ∀ i, i < n → S 12 i = nI a → S 13 i = nI b → S 14 i = v) (hno : (∀ i, i < n → ¬ (S 12 i = nI a ∧ S 13 i = nI b)) → v = 0) : ∀ q i, i + q = n → (∀ j, j < i → ¬ (S 12 j = nI a ∧ S 13 j = nI b)) → lp_X1_goingBetween_2 S (nI a) (nI b) q i = v := by
  intro q
  induction q with
  | zero =>
    intro i hi h
    have e : i = n := hi
    rw [e] at h
    exact (hno h).symm
  | succ q ih =>
    intro i hi h
    rw [lp_X1_goingBetween_2, rg_nI (show i < 64 by omega) (by decide), rg_nI (show i < 64 by omega) (by decide), rg_nI (show i < 64 by omega) (by decide)]
    have go : ¬ (S 12 i = nI a ∧ S 13 i = nI b) → lp_X1_goingBetween_2 S (nI a) (nI b) q (i + 1) = v := fun z => ih (i + 1) (by omega) (fun j hj => by
      by_cases e : j = i
      · rw [e]
        exact z
      · exact h j (by omega))
    by_cases c : S 12 i = nI a
    · rw [if_neg (not_not_intro c)]
      by_cases d : S 13 i = nI b
      · rw [if_neg (not_not_intro d)]
        exact hy i (by omega) c d
      · rw [if_pos d]
        exact go (fun z => d z.2)
    · rw [if_pos c]
      exact go (fun z => c z.1)
theorem ap_f {S : zS} : ∀ n, n ≤ 64 → lp_X1_allPlaced_4 S 0 n = sums (S 14) n
  | 0, _ => rfl
  | n + 1, hn => by
    show bd_X1_allPlaced_4 S n (lp_X1_allPlaced_4 S 0 n) = sums (S 14) n + S 14 n
    unfold bd_X1_allPlaced_4
    rw [ap_f n (by omega), rg_nI (by omega) (by decide)]
/-- what both find of jobs and traffic -/
def eqJ (K L : Nat → Int32) (C M T Y : zS) : Prop := (∀ r, r ≠ 9 → r ≠ 10 → r ≠ 11 → r ≠ 12 → r ≠ 13 → r ≠ 14 → r ≠ 16 → T r = C r) ∧ (∀ r, r ≠ 9 → r ≠ 10 → r ≠ 11 → Y r = M r) ∧
  (∀ k, k < 64 → T 9 k = Y 9 k ∧ T 11 k = Y 11 k) ∧ (∀ a b, a < 64 → b < 64 → f_X1_goingBetween T (nI a) (nI b) = Y 10 (64 * a + b)) ∧
  f_X1_allPlaced T = ksum K 2 (Y 9) 64 ∧ f_X1_allPlaced T = ksum K 3 (Y 9) 64 ∧ ∀ k, k < 64 → ∃ m, m ≤ 6 ∧ 2 * L k - Y 9 k = nI m ∧ nI m ≤ 2 * L k
theorem JR_fin {K L : Nat → Int32} {F M S P Y T : zS} {n : Nat} {ha tb : Nat → Nat} (H : JRn K L F M P Y n ha tb) (hF : ∀ k, k < 64 → F 11 k = 0) (hT : T = lp_X1_find_73 S P n) : (∀ r, r ≠ 9 → r ≠ 10 → r ≠ 11 → r ≠ 12 → r ≠ 13 → r ≠ 14 → r ≠ 16 → T r = F r) ∧ (∀ r, r ≠ 9 → r ≠ 10 → r ≠ 11 → Y r = M r) ∧
  (∀ k, k < 64 → T 9 k = Y 9 k ∧ T 11 k = Y 11 k) ∧ (∀ a b, a < 64 → b < 64 → f_X1_goingBetween T (nI a) (nI b) = Y 10 (64 * a + b)) ∧
  f_X1_allPlaced T = ksum K 2 (Y 9) 64 ∧ f_X1_allPlaced T = ksum K 3 (Y 9) 64 ∧ ∀ k, k < 64 → ∃ m, m ≤ 6 ∧ 2 * L k - Y 9 k = nI m ∧ nI m ≤ 2 * L k := by
  have hr : ∀ r, r ≠ 11 → T r = P r := fun r h => by rw [hT, lp73_r _ _ _ h]
  have h11 := H.w S P (H.t 2 (by decide) (by decide) (by decide) (by decide) (by decide) (by decide)) (H.t 4 (by decide) (by decide) (by decide) (by decide) (by decide) (by decide)) (fun _ _ => ⟨rfl, rfl, rfl⟩) (fun k hk => by rw [H.t 11 (by decide) (by decide) (by decide) (by decide) (by decide) (by decide)]; exact hF k hk)
  rw [← hT] at h11
  have hn : n ≤ 64 := Nat.le_trans H.cn (cnt_le _ _)
  have c16 : (T 16 0).toNatClampNeg = n := by
    rw [hr 16 (by decide), H.c16]
    exact nI_clamp (by omega)
  have hs : f_X1_allPlaced T = sums (P 14) n := by
    unfold f_X1_allPlaced
    rw [c16, ap_f n hn, hr 14 (by decide)]
  refine ⟨fun r a b c d e f g => by rw [hr r c]; exact H.t r a b d e f g, H.y, fun k hk => ⟨by rw [hr 9 (by decide)]; exact H.p9 k hk, h11 k hk⟩, fun a b h1 h2 => ?_, hs.trans H.s2, hs.trans H.s3, fun k hk => ?_⟩
  · unfold f_X1_goingBetween
    rw [c16]
    refine gb_f hn (fun i hi z1 z2 => ?_) (fun hno => ?_) n 0 (by omega) (fun j hj => absurd hj (Nat.not_lt_zero _))
    · obtain ⟨g1, g2, g3, g4, g5, g6, g7, g8⟩ := H.tr i hi
      rw [hr 12 (by decide), g5] at z1
      rw [hr 13 (by decide), g6] at z2
      have y1 := nI_inj (by omega) (by omega) z1
      have y2 := nI_inj (by omega) (by omega) z2
      rw [hr 14 (by decide), ← g8, y1, y2]
    · refine H.no a b h1 h2 (fun i hi z => hno i hi ?_)
      obtain ⟨g1, g2, g3, g4, g5, g6, g7, g8⟩ := H.tr i hi
      rw [hr 12 (by decide), hr 13 (by decide), g5, g6, z.1, z.2]
      exact ⟨rfl, rfl⟩
  · rw [← H.fr k hk]
    obtain ⟨m, hm, e⟩ := H.nn k hk
    exact ⟨m, hm, e, by rw [← e]; exact H.ub k hk⟩
theorem lv2 {x : Int32} (h : x = 0 ∨ x = 1 ∨ x = 2 ∨ x = 3) : ∃ m, m ≤ 6 ∧ 2 * x = nI m := by
  rcases h with z | z | z | z <;> rw [z]
  · exact ⟨0, by omega, by decide⟩
  · exact ⟨2, by omega, by decide⟩
  · exact ⟨4, by omega, by decide⟩
  · exact ⟨6, by omega, by decide⟩
theorem eq_jobs0 {K L : Nat → Int32} {C M : zS} (hE : eqS K L C M) (hL : lvOK L) (n n4 : Nat) (hn : n = 64) (h4 : n4 = 4096) (F P T Y : zS) (hF : F = zUp (zUp (zUp C 9 (rf 64 (C 9) 0)) 11 (rf 64 (C 11) 0)) 16 (upd (C 16) 0 0)) (hP : P = lp_X1_find_50 C (lp_X1_find_23 C F n) (C 15 0).toNatClampNeg) (hT : T = lp_X1_find_73 C P (P 16 0).toNatClampNeg) (hY : Y = lp_X7_works_52 M (lp_X7_works_30 M (lp_X7_works_2 M M n) n4) n) : eqJ K L C M T Y ∧ ∃ m, m ≤ 64 ∧ JX K Y m := by
  obtain ⟨a1, a2⟩ := m_w2 (S := M) (T := M) n
  generalize lp_X7_works_2 M M n = M2 at a1 a2 hY
  obtain ⟨b1, b2⟩ := m_w30 (S := M) (T := M2) n4
  generalize lp_X7_works_30 M M2 n4 = M3 at b1 b2 hY
  obtain ⟨d1, d2⟩ := c_23 (S := C) (T := F) n (by omega)
  generalize lp_X1_find_23 C F n = T1 at d1 d2 hP
  have f1 : ∀ r, r ≠ 9 → r ≠ 11 → r ≠ 16 → F r = C r := fun r x y z => by rw [hF, zUp_n _ _ z, zUp_n _ _ y, zUp_n _ _ x]
  have f9 : ∀ k, k < 64 → F 9 k = 0 := fun k hk => by
    rw [hF]
    show rf 64 (C 9) 0 k = 0
    unfold rf
    rw [if_pos hk]
  have f11 : ∀ k, k < 64 → F 11 k = 0 := fun k hk => by
    rw [hF]
    show rf 64 (C 11) 0 k = 0
    unfold rf
    rw [if_pos hk]
  have f16 : F 16 0 = 0 := by
    rw [hF]
    show upd (C 16) 0 0 0 = 0
    rw [pk_us]
  have m9 : ∀ k, k < 64 → M3 9 k = 0 := fun k hk => by
    rw [b1 9 (by decide)]
    exact (a2 k (by omega)).1
  have m11 : ∀ k, k < 64 → M3 11 k = 0 := fun k hk => by
    rw [b1 11 (by decide)]
    exact (a2 k (by omega)).2
  have hE' : eqS K L F M := by
    obtain ⟨e1, e2, e3, e4, e5, e6⟩ := hE
    exact ⟨cRd_congr e1 (f1 2 (by decide) (by decide) (by decide)) (f1 3 (by decide) (by decide) (by decide)) (f1 4 (by decide) (by decide) (by decide)) (f1 15 (by decide) (by decide) (by decide)), e2, (f1 0 (by decide) (by decide) (by decide)).trans e3, e4, (f1 1 (by decide) (by decide) (by decide)).trans e5, e6⟩
  have t10 : ∀ k, k < 64 → T1 10 k = 2 * L k := fun k hk => by rw [d2 k (by omega), hE'.2.2.2.2.1]
  have H0 : JR K L F M T1 M3 := ⟨0, fun _ => 0, fun _ => 0, ⟨fun r _ x _ _ _ _ => d1 r x, fun r x y z => (b1 r y).trans (a1 r x z), fun k hk => by rw [d1 9 (by decide), f9 k hk, m9 k hk], fun k hk => by rw [t10 k hk, m9 k hk, Int32.sub_zero], fun k hk => by rw [t10 k hk]; exact lv2 (hL k hk), by rw [d1 16 (by decide), f16]; rfl, Nat.zero_le _, fun i hi => absurd hi (Nat.not_lt_zero _), fun a b ha hb _ => b2 _ (by omega), fun S Z _ _ _ z k hk => by show Z 11 k = _; rw [z k hk, m11 k hk], (ksum_0 64 m9).symm, (ksum_0 64 m9).symm, fun k hk => by rw [t10 k hk]; exact Int32.le_refl _⟩, fun k hk _ => (m9 k hk).trans (ksum_0 64 (fun j hj => b2 _ (by omega))).symm, fun k hk _ => (m9 k hk).trans (ksum_0 64 (fun j hj => b2 _ (by omega))).symm, fun k hk => ⟨0, Nat.zero_le _, m11 k hk, Or.inr rfl⟩⟩
  have H1 := eq_50 (S := C) (S' := M) hE' H0 n (by omega)
  have hr := roads_le K
  have hc : (C 15 0).toNatClampNeg = min n (roads K) := by
    rw [hE.1.2.1, nI_clamp (by omega), Nat.min_eq_right (by omega)]
  rw [← hc, ← hP, ← hY] at H1
  obtain ⟨m, ha, tb, H, X⟩ := H1
  have hm : m ≤ 64 := Nat.le_trans H.cn (cnt_le _ _)
  rw [H.c16, nI_clamp (by omega)] at hT
  obtain ⟨g1, g2⟩ := JR_fin H f11 hT
  exact ⟨⟨fun r a b c d e f g => (g1 r a b c d e f g).trans (f1 r a c g), g2⟩, m, hm, X⟩
/-- jobs, trips and traffic of the class are the reference's -/
theorem eq_jobs {K L : Nat → Int32} {C M : zS} (hE : eqS K L C M) (hL : lvOK L) : eqJ K L C M (g_X1_find C) (g_X7_works M) :=
  (eq_jobs0 hE hL 64 4096 rfl rfl _ _ (g_X1_find C) (g_X7_works M) rfl rfl (by unfold g_X1_find; rfl) (by unfold g_X7_works; rfl)).1
theorem jx_works {K L : Nat → Int32} {C M : zS} (hE : eqS K L C M) (hL : lvOK L) : ∃ m, m ≤ 64 ∧ JX K (g_X7_works M) m :=
  (eq_jobs0 hE hL 64 4096 rfl rfl _ _ (g_X1_find C) (g_X7_works M) rfl rfl (by unfold g_X1_find; rfl) (by unfold g_X7_works; rfl)).2
