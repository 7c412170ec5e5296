/-! JOBS, one trip -/
theorem take_no {S : zS} {xh xt xp : Int32} (h : xp ≤ 0) : g_X1_take S xh xt xp = S := by
  unfold g_X1_take
  rw [if_pos h]
theorem take_9 {S : zS} {a b : Nat} {p : Int32} (h : ¬ p ≤ 0) (ha : a < 64) (hb : b < 64) : g_X1_take S (nI a) (nI b) p 9 = upd (upd (S 9) a (S 9 a + p)) b (upd (S 9) a (S 9 a + p) b + p) := by
  unfold g_X1_take
  rw [if_neg h, ← ra_nI ha (by decide), ← ra_nI hb (by decide)]
  rfl
theorem take_10 {S : zS} {a b : Nat} {p : Int32} (h : ¬ p ≤ 0) (ha : a < 64) (hb : b < 64) : g_X1_take S (nI a) (nI b) p 10 = upd (upd (S 10) a (S 10 a + -p)) b (upd (S 10) a (S 10 a + -p) b + -p) := by
  unfold g_X1_take
  rw [if_neg h, ← ra_nI ha (by decide), ← ra_nI hb (by decide)]
  rfl
theorem take_12 {S : zS} {n : Nat} {x y p : Int32} (h : ¬ p ≤ 0) (hn : n < 64) (hS : S 16 0 = nI n) : g_X1_take S x y p 12 = upd (S 12) n x := by
  unfold g_X1_take
  rw [if_neg h, ← rs_nI hn (by decide), ← hS]
  rfl
theorem take_13 {S : zS} {n : Nat} {x y p : Int32} (h : ¬ p ≤ 0) (hn : n < 64) (hS : S 16 0 = nI n) : g_X1_take S x y p 13 = upd (S 13) n y := by
  unfold g_X1_take
  rw [if_neg h, ← rs_nI hn (by decide), ← hS]
  rfl
theorem take_14 {S : zS} {n : Nat} {x y p : Int32} (h : ¬ p ≤ 0) (hn : n < 64) (hS : S 16 0 = nI n) : g_X1_take S x y p 14 = upd (S 14) n p := by
  unfold g_X1_take
  rw [if_neg h, ← rs_nI hn (by decide), ← hS]
  rfl
theorem take_16 {S : zS} {n : Nat} {x y p : Int32} (h : ¬ p ≤ 0) (hS : S 16 0 = nI n) : g_X1_take S x y p 16 0 = nI (n + 1) := by
  rw [nI_succ, ← hS]
  unfold g_X1_take
  rw [if_neg h, zUp_s, pk_us]
  rfl
theorem mBet_in {K : Nat → Int32} {M : zS} (hM : mRd K M) {a b u : Nat} (ha : a < 64) (hb : b < 64) (hu : u < 64) (h : mBet M a b = nI u) : ∃ x y l, x < 64 ∧ y < 64 ∧ l < 64 ∧ M 2 a = nI x ∧ M 2 b = nI y ∧ K y = 1 ∧ M 4 (64 * x + y) = nI u ∧ M 4 (64 * y + x) = nI l ∧ FS K y (fun j => M 4 (64 * y + j)) ∧ u < roads K := by
  have hr := roads_le K
  unfold mBet at h
  rcases rdI_in K ha with z | ⟨x, hx, ex, kx⟩
  · rw [if_pos ((hM.1 a ha).trans z)] at h
    exact absurd h.symm (nI_m1 (by omega))
  · have e2 := (hM.1 a ha).trans ex
    rw [e2, if_neg (nI_m1 (by omega))] at h
    rcases rdI_in K hb with z | ⟨y, hy, ey, ky⟩
    · rw [if_neg (not_not_intro ((hM.1 b hb).trans z))] at h
      exact absurd h.symm (nI_m1 (by omega))
    · have e3 := (hM.1 b hb).trans ey
      rw [e3, if_pos (nI_m1 (by omega)), nI_clamp (by omega), nI_clamp (by omega)] at h
      have hne : M 4 (64 * x + y) ≠ -1 := by
        rw [h]
        exact nI_m1 (by omega)
      have hlt : u < roads K := by
        rcases hM.2.1 x hx with ⟨_, f⟩ | ⟨k, _⟩
        · rcases f.2.1 y hy with z | ⟨l, l1, l2, _⟩
          · exact absurd z hne
          · have l3 : M 4 (64 * x + y) = nI l := l2
            rw [h] at l3
            have := nI_inj (by omega) (by omega) l3
            omega
        · exact absurd kx k
      have hb2 := wOK_symI hM.2.1 hx hy hne
      rcases hM.2.1 y hy with ⟨_, f⟩ | ⟨k, _⟩
      · rcases f.2.1 x hx with z | ⟨l, l1, l2, _⟩
        · exact absurd z hb2
        · exact ⟨x, y, l, hx, hy, by omega, e2, e3, ky, h, l2, f, hlt⟩
      · exact absurd ky k
theorem goes_11 {K : Nat → Int32} {C M W Y : zS} {a b u x y l : Nat} {p xf : Int32} (hC : cRd K C) (hM : mRd K M) (w4 : W 4 = C 4) (y0 : Y 0 = K) (y2 : Y 2 = M 2) (y4 : Y 4 = M 4) (hx : x < 64) (hy : y < 64) (hl : l < 64) (ea : M 2 a = nI x) (eb : M 2 b = nI y) (el : M 4 (64 * y + x) = nI l) (hF : FS K y (fun j => M 4 (64 * y + j))) (h11 : ∀ k, k < 64 → W 11 k = Y 11 k) : ∀ k, k < 64 → (g_X1_walk W (nI x) (nI y) p) 11 k = (g_X7_goes Y a b p) 11 k := by
  intro k hk
  unfold g_X1_walk g_X7_goes
  rw [y2, ea, ra_nI hx (by decide), nI_clamp (by omega)]
  refine eq_walk hy (by rw [y2]; exact eb) 64 0 0 x l (zUp W 11 (upd (W 11) x (W 11 x + p))) _ hx hl ?_ (fun j hj => ?_) ?_ (fun i hi => ?_) k hk
  · show FS (Y 0) y (fun j => Y 4 (64 * y + j))
    rw [y0, y4]
    exact hF
  · show W 4 (64 * y + j) = Y 4 (64 * y + j)
    rw [w4, y4]
    exact eq_d hC hM hy hj
  · show Y 4 (64 * y + x) = nI l
    rw [y4]
    exact el
  · show upd (W 11) x (W 11 x + p) i = upd (Y 11) x (Y 11 x + p) i
    by_cases e : i = x
    · rw [e, pk_us, pk_us, h11 x hx]
    · rw [pk_un e, pk_un e]
      exact h11 i hi
theorem lp59_9 (S : zS) (nh nt : Nat) (xm : Int32) : ∀ (q gi : Nat) (h : Int32) (T : zS), (lp_X7_goes_59 S nh nt xm q gi h T).2 9 = T 9 ∧ (lp_X7_goes_59 S nh nt xm q gi h T).2 10 = T 10 := by
  intro q
  induction q with
  | zero => intros; exact ⟨rfl, rfl⟩
  | succ q ih =>
    intro gi h T
    rw [lp_X7_goes_59]
    by_cases c : h = S 2 nt
    · rw [if_pos c]
      exact ⟨rfl, rfl⟩
    · rw [if_neg c]
      exact ih _ _ _
theorem goes_9 (S : zS) (a b : Nat) (p : Int32) : g_X7_goes S a b p 9 = upd (upd (S 9) a (S 9 a + p)) b (upd (S 9) a (S 9 a + p) b + p) := by
  unfold g_X7_goes
  rw [(lp59_9 _ _ _ _ _ _ _ _).1]
  rfl
theorem goes_10 (S : zS) (a b : Nat) (p : Int32) : g_X7_goes S a b p 10 = upd (S 10) (64 * a + b) p := by
  unfold g_X7_goes
  rw [(lp59_9 _ _ _ _ _ _ _ _).2]
  rfl
