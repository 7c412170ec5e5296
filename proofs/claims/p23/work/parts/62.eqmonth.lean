/-! A MONTH -/
def mny (C M : zS) : Prop := C 17 0 = M 13 0 ∧ C 17 1 = M 13 1 ∧ C 17 2 = M 13 3 ∧ C 17 3 = M 13 4 ∧ C 17 4 = M 13 2
def Rel (C M : zS) : Prop := sv (M 0) (M 1) C (g_X7_finds M) ∧ lvOK (M 1) ∧ mny C M
theorem close_0 {C : zS} {p u : Int32} : g_X2_closeMonth C p u 17 0 = C 17 0 + ((((p * C 17 2) + (p * C 17 3)) - u) - ((C 17 1 + 99) / 100)) := by
  unfold g_X2_closeMonth
  rw [zUp_s, pk_un (by decide), pk_us]
theorem close_4 {C : zS} {p u : Int32} : g_X2_closeMonth C p u 17 4 = C 17 4 + ((((p * C 17 2) + (p * C 17 3)) - u) - ((C 17 1 + 99) / 100)) := by
  unfold g_X2_closeMonth
  rw [zUp_s, pk_us, pk_un (by decide)]
theorem close_o {C : zS} {p u : Int32} {i : Nat} (h0 : i ≠ 0) (h4 : i ≠ 4) : g_X2_closeMonth C p u 17 i = C 17 i := by
  unfold g_X2_closeMonth
  rw [zUp_s, pk_un h4, pk_un h0]
theorem lv_both0 {K L : Nat → Int32} {C F S S' T Y : zS} {g : Int32} (hL : lvOK L) (hE : eqS K L C F) (hr : ∀ k, k < 64 → C 6 k = F 6 k ∧ (C 8 k = F 8 k ∧ (F 8 k = 0 ∨ F 8 k = 1)) ∧ C 9 k = F 9 k ∧ C 11 k = F 11 k) (hb : ∀ k, k < 64 → ∃ m, m ≤ 6 ∧ 2 * L k - F 9 k = nI m ∧ nI m ≤ 2 * L k) (hg : g = if F 13 0 < 0 then 0 else 1) (n : Nat) (hn : n = 64) (hT : T = lp_X6_changeLevels_2 S g C n) (hY : Y = lp_X7_lives_199 S' (lp_X7_lives_162 S' F n) n) : T 1 = Y 1 ∧ lvOK (Y 1) ∧ (∀ r, r ≠ 1 → T r = C r) ∧ ∀ r, r ≠ 1 → r ≠ 12 → Y r = F r := by
  obtain ⟨a1, a2, a3⟩ := c_lv (S := S) (T := C) (g := g) n (by omega)
  obtain ⟨b1, b2⟩ := m_162 (S := S') (T := F) n
  obtain ⟨d1, d2, d3⟩ := m_199 (S := S') (T := lp_X7_lives_162 S' F n) n
  rw [← hT] at a1 a2 a3
  rw [← hY] at d1 d2 d3
  generalize lp_X7_lives_162 S' F n = F2 at b1 b2 d1 d2 d3
  obtain ⟨e1, e2, e3, e4, e5, e6⟩ := hE
  have main : ∀ k, k < 64 → T 1 k = Y 1 k ∧ (Y 1 k = 0 ∨ Y 1 k = 1 ∨ Y 1 k = 2 ∨ Y 1 k = 3) := by
    intro k hk
    rw [d3 k (by omega), b1 1 (by decide), e6]
    by_cases z : isZ K k
    · have y1 := (a3 k (by omega)).1 (by rw [e3]; exact z)
      have y2 := (b2 k (by omega)).1 (by rw [e4]; exact z)
      have y3 := eq_level (g := g) hk e3 e4 (by rw [e5]) (by rw [e6]) (hL k hk) (e1.1 k hk) (e2.1 k hk) (fun j hj => (hr j hj).2.2.2) (hr k hk).2.2.1 (hr k hk).2.1 hg (hb k hk)
      rw [e6] at y3
      rw [y1, y2, ← y3]
      refine ⟨rfl, next_in ?_⟩
      unfold f_X0_levelOf
      rw [rg_nI hk (by decide), e5]
      exact hL k hk
    · have y1 := (a3 k (by omega)).2 (by rw [e3]; exact z)
      have y2 := (b2 k (by omega)).2 (by rw [e4]; exact z)
      rw [y1, y2, e5, Int32.add_zero]
      exact ⟨rfl, hL k hk⟩
  refine ⟨?_, fun k hk => (main k hk).2, a1, fun r x y => (d1 r x).trans (b1 r y)⟩
  funext k
  by_cases hk : k < 64
  · exact (main k hk).1
  · rw [a2 k (by omega), d2 k (by omega), b1 1 (by decide), e5, e6]
theorem lv_both {K L : Nat → Int32} {C F S' : zS} {g : Int32} (hL : lvOK L) (hE : eqS K L C F) (hr : ∀ k, k < 64 → C 6 k = F 6 k ∧ (C 8 k = F 8 k ∧ (F 8 k = 0 ∨ F 8 k = 1)) ∧ C 9 k = F 9 k ∧ C 11 k = F 11 k) (hb : ∀ k, k < 64 → ∃ m, m ≤ 6 ∧ 2 * L k - F 9 k = nI m ∧ nI m ≤ 2 * L k) (hg : g = if F 13 0 < 0 then 0 else 1) (T Y : zS) (hT : T = g_X6_changeLevels C g) (hY : Y = lp_X7_lives_199 S' (lp_X7_lives_162 S' F 64) 64) : T 1 = Y 1 ∧ lvOK (Y 1) ∧ (∀ r, r ≠ 1 → T r = C r) ∧ ∀ r, r ≠ 1 → r ≠ 12 → Y r = F r :=
  lv_both0 (S := C) hL hE hr hb hg 64 rfl (by rw [hT]; unfold g_X6_changeLevels; rfl) hY
