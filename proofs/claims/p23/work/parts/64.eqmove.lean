/-- what the reference finds hangs on kinds and levels alone -/
theorem sv_move0 {K L : Nat → Int32} {C X F F' : zS} (h : sv K L C F) (x : sv K L X F) (x' : sv K L X F') : sv K L C F' := by
  obtain ⟨hE, s2, s3, s4, s5, s6⟩ := h
  obtain ⟨-, x2, x3, -, -, -⟩ := x
  obtain ⟨zE, z2, z3, -, -, z6⟩ := x'
  have e9 : ∀ k, k < 64 → F 9 k = F' 9 k := fun k hk => (x2 k hk).2.2.1.symm.trans (z2 k hk).2.2.1
  refine ⟨⟨hE.1, zE.2.1, hE.2.2.1, zE.2.2.2.1, hE.2.2.2.2.1, zE.2.2.2.2.2⟩, fun k hk => ⟨?_, ⟨?_, (z2 k hk).2.1.2⟩, ?_, ?_⟩, fun a b ha hb => ?_, ?_, ?_, z6⟩
  · exact (s2 k hk).1.trans ((x2 k hk).1.symm.trans (z2 k hk).1)
  · exact (s2 k hk).2.1.1.trans ((x2 k hk).2.1.1.symm.trans (z2 k hk).2.1.1)
  · exact (s2 k hk).2.2.1.trans (e9 k hk)
  · exact (s2 k hk).2.2.2.trans ((x2 k hk).2.2.2.symm.trans (z2 k hk).2.2.2)
  · exact (s3 a b ha hb).trans ((x3 a b ha hb).symm.trans (z3 a b ha hb))
  · exact s4.trans (ksum_congr 64 (fun j hj _ => e9 j hj))
  · exact s5.trans (ksum_congr 64 (fun j hj _ => e9 j hj))
theorem sv_move {K L : Nat → Int32} {C M M' : zS} (h : sv K L C (g_X7_finds M)) (c0 : C 0 = K) (c1 : C 1 = L) (m0 : M 0 = K) (m1 : M 1 = L) (m0' : M' 0 = K) (m1' : M' 1 = L) (hL : lvOK L) : sv K L C (g_X7_finds M') :=
  sv_move0 h (sv_survey (C := C) c0 m0 c1 m1 hL) (sv_survey (C := C) c0 m0' c1 m1' hL)
/-- Rel hangs on kinds, levels and money alone -/
theorem Rel_move {C M M' : zS} (H : Rel C M) (m0 : M' 0 = M 0) (m1 : M' 1 = M 1) (m13 : ∀ i, i < 5 → M' 13 i = M 13 i) : Rel C M' := by
  obtain ⟨h1, h2, n0, n1, n2, n3, n4⟩ := H
  have hE := h1.1
  refine ⟨?_, ?_, ?_⟩
  · rw [m0, m1]
    exact sv_move h1 hE.2.2.1 hE.2.2.2.2.1 rfl rfl m0 m1 h2
  · rw [m1]
    exact h2
  · unfold mny
    rw [m13 0 (by decide), m13 1 (by decide), m13 2 (by decide), m13 3 (by decide), m13 4 (by decide)]
    exact ⟨n0, n1, n2, n3, n4⟩
theorem eq_months {C M S S' : zS} {m m' : Int32} (H : Rel C M) : ∀ n, Rel (lp_X6_pass_17 S m C n) (lp_X7_pass_31 S' m' M n)
  | 0 => H
  | n + 1 => eq_month (eq_months H n)
