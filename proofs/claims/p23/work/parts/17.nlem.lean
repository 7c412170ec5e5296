/-! the reference's walk at its end; rows of roads -/
def rOK (f : Nat → Int32) (k : Nat) : Prop := f k = -1 ∨ vp_in (f k) 64
theorem rOK_upd {g : Nat → Int32} {i : Nat} {v : Int32} (h : ∀ k, k < i → rOK g k) (hv : v = -1 ∨ vp_in v 64) : ∀ k, k < i + 1 → rOK (upd g i v) k := by
  intro k hk
  unfold rOK upd
  by_cases e : k = i
  · rw [if_pos e]
    exact hv
  · rw [if_neg e]
    exact h k (by omega)
theorem rOK_upd2 {g : Nat → Int32} {n i : Nat} {v : Int32} (h : ∀ k, k < n → rOK g k) (hv : v = -1 ∨ vp_in v 64) : ∀ k, k < n → rOK (upd g i v) k := by
  intro k hk
  unfold rOK upd
  by_cases e : k = i
  · rw [if_pos e]
    exact hv
  · rw [if_neg e]
    exact h k hk
theorem at_ix2 {b : Nat} {x : Int32} (h : vp_in x 64) : 64 * x + nI b = nI (64 * x.toNatClampNeg + b) := by
  obtain ⟨j, hj, rfl⟩ := vp_in_of h (by decide)
  rw [nI_clamp (by omega), ← nI_add, ← pk_mul]
  rfl
theorem at_b2 {b : Nat} {x : Int32} (h : vp_in x 64) (hb : b < 64) : 64 * x.toNatClampNeg + b < 4096 := by
  have := vp_lt h
  omega
theorem at_ix3 {x y : Int32} (h : vp_in x 64) (h2 : vp_in y 64) : 64 * x + y = nI (64 * x.toNatClampNeg + y.toNatClampNeg) := by
  obtain ⟨j, hj, rfl⟩ := vp_in_of h2 (by decide)
  rw [nI_clamp (n := j) (by omega)]
  exact at_ix2 h
theorem at_b3 {x y : Int32} (h : vp_in x 64) (h2 : vp_in y 64) : 64 * x.toNatClampNeg + y.toNatClampNeg < 4096 := at_b2 h (vp_lt h2)
/-- what isn't the walk's own row stays -/
theorem walk_in_o {S : zS} {nf i nq v0 : Nat} {T62 : zS} (hJ : bJ (T62 0) nf (fun a => T62 4 (64 * nf + a)) (T62 5) i nq 0) (hi : i < nq) (hv0 : v0 < 64) (hqv : T62 5 i = nI v0) {b : Nat} (hb : b < 64 * nf ∨ 64 * nf + 64 ≤ b) : ∀ j, j ≤ 4 → (lp_X7_walks_82 S nf i nq T62 nq T62 j).2 4 b = T62 4 b
  | 0, _ => rfl
  | j + 1, hj => by
    have ih := walk_in_o (S := S) hJ hi hv0 hqv hb j (by omega)
    have hle := nb_le _ hv0 j (by omega)
    show (bd_X7_walks_82 S nf i nq T62 j (lp_X7_walks_82 S nf i nq T62 nq T62 j).1 (lp_X7_walks_82 S nf i nq T62 nq T62 j).2).2 4 b = _
    generalize (lp_X7_walks_82 S nf i nq T62 nq T62 j).1 = mq at ih ⊢
    generalize (lp_X7_walks_82 S nf i nq T62 nq T62 j).2 = T at ih ⊢
    have hto : f_X7_neighbour (T62 5 i) (nI j) = if nb v0 j = 64 then -1 else nI (nb v0 j) := by
      rw [hqv]
      exact nbX7 _ hv0 _ (by omega)
    unfold bd_X7_walks_82
    by_cases c1 : f_X7_isRoad T (f_X7_neighbour (T62 5 i) (nI j)) = 0
    · rw [if_pos c1]
      exact ih
    · rw [if_neg c1]
      obtain ⟨hb2, hte, hkr⟩ := isRoadX7 hto hle c1
      by_cases c2 : T 4 (64 * nf + (f_X7_neighbour (T62 5 i) (nI j)).toNatClampNeg) = -1
      · rw [if_neg (not_not_intro c2)]
        show upd (T 4) (64 * nf + (f_X7_neighbour (T62 5 i) (nI j)).toNatClampNeg) _ b = _
        rw [pk_un, ih]
        rw [hte, nI_clamp (by omega)]
        omega
      · rw [if_pos c2]
        exact ih
theorem walk_out_o {S : zS} {nf : Nat} {b : Nat} (hb : b < 64 * nf ∨ 64 * nf + 64 ≤ b) : ∀ (q i nq : Nat) (T : zS), bJ (T 0) nf (fun a => T 4 (64 * nf + a)) (T 5) i nq 0 → (lp_X7_walks_62 S nf q i nq T).2 4 b = T 4 b := by
  intro q
  induction q with
  | zero => intro i nq T H; rfl
  | succ q ih =>
    intro i nq T H
    have h1 : i ≤ nq := H.choose_spec.choose_spec.1.1
    have h64 := bJ_64 H
    rw [lp_X7_walks_62]
    by_cases c : nI nq ≤ nI i
    · rw [if_pos c]
    · rw [if_neg c]
      have h2 : i < nq := by
        rcases Nat.lt_or_ge i nq with z | z
        · exact z
        · exact absurd ((nI_leI (by omega) (by omega)).mpr z) c
      obtain ⟨v0, hv0, hqv, _⟩ := bJ_q H h2
      have h3 := walk_in (S := S) H h2 hv0 hqv 4 (Nat.le_refl 4)
      rw [ih (i + 1) _ _ (bJ_next h3.1)]
      exact walk_in_o H h2 hv0 hqv hb 4 (Nat.le_refl 4)
theorem lp7_0 (S : zS) (nf n : Nat) (T : zS) : (lp_X7_walks_7 S nf T n) 0 = T 0 := fr_lp_X7_walks_7 S nf T 0 (by decide) (by decide) n
theorem walks_row0 {S Y : zS} {nf : Nat} (hf : nf < 64) (hX : ∀ j, j < 64 → Y 4 (64 * nf + j) = -1) (h0 : Y 0 = S 0) (ho : ∀ b, (b < 64 * nf ∨ 64 * nf + 64 ≤ b) → Y 4 b = S 4 b) (q : Nat) (hq : q = 64) (g : zS) (hg : g = if ¬ Y 0 nf = 1 then (lp_X7_walks_62 S nf q 0 0 Y).2 else (lp_X7_walks_62 S nf q 0 1 (zUp (zUp Y 4 (upd (Y 4) (64 * nf + nf) 0)) 5 (upd (Y 5) 0 (nI nf)))).2) : wOK (S 0) nf (fun a => g 4 (64 * nf + a)) ∧ ∀ b, (b < 64 * nf ∨ 64 * nf + 64 ≤ b) → g 4 b = S 4 b := by
  by_cases c : Y 0 nf = 1
  · rw [if_neg (not_not_intro c)] at hg
    have hi := walk_init0 hf c hX
    refine ⟨Or.inl ⟨by rw [← h0]; exact c, ?_⟩, fun b hb => ?_⟩
    · have h1 := walk_out (S := S) q 0 1 _ hi (by omega)
      rw [← hg] at h1
      rw [← h0]
      exact h1
    · rw [hg, walk_out_o hb q 0 1 _ hi]
      show upd (Y 4) (64 * nf + nf) 0 b = _
      rw [pk_un (by omega)]
      exact ho b hb
  · rw [if_pos c] at hg
    have e : (lp_X7_walks_62 S nf q 0 0 Y) = (0, Y) := by
      cases q with
      | zero => rfl
      | succ q =>
        rw [lp_X7_walks_62]
        exact if_pos (Int32.le_refl _)
    rw [e] at hg
    rw [hg]
    exact ⟨Or.inr ⟨by rw [← h0]; exact c, hX⟩, ho⟩
theorem walks_row {S : zS} {nf : Nat} (hf : nf < 64) : wOK (S 0) nf (fun a => g_X7_walks S nf 4 (64 * nf + a)) ∧ ∀ b, (b < 64 * nf ∨ 64 * nf + 64 ≤ b) → g_X7_walks S nf 4 b = S 4 b :=
  walks_row0 hf (lp7_m1 S nf 64 S) (lp7_0 S nf 64 S) (fun b hb => by rw [lp7_4, if_neg (by omega)]) 64 rfl (g_X7_walks S nf) (by unfold g_X7_walks; rfl)
