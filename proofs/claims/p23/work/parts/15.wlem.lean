/-! the reference's walk: its rows at the start, and at the end -/
theorem lp7_4 (S : zS) (nf : Nat) (T : zS) (a : Nat) : ∀ n, (lp_X7_walks_7 S nf T n) 4 a = if 64 * nf ≤ a ∧ a < 64 * nf + n then -1 else T 4 a
  | 0 => by
    rw [if_neg (by omega)]
    rfl
  | n + 1 => by
    show (bd_X7_walks_7 S nf n (lp_X7_walks_7 S nf T n)) 4 a = _
    unfold bd_X7_walks_7
    rw [zUp_s]
    unfold upd
    by_cases e : a = 64 * nf + n
    · rw [if_pos e, if_pos (by omega)]
    · rw [if_neg e, lp7_4 S nf T a n]
      by_cases h : 64 * nf ≤ a ∧ a < 64 * nf + n
      · rw [if_pos h, if_pos (by omega)]
      · rw [if_neg h, if_neg (by omega)]
theorem walk_init0 {Y : zS} {nf : Nat} (hf : nf < 64) (hK : Y 0 nf = 1) (hX : ∀ j, j < 64 → Y 4 (64 * nf + j) = -1) : bJ ((zUp (zUp Y 4 (upd (Y 4) (64 * nf + nf) 0)) 5 (upd (Y 5) 0 (nI nf))) 0) nf (fun a => (zUp (zUp Y 4 (upd (Y 4) (64 * nf + nf) 0)) 5 (upd (Y 5) 0 (nI nf))) 4 (64 * nf + a)) ((zUp (zUp Y 4 (upd (Y 4) (64 * nf + nf) 0)) 5 (upd (Y 5) 0 (nI nf))) 5) 0 1 0 := by
  refine bJ_init hf hK ?_ (fun j hj hne => ?_) ?_
  · show upd (Y 4) (64 * nf + nf) 0 (64 * nf + nf) = 0
    exact pk_us
  · show upd (Y 4) (64 * nf + nf) 0 (64 * nf + j) = -1
    rw [pk_un (by omega)]
    exact hX j hj
  · show upd (Y 5) 0 (nI nf) 0 = nI nf
    exact pk_us
theorem lp7_m1 (S : zS) (nf n : Nat) (T : zS) : ∀ j, j < n → (lp_X7_walks_7 S nf T n) 4 (64 * nf + j) = -1 := fun j hj => by rw [lp7_4, if_pos (by omega)]
theorem walk_init {S : zS} {nf : Nat} (hf : nf < 64) (hK : (lp_X7_walks_7 S nf S 64) 0 nf = 1) : bJ ((zUp (zUp (lp_X7_walks_7 S nf S 64) 4 (upd ((lp_X7_walks_7 S nf S 64) 4) (64 * nf + nf) 0)) 5 (upd ((lp_X7_walks_7 S nf S 64) 5) 0 (nI nf))) 0) nf (fun a => (zUp (zUp (lp_X7_walks_7 S nf S 64) 4 (upd ((lp_X7_walks_7 S nf S 64) 4) (64 * nf + nf) 0)) 5 (upd ((lp_X7_walks_7 S nf S 64) 5) 0 (nI nf))) 4 (64 * nf + a)) ((zUp (zUp (lp_X7_walks_7 S nf S 64) 4 (upd ((lp_X7_walks_7 S nf S 64) 4) (64 * nf + nf) 0)) 5 (upd ((lp_X7_walks_7 S nf S 64) 5) 0 (nI nf))) 5) 0 1 0 := walk_init0 hf hK (lp7_m1 S nf 64 S)
theorem walk_in {S : zS} {nf i nq v0 : Nat} {T62 : zS} (hJ : bJ (T62 0) nf (fun a => T62 4 (64 * nf + a)) (T62 5) i nq 0) (hi : i < nq) (hv0 : v0 < 64) (hqv : T62 5 i = nI v0) : ∀ j, j ≤ 4 → bJ ((lp_X7_walks_82 S nf i nq T62 nq T62 j).2 0) nf (fun a => (lp_X7_walks_82 S nf i nq T62 nq T62 j).2 4 (64 * nf + a)) ((lp_X7_walks_82 S nf i nq T62 nq T62 j).2 5) i (lp_X7_walks_82 S nf i nq T62 nq T62 j).1 j ∧ (lp_X7_walks_82 S nf i nq T62 nq T62 j).2 5 i = T62 5 i ∧ i < (lp_X7_walks_82 S nf i nq T62 nq T62 j).1
  | 0, _ => ⟨hJ, rfl, hi⟩
  | j + 1, hj => by
    obtain ⟨h1, h2, h3⟩ := walk_in (S := S) hJ hi hv0 hqv j (by omega)
    have hle := nb_le _ hv0 j (by omega)
    show bJ ((bd_X7_walks_82 S nf i nq T62 j (lp_X7_walks_82 S nf i nq T62 nq T62 j).1 (lp_X7_walks_82 S nf i nq T62 nq T62 j).2).2 0) nf (fun a => (bd_X7_walks_82 S nf i nq T62 j (lp_X7_walks_82 S nf i nq T62 nq T62 j).1 (lp_X7_walks_82 S nf i nq T62 nq T62 j).2).2 4 (64 * nf + a)) ((bd_X7_walks_82 S nf i nq T62 j (lp_X7_walks_82 S nf i nq T62 nq T62 j).1 (lp_X7_walks_82 S nf i nq T62 nq T62 j).2).2 5) i (bd_X7_walks_82 S nf i nq T62 j (lp_X7_walks_82 S nf i nq T62 nq T62 j).1 (lp_X7_walks_82 S nf i nq T62 nq T62 j).2).1 (j + 1) ∧ (bd_X7_walks_82 S nf i nq T62 j (lp_X7_walks_82 S nf i nq T62 nq T62 j).1 (lp_X7_walks_82 S nf i nq T62 nq T62 j).2).2 5 i = T62 5 i ∧ i < (bd_X7_walks_82 S nf i nq T62 j (lp_X7_walks_82 S nf i nq T62 nq T62 j).1 (lp_X7_walks_82 S nf i nq T62 nq T62 j).2).1
    generalize (lp_X7_walks_82 S nf i nq T62 nq T62 j).1 = mq at h1 h2 h3 ⊢
    generalize (lp_X7_walks_82 S nf i nq T62 nq T62 j).2 = T at h1 h2 h3 ⊢
    have hto : f_X7_neighbour (T62 5 i) (nI j) = if nb v0 j = 64 then -1 else nI (nb v0 j) := by
      rw [hqv]
      exact nbX7 _ hv0 _ (by omega)
    unfold bd_X7_walks_82
    by_cases c1 : f_X7_isRoad T (f_X7_neighbour (T62 5 i) (nI j)) = 0
    · rw [if_pos c1]
      exact ⟨walk_skipA h1 (by omega) h3 hv0 (h2.trans hqv) hto c1, h2, h3⟩
    · rw [if_neg c1]
      obtain ⟨hb, hte, hkr⟩ := isRoadX7 hto hle c1
      by_cases c2 : T 4 (64 * nf + (f_X7_neighbour (T62 5 i) (nI j)).toNatClampNeg) = -1
      · rw [if_neg (not_not_intro c2)]
        exact ⟨walk_push h1 (by omega) h3 hv0 (h2.trans hqv) hqv hb hte hkr c2, (pk_un (by omega)).trans h2, by show i < mq + 1; omega⟩
      · rw [if_pos c2]
        exact ⟨walk_skipB h1 (by omega) h3 hv0 (h2.trans hqv) hte hb c2, h2, h3⟩
/-- what a walk leaves in its row -/
def wOK (K : Nat → Int32) (f : Nat) (d : Nat → Int32) : Prop := (K f = 1 ∧ FS K f d) ∨ (K f ≠ 1 ∧ ∀ j, j < 64 → d j = -1)
theorem walk_out {S : zS} {nf : Nat} : ∀ (q i nq : Nat) (T : zS), bJ (T 0) nf (fun a => T 4 (64 * nf + a)) (T 5) i nq 0 → 64 ≤ i + q → FS (T 0) nf (fun a => (lp_X7_walks_62 S nf q i nq T).2 4 (64 * nf + a)) := by
  intro q
  induction q with
  | zero =>
    intro i nq T H hn
    have h1 : i ≤ nq := H.choose_spec.choose_spec.1.1
    have h64 := bJ_64 H
    obtain rfl : i = nq := by omega
    exact bJ_fin H
  | succ q ih =>
    intro i nq T H hn
    have h1 : i ≤ nq := H.choose_spec.choose_spec.1.1
    have h64 := bJ_64 H
    rw [lp_X7_walks_62]
    by_cases c : nI nq ≤ nI i
    · rw [if_pos c]
      have h2 := (nI_leI (by omega) (by omega)).mp c
      obtain rfl : i = nq := by omega
      exact bJ_fin H
    · rw [if_neg c]
      have h2 : i < nq := by
        rcases Nat.lt_or_ge i nq with z | z
        · exact z
        · exact absurd ((nI_leI (by omega) (by omega)).mpr z) c
      obtain ⟨v0, hv0, hqv, _⟩ := bJ_q H h2
      have h3 := walk_in (S := S) H h2 hv0 hqv 4 (Nat.le_refl 4)
      have h5 := ih (i + 1) _ _ (bJ_next h3.1) (by omega)
      rw [fr_lp_X7_walks_82 S nf i nq T nq T 0 (by decide) (by decide) 4] at h5
      exact h5
