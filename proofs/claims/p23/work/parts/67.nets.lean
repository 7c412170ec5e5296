/-! NETS AND STEPS, told of the rows that the reference finds -/
theorem FS_rev {K : Nat → Int32} {a v : Nat} {da dv : Nat → Int32} (ha : a < 64) (Ha : FS K a da) (Hv : FS K v dv) : ∀ l w k, w < 64 → l < 64 → da w = nI l → k < 64 → dv w = nI k → ∃ k', k' ≤ k + l ∧ k' < 64 ∧ dv a = nI k' := by
  intro l
  induction l with
  | zero =>
    intro w k hw hl e hk ek
    by_cases hne : w = a
    · rw [← hne]
      exact ⟨k, by omega, hk, ek⟩
    · obtain ⟨u, t, l', _, _, _, z, _⟩ := Ha.2.2.2 w 0 hw hl hne e
      omega
  | succ l ih =>
    intro w k hw hl e hk ek
    by_cases hne : w = a
    · rw [← hne]
      exact ⟨k, by omega, hk, ek⟩
    · obtain ⟨u, t, l', hu, ht, hbn, z, e'⟩ := Ha.2.2.2 w (l + 1) hw hl hne e
      obtain rfl : l' = l := by omega
      have hr := roads_le K
      have hku : K u = 1 := by
        rcases Ha.2.1 u hu with y | ⟨_, _, _, y⟩
        · rw [e'] at y
          exact absurd y (nI_m1 (by omega))
        · exact y
      have hsym := nb_sym u hu t ht (by rw [hbn]; exact hw)
      rw [hbn] at hsym
      obtain ⟨k1, h1, h2, e1⟩ := Hv.2.2.1 w (3 - t) k hw (by omega) (by rw [hsym]; exact hu) (by rw [hsym]; exact hku) hk ek
      rw [hsym] at e1
      obtain ⟨k', g1, g2, g3⟩ := ih u k1 hu (by omega) e' h2 e1
      exact ⟨k', by omega, g2, g3⟩
theorem nvv_none {D : Nat → Int32} : ∀ (q : Nat) (old : Int32), (∀ j, j < q → D j = -1) → nvv D q old = old
  | 0, _, _ => rfl
  | q + 1, old, h => by
    unfold nvv
    rw [if_pos (h q (by omega))]
    exact nvv_none q old (fun j hj => h j (by omega))
theorem nvv_least {D : Nat → Int32} : ∀ (q : Nat) (old : Int32), (∃ j, j < q ∧ D j ≠ -1) → ∃ u, u < q ∧ nvv D q old = nI u ∧ D u ≠ -1 ∧ ∀ j, j < u → D j = -1
  | 0, _, h => by
    obtain ⟨j, hj, _⟩ := h
    omega
  | q + 1, old, h => by
    unfold nvv
    by_cases c : ∃ j, j < q ∧ D j ≠ -1
    · obtain ⟨u, h1, h2⟩ := nvv_least q (if D q = -1 then old else nI q) c
      exact ⟨u, by omega, h2⟩
    · have hn : ∀ j, j < q → D j = -1 := fun j hj => Classical.byContradiction fun z => c ⟨j, hj, z⟩
      have hq : D q ≠ -1 := by
        obtain ⟨j, hj, z⟩ := h
        by_cases e : j = q
        · rw [← e]
          exact z
        · exact absurd (hn j (by omega)) z
      rw [if_neg hq]
      exact ⟨q, by omega, nvv_none q _ hn, hq, hn⟩
/-- the rows of steps as the reference has them -/
def dOK (K D : Nat → Int32) : Prop := ∀ b, b < 64 → wOK K b (fun j => D (64 * b + j))
def rch (D : Nat → Int32) (u v : Nat) : Prop := D (64 * u + v) ≠ -1
section DOK
variable {K D : Nat → Int32}
theorem d_FS (H : dOK K D) {u : Nat} (hu : u < 64) (ku : K u = 1) : FS K u (fun j => D (64 * u + j)) := by
  rcases H u hu with ⟨_, f⟩ | ⟨z, _⟩
  · exact f
  · exact absurd ku z
theorem d_or (H : dOK K D) {u v : Nat} (hu : u < 64) (hv : v < 64) : D (64 * u + v) = -1 ∨ ∃ l, l < 64 ∧ D (64 * u + v) = nI l ∧ K u = 1 ∧ K v = 1 := by
  have hr := roads_le K
  rcases H u hu with ⟨k, f⟩ | ⟨_, f⟩
  · rcases f.2.1 v hv with z | ⟨l, l1, l2, l3⟩
    · exact Or.inl z
    · exact Or.inr ⟨l, by omega, l2, k, l3⟩
  · exact Or.inl (f v hv)
theorem d_nI (H : dOK K D) {u v : Nat} (hu : u < 64) (hv : v < 64) (h : rch D u v) : ∃ l, l < 64 ∧ D (64 * u + v) = nI l ∧ K u = 1 ∧ K v = 1 := (d_or H hu hv).resolve_left h
theorem rch_of {u v l : Nat} (hl : l < 64) (h : D (64 * u + v) = nI l) : rch D u v := by
  unfold rch
  rw [h]
  exact nI_m1 (by omega)
theorem d_self (H : dOK K D) {u : Nat} (hu : u < 64) (ku : K u = 1) : D (64 * u + u) = nI 0 := (d_FS H hu ku).1
theorem rch_self (H : dOK K D) {u : Nat} (hu : u < 64) (ku : K u = 1) : rch D u u := rch_of (l := 0) (by decide) (d_self H hu ku)
theorem d_le (H : dOK K D) {a v l : Nat} (ha : a < 64) (hv : v < 64) (hl : l < 64) (e : D (64 * a + v) = nI l) : ∃ k, k ≤ l ∧ D (64 * v + a) = nI k := by
  obtain ⟨_, _, _, ka, kv⟩ := d_nI H ha hv (rch_of hl e)
  obtain ⟨k, h1, _, h2⟩ := FS_rev ha (d_FS H ha ka) (d_FS H hv kv) l v 0 hv hl e (by decide) (d_self H hv kv)
  exact ⟨k, by omega, h2⟩
theorem d_symm (H : dOK K D) {a v : Nat} (ha : a < 64) (hv : v < 64) : D (64 * a + v) = D (64 * v + a) := by
  rcases d_or H ha hv with z | ⟨l, hl, e, _, _⟩
  · rcases d_or H hv ha with y | ⟨l, hl, e, _, _⟩
    · rw [z, y]
    · obtain ⟨k, hk, e2⟩ := d_le H hv ha hl e
      rw [z] at e2
      exact absurd e2.symm (nI_m1 (by omega))
  · obtain ⟨k, hk, e2⟩ := d_le H ha hv hl e
    obtain ⟨k2, hk2, e3⟩ := d_le H hv ha (by omega) e2
    rw [e] at e3
    have := nI_inj (by omega) (by omega) e3
    rw [e, e2, show k = l by omega]
theorem rch_symm (H : dOK K D) {a v : Nat} (ha : a < 64) (hv : v < 64) (h : rch D a v) : rch D v a := by
  unfold rch
  rw [d_symm H hv ha]
  exact h
theorem rch_trans (H : dOK K D) {a b c : Nat} (ha : a < 64) (hb : b < 64) (hc : c < 64) (h1 : rch D a b) (h2 : rch D b c) : rch D a c := by
  obtain ⟨l, hl, e, ka, kb⟩ := d_nI H ha hb h1
  obtain ⟨k, hk, e2, kc, _⟩ := d_nI H hc hb (rch_symm H hb hc h2)
  obtain ⟨k', _, h64, e3⟩ := FS_rev ha (d_FS H ha ka) (d_FS H hc kc) l b k hb hl e hk e2
  exact rch_symm H hc ha (rch_of h64 e3)
/-- the net of a road: the lowest that is reached -/
def lowD (D : Nat → Int32) (w : Nat) : Int32 := nvv (fun a => D (64 * w + a)) 64 (-1)
theorem low_f (H : dOK K D) {w : Nat} (hw : w < 64) (kw : K w = 1) : ∃ u, u < 64 ∧ u ≤ w ∧ lowD D w = nI u ∧ rch D w u ∧ K u = 1 ∧ ∀ j, j < u → ¬ rch D w j := by
  obtain ⟨u, h1, h2, h3, h4⟩ := nvv_least (D := fun a => D (64 * w + a)) 64 (-1) ⟨w, hw, rch_self H hw kw⟩
  obtain ⟨_, _, _, _, ku⟩ := d_nI H hw h1 h3
  refine ⟨u, h1, ?_, h2, h3, ku, fun j hj z => z (h4 j hj)⟩
  exact Nat.le_of_not_lt fun z => rch_self H hw kw (h4 w z)
theorem low_eq (H : dOK K D) {w o : Nat} (hw : w < 64) (ho : o < 64) (h : rch D w o) : lowD D w = lowD D o := by
  unfold lowD
  refine nvv_iff 64 (-1) (fun j hj => ?_)
  constructor
  · intro z
    exact Classical.byContradiction fun y => rch_trans H hw ho hj h y z
  · intro z
    exact Classical.byContradiction fun y => rch_trans H ho hw hj (rch_symm H hw ho h) y z
theorem low_ne (H : dOK K D) {w o : Nat} (hw : w < 64) (ho : o < 64) (kw : K w = 1) (ko : K o = 1) (h : lowD D w = lowD D o) : rch D w o := by
  obtain ⟨u, u1, _, u2, u3, _⟩ := low_f H hw kw
  obtain ⟨v, v1, _, v2, v3, _⟩ := low_f H ho ko
  rw [u2, v2] at h
  have e := nI_inj (by omega) (by omega) h
  rw [← e] at v3
  exact rch_trans H hw u1 ho u3 (rch_symm H ho u1 v3)
/-- a road beside another -/
theorem nb_rch (H : dOK K D) {w t : Nat} (hw : w < 64) (ht : t < 4) (kw : K w = 1) (hb : nb w t < 64) (kb : K (nb w t) = 1) : rch D w (nb w t) := by
  obtain ⟨l', _, h, e⟩ := (d_FS H hw kw).2.2.1 w t 0 hw ht hb kb (by decide) (d_self H hw kw)
  exact rch_of h e
theorem nb_near (H : dOK K D) {w t o l : Nat} (hw : w < 64) (ho : o < 64) (ht : t < 4) (hb : nb w t < 64) (kb : K (nb w t) = 1) (hl : l < 64) (e : D (64 * w + o) = nI l) : ∃ k, k < 64 ∧ D (64 * nb w t + o) = nI k ∧ k ≤ l + 1 ∧ l ≤ k + 1 := by
  obtain ⟨_, _, _, kw, ko⟩ := d_nI H hw ho (rch_of hl e)
  rw [d_symm H hw ho] at e
  obtain ⟨k, h1, h2, h3⟩ := (d_FS H ho ko).2.2.1 w t l hw ht hb kb hl e
  have hs := nb_sym w hw t ht hb
  have h3' : D (64 * o + nb w t) = nI k := h3
  obtain ⟨l2, g1, g2, g3⟩ := (d_FS H ho ko).2.2.1 (nb w t) (3 - t) k hb (by omega) (by rw [hs]; exact hw) (by rw [hs]; exact kw) h2 h3
  rw [hs] at g3
  have g3' : D (64 * o + w) = nI l2 := g3
  rw [e] at g3'
  have := nI_inj (by omega) (by omega) g3'
  refine ⟨k, h2, ?_, h1, by omega⟩
  rw [d_symm H hb ho]
  exact h3'
theorem nb_nearer (H : dOK K D) {w o l : Nat} (hw : w < 64) (ho : o < 64) (hl : l < 64) (e : D (64 * w + o) = nI l) (h0 : 0 < l) : ∃ t, t < 4 ∧ nb w t < 64 ∧ K (nb w t) = 1 ∧ D (64 * nb w t + o) = nI (l - 1) := by
  obtain ⟨_, _, _, kw, ko⟩ := d_nI H hw ho (rch_of hl e)
  have hne : w ≠ o := fun z => by
    rw [z, d_self H ho ko] at e
    have := nI_inj (by omega) (by omega) e
    omega
  have e1 := e
  rw [d_symm H hw ho] at e1
  obtain ⟨u, t, l', hu, ht, hn, hll, e2⟩ := (d_FS H ho ko).2.2.2 w l hw hl hne e1
  have e2' : D (64 * o + u) = nI l' := e2
  have hs := nb_sym u hu t ht (by rw [hn]; exact hw)
  rw [hn] at hs
  obtain ⟨_, _, _, _, ku⟩ := d_nI H ho hu (rch_of (by omega) e2')
  refine ⟨3 - t, by omega, by rw [hs]; exact hu, by rw [hs]; exact ku, ?_⟩
  rw [hs, d_symm H hu ho, e2', show l - 1 = l' by omega]
end DOK
/-- cells that lie beside each other -/
def bes (a b : Nat) : Bool := (Nat.max a b - Nat.min a b == 8) || (Nat.max a b - Nat.min a b == 1 && a / 8 == b / 8)
theorem bes_nb : ∀ v, v < 64 → ∀ s, s < 4 → nb v s < 64 → bes (nb v s) v = true := by decide +kernel
theorem bes_ex : ∀ v, v < 64 → ∀ k, k < 64 → bes k v = true → ∃ s, s < 4 ∧ nb v s = k := by decide +kernel
theorem nb_rise : ∀ v, v < 64 → ∀ s, s < 4 → ∀ t, t < s → nb v s < 64 → nb v t < 64 → nb v t < nb v s := by decide +kernel
