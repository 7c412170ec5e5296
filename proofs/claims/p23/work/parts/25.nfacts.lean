/-! what the reference's nets are, by the kinds alone -/
theorem wOK_congr {K : Nat → Int32} {f : Nat} {d d' : Nat → Int32} (H : wOK K f d) (h : ∀ j, j < 64 → d' j = d j) (hf : f < 64 := by omega) : wOK K f d' := by
  rcases H with ⟨k, ⟨f1, f2, f3, f4⟩⟩ | ⟨k, z⟩
  · refine Or.inl ⟨k, (h f hf).trans f1, fun j hj => by rw [h j hj]; exact f2 j hj, fun u t l a b c e g i => ?_, fun v l a b c e => ?_⟩
    · rw [h u a] at i
      obtain ⟨l', x, y, z⟩ := f3 u t l a b c e g i
      exact ⟨l', x, y, by rw [h _ c]; exact z⟩
    · rw [h v a] at e
      obtain ⟨u, t, l', x, y, z, w, q⟩ := f4 v l a b c e
      exact ⟨u, t, l', x, y, z, w, by rw [h u x]; exact q⟩
  · exact Or.inr ⟨k, fun j hj => by rw [h j hj]; exact z j hj⟩
def rv (K : Nat → Int32) (i : Nat) : Nat → Int32 → Int32
  | 0, old => old
  | q + 1, old => rv K i q (if nb i q < 64 ∧ K (nb i q) = 1 then nI (nb i q) else old)
/-- the road of a cell -/
def rdI (K : Nat → Int32) (k : Nat) : Int32 := if K k = 1 then nI k else rv K k 4 (-1)
def nvv (D : Nat → Int32) : Nat → Int32 → Int32
  | 0, old => old
  | q + 1, old => nvv D q (if D q = -1 then old else nI q)
theorem rv_in (K : Nat → Int32) (i : Nat) : ∀ (q : Nat) (old : Int32), (old = -1 ∨ ∃ u, u < 64 ∧ old = nI u ∧ K u = 1) → (rv K i q old = -1 ∨ ∃ u, u < 64 ∧ rv K i q old = nI u ∧ K u = 1)
  | 0, _, h => h
  | q + 1, old, h => by
    unfold rv
    refine rv_in K i q _ ?_
    by_cases c : nb i q < 64 ∧ K (nb i q) = 1
    · rw [if_pos c]
      exact Or.inr ⟨nb i q, c.1, rfl, c.2⟩
    · rw [if_neg c]
      exact h
theorem rdI_in (K : Nat → Int32) {k : Nat} (hk : k < 64) : rdI K k = -1 ∨ ∃ u, u < 64 ∧ rdI K k = nI u ∧ K u = 1 := by
  unfold rdI
  by_cases c : K k = 1
  · rw [if_pos c]
    exact Or.inr ⟨k, hk, rfl, c⟩
  · rw [if_neg c]
    exact rv_in K k 4 (-1) (Or.inl rfl)
theorem nvv_in (D : Nat → Int32) (N : Nat) : ∀ (q : Nat) (old : Int32), q ≤ N → (old = -1 ∨ ∃ u, u < N ∧ old = nI u) → (nvv D q old = -1 ∨ ∃ u, u < N ∧ nvv D q old = nI u)
  | 0, _, _, h => h
  | q + 1, old, hq, h => by
    unfold nvv
    refine nvv_in D N q _ (by omega) ?_
    by_cases c : D q = -1
    · rw [if_pos c]
      exact h
    · rw [if_neg c]
      exact Or.inr ⟨q, by omega, rfl⟩
theorem nvv_congr {D D' : Nat → Int32} : ∀ (q : Nat) (old : Int32), (∀ j, j < q → D j = D' j) → nvv D q old = nvv D' q old
  | 0, _, _ => rfl
  | q + 1, old, h => by
    unfold nvv
    rw [h q (by omega)]
    exact nvv_congr q _ (fun j hj => h j (by omega))
theorem lp36_2 {S T2 : zS} {K : Nat → Int32} {i : Nat} (hi : i < 64) (hK : ¬ K i = 1) : ∀ (q j : Nat) (T : zS), T 0 = K → j + q = 4 → (lp_X7_findsNets_36 S i T2 q j T) 2 i = rv K i q (T 2 i) ∧ (∀ k, k ≠ i → (lp_X7_findsNets_36 S i T2 q j T) 2 k = T 2 k) ∧ ∀ r, r ≠ 2 → (lp_X7_findsNets_36 S i T2 q j T) r = T r := by
  intro q
  induction q with
  | zero => intro j T h0 hj; exact ⟨rfl, fun _ _ => rfl, fun _ _ => rfl⟩
  | succ q ih =>
    intro j T h0 hj
    have hq : 3 - j = q := by omega
    rw [lp_X7_findsNets_36, if_neg (by rw [h0]; exact hK), hq]
    have hto := nbX7 i hi q (by omega)
    have hle := nb_le i hi q (by omega)
    by_cases c : f_X7_isRoad T (f_X7_neighbour (nI i) (nI q)) = 0
    · rw [if_pos c]
      have h1 := ih (j + 1) (zUp T 2 (upd (T 2) i (T 2 i))) h0 (by omega)
      refine ⟨?_, fun k hk => ?_, fun r hr => ?_⟩
      · rw [h1.1]
        conv => rhs; unfold rv
        rw [if_neg]
        · show rv K i q (upd (T 2) i (T 2 i) i) = _
          rw [pk_us]
        · intro z
          exact isRoadX7_0 hto c z.1 (by rw [h0]; exact z.2)
      · rw [h1.2.1 k hk]
        exact pk_un hk
      · rw [h1.2.2 r hr]
        exact zUp_n _ _ hr
    · rw [if_neg c]
      obtain ⟨hb, hte, hkr⟩ := isRoadX7 hto hle c
      have h1 := ih (j + 1) (zUp T 2 (upd (T 2) i (f_X7_neighbour (nI i) (nI q)))) h0 (by omega)
      refine ⟨?_, fun k hk => ?_, fun r hr => ?_⟩
      · rw [h1.1]
        conv => rhs; unfold rv
        rw [if_pos ⟨hb, by rw [← h0]; exact hkr⟩]
        show rv K i q (upd (T 2) i (f_X7_neighbour (nI i) (nI q)) i) = _
        rw [pk_us, hte]
      · rw [h1.2.1 k hk]
        exact pk_un hk
      · rw [h1.2.2 r hr]
        exact zUp_n _ _ hr
theorem lp36_r {S T2 : zS} {i : Nat} {T : zS} (hK : T 0 i = 1) (q j : Nat) : lp_X7_findsNets_36 S i T2 q j T = T := by
  cases q with
  | zero => rfl
  | succ q => rw [lp_X7_findsNets_36, if_pos hK]
theorem lp2_f (S : zS) : ∀ n, n ≤ 64 → (∀ r, r ≠ 2 → r ≠ 4 → r ≠ 5 → (lp_X7_findsNets_2 S S n) r = S r) ∧ (∀ k, k < n → (lp_X7_findsNets_2 S S n) 2 k = rdI (S 0) k) ∧ ∀ b, b < n → wOK (S 0) b (fun j => (lp_X7_findsNets_2 S S n) 4 (64 * b + j)) := by
  intro n
  induction n with
  | zero => intro _; exact ⟨fun _ _ _ _ => rfl, fun k hk => absurd hk (Nat.not_lt_zero _), fun k hk => absurd hk (Nat.not_lt_zero _)⟩
  | succ n ih =>
    intro hn
    obtain ⟨h1, h2, h3⟩ := ih (by omega)
    show (∀ r, r ≠ 2 → r ≠ 4 → r ≠ 5 → (bd_X7_findsNets_2 S n (lp_X7_findsNets_2 S S n)) r = S r) ∧ (∀ k, k < n + 1 → (bd_X7_findsNets_2 S n (lp_X7_findsNets_2 S S n)) 2 k = rdI (S 0) k) ∧ ∀ b, b < n + 1 → wOK (S 0) b (fun j => (bd_X7_findsNets_2 S n (lp_X7_findsNets_2 S S n)) 4 (64 * b + j))
    generalize lp_X7_findsNets_2 S S n = T at h1 h2 h3 ⊢
    have hw := walks_row (S := T) (nf := n) (by omega)
    have hf : ∀ r, r ≠ 4 → r ≠ 5 → g_X7_walks T n r = T r := fun r a b => fr_X7_walks T n r a b
    have h0 : T 0 = S 0 := h1 0 (by decide) (by decide) (by decide)
    have hg0 : g_X7_walks T n 0 = S 0 := (hf 0 (by decide) (by decide)).trans h0
    have hg2 : g_X7_walks T n 2 = T 2 := hf 2 (by decide) (by decide)
    rw [h0] at hw
    have key : ∀ Y : zS, (∀ r, r ≠ 2 → Y r = g_X7_walks T n r) → Y 2 n = rdI (S 0) n → (∀ k, k ≠ n → Y 2 k = T 2 k) → (∀ r, r ≠ 2 → r ≠ 4 → r ≠ 5 → Y r = S r) ∧ (∀ k, k < n + 1 → Y 2 k = rdI (S 0) k) ∧ ∀ b, b < n + 1 → wOK (S 0) b (fun j => Y 4 (64 * b + j)) := by
      intro Y y1 y2 y3
      refine ⟨fun r a b c => ?_, fun k hk => ?_, fun b hb => ?_⟩
      · rw [y1 r a, hf r b c, h1 r a b c]
      · by_cases e : k = n
        · rw [e]
          exact y2
        · rw [y3 k e]
          exact h2 k (by omega)
      · rw [y1 4 (by decide)]
        by_cases e : b = n
        · rw [e]
          exact hw.1
        · exact wOK_congr (h3 b (by omega)) (fun j hj => (hw.2 _ (by omega)))
    unfold bd_X7_findsNets_2
    by_cases c : g_X7_walks T n 0 n = 1
    · rw [if_neg (not_not_intro c)]
      rw [lp36_r (by show g_X7_walks T n 0 n = 1; exact c)]
      refine key _ (fun r hr => zUp_n _ _ hr) ?_ (fun k hk => ?_)
      · show upd (g_X7_walks T n 2) n (nI n) n = _
        rw [pk_us]
        unfold rdI
        rw [if_pos (by rw [← hg0]; exact c)]
      · show upd (g_X7_walks T n 2) n (nI n) k = _
        rw [pk_un hk, hg2]
    · rw [if_pos c]
      have hK : ¬ S 0 n = 1 := by
        rw [← hg0]
        exact c
      obtain ⟨z1, z2, z3⟩ := lp36_2 (S := S) (T2 := T) (K := S 0) (by omega) hK 4 0 (zUp (g_X7_walks T n) 2 (upd ((g_X7_walks T n) 2) n (-1))) hg0 rfl
      refine key _ (fun r hr => ?_) ?_ (fun k hk => ?_)
      · rw [z3 r hr]
        exact zUp_n _ _ hr
      · rw [z1]
        show rv (S 0) n 4 (upd (g_X7_walks T n 2) n (-1) n) = _
        rw [pk_us]
        unfold rdI
        rw [if_neg hK]
      · rw [z2 k hk]
        show upd (g_X7_walks T n 2) n (-1) k = _
        rw [pk_un hk, hg2]
theorem lp112_3 {S T96 : zS} {i : Nat} : ∀ (q j : Nat) (T : zS), ¬ T 2 i = -1 → j + q = 64 → (lp_X7_findsNets_112 S i T96 q j T) 3 i = nvv (fun a => T 4 (64 * (T 2 i).toNatClampNeg + a)) q (T 3 i) ∧ (∀ k, k ≠ i → (lp_X7_findsNets_112 S i T96 q j T) 3 k = T 3 k) ∧ ∀ r, r ≠ 3 → (lp_X7_findsNets_112 S i T96 q j T) r = T r := by
  intro q
  induction q with
  | zero => intro j T _ _; exact ⟨rfl, fun _ _ => rfl, fun _ _ => rfl⟩
  | succ q ih =>
    intro j T h2 hj
    have hq : 63 - j = q := by omega
    rw [lp_X7_findsNets_112, if_neg h2, hq]
    have key : ∀ v : Int32, v = (if T 4 (64 * (T 2 i).toNatClampNeg + q) = -1 then T 3 i else nI q) → (lp_X7_findsNets_112 S i T96 q (j + 1) (zUp T 3 (upd (T 3) i v))) 3 i = nvv (fun a => T 4 (64 * (T 2 i).toNatClampNeg + a)) (q + 1) (T 3 i) ∧ (∀ k, k ≠ i → (lp_X7_findsNets_112 S i T96 q (j + 1) (zUp T 3 (upd (T 3) i v))) 3 k = T 3 k) ∧ ∀ r, r ≠ 3 → (lp_X7_findsNets_112 S i T96 q (j + 1) (zUp T 3 (upd (T 3) i v))) r = T r := by
      intro v hv
      obtain ⟨a, b, c⟩ := ih (j + 1) (zUp T 3 (upd (T 3) i v)) h2 (by omega)
      refine ⟨?_, fun k hk => ?_, fun r hr => ?_⟩
      · rw [a]
        show nvv (fun a => T 4 (64 * (T 2 i).toNatClampNeg + a)) q (upd (T 3) i v i) = _
        rw [pk_us]
        conv => rhs; unfold nvv
        rw [hv]
      · rw [b k hk]
        exact pk_un hk
      · rw [c r hr]
        exact zUp_n _ _ hr
    by_cases c : T 4 (64 * (T 2 i).toNatClampNeg + q) = -1
    · rw [if_neg (not_not_intro c)]
      exact key _ (by rw [if_pos c])
    · rw [if_pos c]
      exact key _ (by rw [if_neg c])
/-- the net of a cell out of its road and the rows of steps -/
def netR (R : Nat → Int32) (D : Nat → Int32) (k : Nat) : Int32 := if R k = -1 then -1 else nvv (fun a => D (64 * (R k).toNatClampNeg + a)) 64 (-1)
theorem bd96_f (S T : zS) (n q : Nat) (hq : q = 64) (D : Nat → Int32) (hD : D = T 4) : (lp_X7_findsNets_112 S n T q 0 (zUp T 3 (upd (T 3) n (-1)))) 3 n = (if T 2 n = -1 then -1 else nvv (fun a => D (64 * (T 2 n).toNatClampNeg + a)) q (-1)) ∧ (∀ k, k ≠ n → (lp_X7_findsNets_112 S n T q 0 (zUp T 3 (upd (T 3) n (-1)))) 3 k = T 3 k) ∧ ∀ r, r ≠ 3 → (lp_X7_findsNets_112 S n T q 0 (zUp T 3 (upd (T 3) n (-1)))) r = T r := by
  by_cases c : T 2 n = -1
  · have e : lp_X7_findsNets_112 S n T q 0 (zUp T 3 (upd (T 3) n (-1))) = zUp T 3 (upd (T 3) n (-1)) := by
      cases q with
      | zero => rfl
      | succ q => rw [lp_X7_findsNets_112]; exact if_pos c
    rw [e, if_pos c]
    exact ⟨pk_us, fun k hk => pk_un hk, fun r hr => zUp_n _ _ hr⟩
  · obtain ⟨a, b, d⟩ := lp112_3 (S := S) (T96 := T) (i := n) q 0 (zUp T 3 (upd (T 3) n (-1))) c (by omega)
    rw [if_neg c, hD]
    refine ⟨?_, fun k hk => ?_, fun r hr => ?_⟩
    · rw [a]
      show nvv (fun a => T 4 (64 * (T 2 n).toNatClampNeg + a)) q (upd (T 3) n (-1) n) = _
      rw [pk_us]
    · rw [b k hk]
      exact pk_un hk
    · rw [d r hr]
      exact zUp_n _ _ hr
theorem lp96_f (S T0 : zS) : ∀ n, (∀ r, r ≠ 3 → (lp_X7_findsNets_96 S T0 n) r = T0 r) ∧ ∀ k, k < n → (lp_X7_findsNets_96 S T0 n) 3 k = netR (T0 2) (T0 4) k := by
  intro n
  induction n with
  | zero => exact ⟨fun _ _ => rfl, fun k hk => absurd hk (Nat.not_lt_zero _)⟩
  | succ n ih =>
    obtain ⟨h1, h2⟩ := ih
    show (∀ r, r ≠ 3 → (bd_X7_findsNets_96 S n (lp_X7_findsNets_96 S T0 n)) r = T0 r) ∧ ∀ k, k < n + 1 → (bd_X7_findsNets_96 S n (lp_X7_findsNets_96 S T0 n)) 3 k = netR (T0 2) (T0 4) k
    generalize lp_X7_findsNets_96 S T0 n = T at h1 h2 ⊢
    unfold bd_X7_findsNets_96
    obtain ⟨a, b, d⟩ := bd96_f S T n 64 rfl (T 4) rfl
    refine ⟨fun r hr => (d r hr).trans (h1 r hr), fun k hk => ?_⟩
    by_cases e : k = n
    · rw [e, a]
      unfold netR
      rw [h1 2 (by decide), h1 4 (by decide)]
    · rw [b k e]
      exact h2 k (by omega)
theorem nets_f0 (S T : zS) (n m : Nat) (hn : n = 64) (hm : m = 64) (hT : T = lp_X7_findsNets_96 S (lp_X7_findsNets_2 S S n) m) : (∀ r, r ≠ 2 → r ≠ 3 → r ≠ 4 → r ≠ 5 → T r = S r) ∧ (∀ k, k < 64 → T 2 k = rdI (S 0) k) ∧ (∀ b, b < 64 → wOK (S 0) b (fun j => T 4 (64 * b + j))) ∧ ∀ k, k < 64 → T 3 k = netR (T 2) (T 4) k := by
  obtain ⟨a1, a2, a3⟩ := lp2_f S n (by omega)
  obtain ⟨b1, b2⟩ := lp96_f S (lp_X7_findsNets_2 S S n) m
  rw [← hT] at b1 b2
  refine ⟨fun r h2 h3 h4 h5 => (b1 r h3).trans (a1 r h2 h4 h5), fun k hk => ?_, fun b hb => ?_, fun k hk => ?_⟩
  · rw [b1 2 (by decide)]
    exact a2 k (by omega)
  · rw [b1 4 (by decide)]
    exact a3 b (by omega)
  · rw [b2 k (by omega), b1 2 (by decide), b1 4 (by decide)]
theorem nets_f (S : zS) : (∀ r, r ≠ 2 → r ≠ 3 → r ≠ 4 → r ≠ 5 → g_X7_findsNets S r = S r) ∧ (∀ k, k < 64 → g_X7_findsNets S 2 k = rdI (S 0) k) ∧ (∀ b, b < 64 → wOK (S 0) b (fun j => g_X7_findsNets S 4 (64 * b + j))) ∧ ∀ k, k < 64 → g_X7_findsNets S 3 k = netR (g_X7_findsNets S 2) (g_X7_findsNets S 4) k :=
  nets_f0 S (g_X7_findsNets S) 64 64 rfl rfl (by unfold g_X7_findsNets; rfl)
theorem netR_in {R D : Nat → Int32} {k : Nat} : netR R D k = -1 ∨ ∃ u, u < 64 ∧ netR R D k = nI u := by
  unfold netR
  by_cases c : R k = -1
  · rw [if_pos c]
    exact Or.inl rfl
  · rw [if_neg c]
    exact nvv_in _ 64 64 (-1) (Nat.le_refl _) (Or.inl rfl)
theorem nets_n (S : zS) : ∀ k, k < 64 → rOK (g_X7_findsNets S 3) k := by
  intro k hk
  unfold rOK
  rw [(nets_f S).2.2.2 k hk]
  rcases netR_in (R := g_X7_findsNets S 2) (D := g_X7_findsNets S 4) (k := k) with h | ⟨u, hu, h⟩
  · exact Or.inl h
  · rw [h]
    exact Or.inr (vp_in_nI hu (by decide))
theorem nets_w (S : zS) : wkP (g_X7_findsNets S) := by
  obtain ⟨h1, h2, h3, -⟩ := nets_f S
  refine ⟨fun k hk => ?_, fun b hb => ?_⟩
  · unfold rOK
    rw [h2 k hk]
    rcases rdI_in (S 0) hk with h | ⟨u, hu, h, _⟩
    · exact Or.inl h
    · rw [h]
      exact Or.inr (vp_in_nI hu (by decide))
  · rw [h1 0 (by decide) (by decide) (by decide) (by decide)]
    exact h3 b hb
