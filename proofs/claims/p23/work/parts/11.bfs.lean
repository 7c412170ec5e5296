/-! WALKS BY BREADTH: what holds of the rows d (steps) and q (queue) while a walk from f goes on, and what holds at its end -/
def nb (v s : Nat) : Nat := if s = 0 then (if v < 8 then 64 else v - 8) else if s = 1 then (if v % 8 = 0 then 64 else v - 1) else if s = 2 then (if v % 8 = 7 then 64 else v + 1) else (if 56 ≤ v then 64 else v + 8)
theorem nb_le : ∀ v, v < 64 → ∀ s, s < 4 → nb v s ≤ 64 := by decide +kernel
theorem nb_sym : ∀ v, v < 64 → ∀ s, s < 4 → nb v s < 64 → nb (nb v s) (3 - s) = v := by decide +kernel
theorem nI_m1 {n : Nat} (h : n < 2 ^ 31) : nI n ≠ -1 := by
  intro z
  have h1 := congrArg Int32.toInt z
  rw [nI_toInt h] at h1
  have h2 : ((-1 : Int32)).toInt = -1 := by decide
  omega
theorem nI_inj {a b : Nat} (ha : a < 2 ^ 31) (hb : b < 2 ^ 31) (h : nI a = nI b) : a = b := (nI_eq ha hb).mp h
/-- how many below N have the property -/
def cnt (P : Nat → Bool) : Nat → Nat
  | 0 => 0
  | n + 1 => cnt P n + (if P n then 1 else 0)
theorem cnt_le (P : Nat → Bool) : ∀ n, cnt P n ≤ n
  | 0 => Nat.le_refl 0
  | n + 1 => by
    have := cnt_le P n
    unfold cnt
    split <;> omega
theorem cnt_congr {P P' : Nat → Bool} : ∀ n, (∀ j, j < n → P j = P' j) → cnt P n = cnt P' n
  | 0, _ => rfl
  | n + 1, h => by
    unfold cnt
    rw [cnt_congr n (fun j hj => h j (by omega)), h n (by omega)]
theorem cnt_mono {P P' : Nat → Bool} : ∀ n, (∀ j, j < n → P j = true → P' j = true) → cnt P n ≤ cnt P' n
  | 0, _ => Nat.le_refl 0
  | n + 1, h => by
    have h1 := cnt_mono n (fun j hj => h j (by omega))
    unfold cnt
    by_cases hp : P n = true
    · rw [if_pos hp, if_pos (h n (by omega) hp)]
      omega
    · rw [if_neg hp]
      omega
theorem cnt_del {P : Nat → Bool} {v : Nat} : ∀ n, v < n → P v = true → cnt (fun j => P j && decide (j ≠ v)) n + 1 = cnt P n
  | 0, h, _ => absurd h (Nat.not_lt_zero _)
  | n + 1, h, hp => by
    unfold cnt
    by_cases e : v = n
    · subst e
      rw [cnt_congr (P' := P) v (fun j hj => by simp; omega)]
      simp [hp]
    · have h1 := cnt_del (P := P) n (by omega) hp
      have e2 : n ≠ v := fun z => e z.symm
      have e3 : (P n && decide (n ≠ v)) = P n := by simp [e2]
      show cnt _ n + (if (P n && decide (n ≠ v)) = true then 1 else 0) + 1 = _
      rw [e3]
      omega
theorem cnt_inj {N : Nat} : ∀ (n : Nat) (P : Nat → Bool) (v : Nat → Nat), (∀ i, i < n → v i < N ∧ P (v i) = true) → (∀ i j, i < n → j < n → v i = v j → i = j) → n ≤ cnt P N
  | 0, _, _, _, _ => Nat.zero_le _
  | n + 1, P, v, h, hi => by
    have h1 := cnt_inj n (fun j => P j && decide (j ≠ v n)) v (fun i hin => ⟨(h i (by omega)).1, by
      have h2 : v i ≠ v n := fun z => by
        have := hi i n (by omega) (by omega) z
        omega
      simp [(h i (by omega)).2, h2]⟩) (fun i j a b => hi i j (by omega) (by omega))
    have h3 := cnt_del (P := P) N (h n (by omega)).1 (h n (by omega)).2
    omega
def roads (K : Nat → Int32) : Nat := cnt (fun j => decide (K j = 1)) 64
theorem roads_le (K : Nat → Int32) : roads K ≤ 64 := cnt_le _ _
/-- the walk from f stands at the queue's place h, n are queued, the sides below s of the one at h are looked at -/
def bJ (K : Nat → Int32) (f : Nat) (d q : Nat → Int32) (h n s : Nat) : Prop := ∃ (v l : Nat → Nat),
  (h ≤ n ∧ (0 < s → h < n)) ∧
  (∀ i, i < n → v i < 64 ∧ q i = nI (v i) ∧ K (v i) = 1 ∧ d (v i) = nI (l i) ∧ l i ≤ i) ∧
  (∀ i j, i ≤ j → j < n → l i ≤ l j) ∧
  (h < n → ∀ i, i < n → l i ≤ l h + 1) ∧
  (∀ i j, i < n → j < n → v i = v j → i = j) ∧
  (∀ j, j < 64 → d j = -1 ∨ ∃ i, i < n ∧ v i = j) ∧
  (∀ i t, i < n → t < 4 → (i < h ∨ (i = h ∧ t < s)) → nb (v i) t < 64 → K (nb (v i) t) = 1 → ∃ i', i' < n ∧ v i' = nb (v i) t ∧ l i' ≤ l i + 1) ∧
  (∀ i, i < n → 0 < i → ∃ i' t, i' < n ∧ t < 4 ∧ nb (v i') t = v i ∧ l i = l i' + 1) ∧
  (0 < n ∧ v 0 = f ∧ l 0 = 0)
theorem bJ_n {K : Nat → Int32} {f : Nat} {d q : Nat → Int32} {h n s : Nat} (H : bJ K f d q h n s) : n ≤ roads K := by
  obtain ⟨v, l, h1, h2, h3, h4, h5, h6, h7, h8, h9⟩ := H
  exact cnt_inj n _ v (fun i hi => ⟨(h2 i hi).1, by simp [(h2 i hi).2.2.1]⟩) h5
theorem bJ_64 {K : Nat → Int32} {f : Nat} {d q : Nat → Int32} {h n s : Nat} (H : bJ K f d q h n s) : n ≤ 64 := Nat.le_trans (bJ_n H) (roads_le K)
theorem bJ_q {K : Nat → Int32} {f : Nat} {d q : Nat → Int32} {h n s : Nat} (H : bJ K f d q h n s) {i : Nat} (hi : i < n) : ∃ v, v < 64 ∧ q i = nI v ∧ K v = 1 ∧ ∃ l, l < 64 ∧ d v = nI l := by
  have h64 := bJ_64 H
  obtain ⟨v, l, h1, h2, h3, h4, h5, h6, h7, h8, h9⟩ := H
  obtain ⟨a, b, c, e, g⟩ := h2 i hi
  exact ⟨v i, a, b, c, l i, by omega, e⟩
theorem bJ_congr {K K' : Nat → Int32} {f : Nat} {d d' q q' : Nat → Int32} {h n s : Nat} (H : bJ K f d q h n s) (hK : ∀ j, j < 64 → K' j = K j) (hd : ∀ j, j < 64 → d' j = d j) (hq : ∀ j, j < n → q' j = q j) : bJ K' f d' q' h n s := by
  obtain ⟨v, l, h1, h2, h3, h4, h5, h6, h7, h8, h9⟩ := H
  refine ⟨v, l, h1, fun i hi => ?_, h3, h4, h5, fun j hj => ?_, fun i t hi ht hh hn hk => ?_, h8, h9⟩
  · obtain ⟨a, b, c, e, g⟩ := h2 i hi
    exact ⟨a, (hq i hi).trans b, (hK _ a).trans c, (hd _ a).trans e, g⟩
  · rw [hd j hj]
    exact h6 j hj
  · rw [hK _ hn] at hk
    exact h7 i t hi ht hh hn hk
theorem bJ_init {K : Nat → Int32} {f : Nat} {d q : Nat → Int32} (hf : f < 64) (hK : K f = 1) (hd0 : d f = 0) (hd : ∀ j, j < 64 → j ≠ f → d j = -1) (hq : q 0 = nI f) : bJ K f d q 0 1 0 := by
  refine ⟨fun _ => f, fun _ => 0, ⟨by omega, fun h => absurd h (by omega)⟩, fun i hi => ⟨hf, ?_, hK, hd0, Nat.zero_le _⟩, fun _ _ _ _ => Nat.le_refl _, fun _ _ _ => Nat.zero_le _, fun i j hi hj _ => by omega, fun j hj => ?_, fun i t hi ht hh => ?_, fun i hi h0 => ?_, by omega, rfl, rfl⟩
  · rw [show i = 0 by omega]
    exact hq
  · by_cases e : j = f
    · exact Or.inr ⟨0, by omega, e.symm⟩
    · exact Or.inl (hd j hj e)
  · omega
  · omega
theorem bJ_next {K : Nat → Int32} {f : Nat} {d q : Nat → Int32} {h n : Nat} (H : bJ K f d q h n 4) : bJ K f d q (h + 1) n 0 := by
  obtain ⟨v, l, h1, h2, h3, h4, h5, h6, h7, h8, h9⟩ := H
  have hn := h1.2 (by omega)
  refine ⟨v, l, ⟨by omega, fun z => absurd z (by omega)⟩, h2, h3, fun hh i hi => ?_, h5, h6, fun i t hi ht hh hb hk => h7 i t hi ht (by omega) hb hk, h8, h9⟩
  have a := h4 hn i hi
  have b := h3 h (h + 1) (by omega) hh
  omega
theorem bJ_skip {K : Nat → Int32} {f : Nat} {d q : Nat → Int32} {h n s : Nat} (H : bJ K f d q h n s) (hs : s < 4) (hn : h < n) {v0 : Nat} (hv : v0 < 64) (hq : q h = nI v0) (hno : nb v0 s < 64 → K (nb v0 s) = 1 → d (nb v0 s) ≠ -1) : bJ K f d q h n (s + 1) := by
  obtain ⟨v, l, h1, h2, h3, h4, h5, h6, h7, h8, h9⟩ := H
  have hv0 : v h = v0 := nI_inj (by have := (h2 h hn).1; omega) (by omega) ((h2 h hn).2.1.symm.trans hq)
  refine ⟨v, l, ⟨h1.1, fun _ => hn⟩, h2, h3, h4, h5, h6, fun i t hi ht hh hb hk => ?_, h8, h9⟩
  by_cases e : i = h ∧ t = s
  · obtain ⟨rfl, rfl⟩ := e
    rw [hv0] at hb hk ⊢
    rcases h6 _ hb with z | ⟨i', hi', hvi⟩
    · exact absurd z (hno hb hk)
    · exact ⟨i', hi', hvi, h4 hn i' hi'⟩
  · exact h7 i t hi ht (by omega) hb hk
theorem bJ_push {K : Nat → Int32} {f : Nat} {d q : Nat → Int32} {h n s : Nat} (H : bJ K f d q h n s) (hs : s < 4) (hn : h < n) {v0 : Nat} (hv : v0 < 64) (hq : q h = nI v0) (hb : nb v0 s < 64) (hk : K (nb v0 s) = 1) (hd : d (nb v0 s) = -1) : bJ K f (upd d (nb v0 s) (d v0 + 1)) (upd q n (nI (nb v0 s))) h (n + 1) (s + 1) := by
  have h64 := bJ_64 H
  obtain ⟨v, l, h1, h2, h3, h4, h5, h6, h7, h8, h9⟩ := H
  have hv0 : v h = v0 := nI_inj (by have := (h2 h hn).1; omega) (by omega) ((h2 h hn).2.1.symm.trans hq)
  have hnew : ∀ i, i < n → v i ≠ nb v0 s := fun i hi z => by
    have a := (h2 i hi).2.2.2.1
    rw [z, hd] at a
    exact nI_m1 (by have := (h2 i hi).2.2.2.2; omega) a.symm
  have ev : ∀ i, i < n → (if i = n then nb v0 s else v i) = v i := fun i hi => if_neg (by omega)
  have el : ∀ i, i < n → (if i = n then l h + 1 else l i) = l i := fun i hi => if_neg (by omega)
  have lh : l h ≤ h := (h2 h hn).2.2.2.2
  have dh : d v0 + 1 = nI (l h + 1) := by rw [← hv0, (h2 h hn).2.2.2.1, nI_succ]
  refine ⟨fun i => if i = n then nb v0 s else v i, fun i => if i = n then l h + 1 else l i, ⟨by omega, fun _ => by omega⟩, fun i hi => ?_, fun i j hij hj => ?_, fun _ i hi => ?_, fun i j hi hj e => ?_, fun j hj => ?_, fun i t hi ht hh hb2 hk2 => ?_, fun i hi h0 => ?_, by omega, ?_, ?_⟩
  · by_cases e : i = n
    · subst e
      simp only [if_true]
      refine ⟨hb, by simp [upd], hk, by simp [upd, dh], by omega⟩
    · have hi' : i < n := by omega
      show (if i = n then nb v0 s else v i) < 64 ∧ _
      simp only [ev i hi', el i hi']
      obtain ⟨a, b, c, g, k⟩ := h2 i hi'
      refine ⟨a, ?_, c, ?_, k⟩
      · simp [upd, e, b]
      · simp [upd, hnew i hi', g]
  · show (if i = n then l h + 1 else l i) ≤ (if j = n then l h + 1 else l j)
    by_cases e : j = n
    · subst e
      rw [if_pos rfl]
      by_cases e2 : i = j
      · rw [if_pos e2]
        exact Nat.le_refl _
      · rw [if_neg e2]
        exact h4 hn i (by omega)
    · rw [if_neg e, if_neg (by omega)]
      exact h3 i j hij (by omega)
  · show (if i = n then l h + 1 else l i) ≤ (if h = n then l h + 1 else l h) + 1
    rw [if_neg (show ¬ h = n by omega)]
    by_cases e : i = n
    · rw [if_pos e]
      exact Nat.le_refl _
    · rw [if_neg e]
      exact h4 hn i (by omega)
  · change (if i = n then nb v0 s else v i) = (if j = n then nb v0 s else v j) at e
    by_cases e1 : i = n
    · by_cases e2 : j = n
      · omega
      · rw [if_pos e1, if_neg e2] at e
        exact absurd e.symm (hnew j (by omega))
    · by_cases e2 : j = n
      · rw [if_neg e1, if_pos e2] at e
        exact absurd e (hnew i (by omega))
      · rw [if_neg e1, if_neg e2] at e
        exact h5 i j (by omega) (by omega) e
  · by_cases e : j = nb v0 s
    · exact Or.inr ⟨n, by omega, by show (if n = n then _ else _) = _; rw [if_pos rfl, e]⟩
    · rcases h6 j hj with z | ⟨i', hi', z⟩
      · exact Or.inl (by simp [upd, e, z])
      · exact Or.inr ⟨i', by omega, by show (if i' = n then _ else _) = _; rw [if_neg (by omega)]; exact z⟩
  · have hi' : i < n := by omega
    change nb (if i = n then nb v0 s else v i) t < 64 at hb2
    change K (nb (if i = n then nb v0 s else v i) t) = 1 at hk2
    show ∃ i', i' < n + 1 ∧ (if i' = n then nb v0 s else v i') = nb (if i = n then nb v0 s else v i) t ∧ (if i' = n then l h + 1 else l i') ≤ (if i = n then l h + 1 else l i) + 1
    rw [ev i hi'] at hb2 hk2 ⊢
    rw [el i hi']
    by_cases e : i = h ∧ t = s
    · obtain ⟨rfl, rfl⟩ := e
      rw [hv0]
      exact ⟨n, by omega, by rw [if_pos rfl], by rw [if_pos rfl]; exact Nat.le_refl _⟩
    · obtain ⟨i', a, b, c⟩ := h7 i t hi' ht (by omega) hb2 hk2
      exact ⟨i', by omega, by rw [if_neg (by omega)]; exact b, by rw [if_neg (by omega)]; exact c⟩
  · show ∃ i' t, i' < n + 1 ∧ t < 4 ∧ nb (if i' = n then nb v0 s else v i') t = (if i = n then nb v0 s else v i) ∧ (if i = n then l h + 1 else l i) = (if i' = n then l h + 1 else l i') + 1
    by_cases e : i = n
    · refine ⟨h, s, by omega, hs, ?_, ?_⟩
      · rw [if_neg (by omega), if_pos e, hv0]
      · rw [if_pos e, if_neg (by omega)]
    · obtain ⟨i', t, a, b, c, g⟩ := h8 i (by omega) h0
      refine ⟨i', t, by omega, b, ?_, ?_⟩
      · rw [if_neg (by omega), if_neg e]
        exact c
      · rw [if_neg e, if_neg (by omega)]
        exact g
  · show (if 0 = n then _ else _) = _
    rw [if_neg (by omega)]
    exact h9.2.1
  · show (if 0 = n then _ else _) = _
    rw [if_neg (by omega)]
    exact h9.2.2
/-- a walk's end: what the row of steps from f says -/
def FS (K : Nat → Int32) (f : Nat) (d : Nat → Int32) : Prop :=
  d f = nI 0 ∧ (∀ j, j < 64 → d j = -1 ∨ ∃ l, l < roads K ∧ d j = nI l ∧ K j = 1) ∧
  (∀ u t l, u < 64 → t < 4 → nb u t < 64 → K (nb u t) = 1 → l < 64 → d u = nI l → ∃ l', l' ≤ l + 1 ∧ l' < 64 ∧ d (nb u t) = nI l') ∧
  (∀ v l, v < 64 → l < 64 → v ≠ f → d v = nI l → ∃ u t l', u < 64 ∧ t < 4 ∧ nb u t = v ∧ l = l' + 1 ∧ d u = nI l')
theorem bJ_fin {K : Nat → Int32} {f : Nat} {d q : Nat → Int32} {n : Nat} (H : bJ K f d q n n 0) : FS K f d := by
  have h64 := bJ_64 H
  have hr := bJ_n H
  obtain ⟨v, l, h1, h2, h3, h4, h5, h6, h7, h8, h9⟩ := H
  have at' : ∀ w k, w < 64 → k < 64 → d w = nI k → ∃ i, i < n ∧ v i = w ∧ l i = k := fun w k hw hk e => by
    rcases h6 w hw with z | ⟨i, hi, z⟩
    · rw [e] at z
      exact absurd z (nI_m1 (by omega))
    · refine ⟨i, hi, z, ?_⟩
      have a := (h2 i hi).2.2.2
      rw [z, e] at a
      exact (nI_inj (by omega) (by omega) a.1).symm
  refine ⟨?_, fun j hj => ?_, fun u t k hu ht hb hk hk64 e => ?_, fun w k hw hk hne e => ?_⟩
  · have a := (h2 0 h9.1).2.2.2.1
    rw [h9.2.1, h9.2.2] at a
    exact a
  · rcases h6 j hj with z | ⟨i, hi, z⟩
    · exact Or.inl z
    · obtain ⟨a, b, c, g, k⟩ := h2 i hi
      rw [z] at c g
      exact Or.inr ⟨l i, by omega, g, c⟩
  · obtain ⟨i, hi, z, zl⟩ := at' u k hu hk64 e
    rw [← z] at hb hk ⊢
    obtain ⟨i', a, b, c⟩ := h7 i t hi ht (by omega) hb hk
    refine ⟨l i', by omega, ?_, ?_⟩
    · have := (h2 i' a).2.2.2.2
      omega
    · rw [← b]
      exact (h2 i' a).2.2.2.1
  · obtain ⟨i, hi, z, zl⟩ := at' w k hw hk e
    have h0 : 0 < i := by
      rcases Nat.eq_zero_or_pos i with y | y
      · subst y
        exact absurd (h9.2.1.symm.trans z) (fun y => hne y.symm)
      · exact y
    obtain ⟨i', t, a, b, c, g⟩ := h8 i hi h0
    exact ⟨v i', t, l i', (h2 i' a).1, b, c.trans z, by omega, (h2 i' a).2.2.2.1⟩
theorem FS_f {K : Nat → Int32} {f : Nat} {d : Nat → Int32} (hf : f < 64) (H : FS K f d) : K f = 1 := by
  rcases H.2.1 f hf with z | ⟨l, a, b, c⟩
  · rw [H.1] at z
    exact absurd z (nI_m1 (by omega))
  · exact c
/-- the row is the only one -/
theorem FS_le {K : Nat → Int32} {f : Nat} {d d' : Nat → Int32} (hf : f < 64) (H : FS K f d) (H' : FS K f d') : ∀ l v, v < 64 → l < 64 → d' v = nI l → ∃ l', l' ≤ l ∧ d v = nI l' := by
  intro l
  induction l with
  | zero =>
    intro v hv hl e
    by_cases hne : v = f
    · rw [hne]
      exact ⟨0, Nat.le_refl _, H.1⟩
    · obtain ⟨u, t, l', _, _, _, z, _⟩ := H'.2.2.2 v 0 hv hl hne e
      omega
  | succ l ih =>
    intro v hv hl e
    by_cases hne : v = f
    · rw [hne]
      exact ⟨0, Nat.zero_le _, H.1⟩
    · obtain ⟨u, t, l', hu, ht, hb, z, e'⟩ := H'.2.2.2 v (l + 1) hv hl hne e
      obtain rfl : l' = l := by omega
      obtain ⟨l2, h2, e2⟩ := ih u hu (by omega) e'
      have hk : K v = 1 := by
        rcases H'.2.1 v hv with y | ⟨_, _, _, y⟩
        · rw [e] at y
          exact absurd y (nI_m1 (by omega))
        · exact y
      rw [← hb] at hv hk ⊢
      obtain ⟨l3, h3, _, e3⟩ := H.2.2.1 u t l2 hu ht hv hk (by omega) e2
      exact ⟨l3, by omega, e3⟩
theorem FS_uniq {K : Nat → Int32} {f : Nat} {d d' : Nat → Int32} (hf : f < 64) (H : FS K f d) (H' : FS K f d') : ∀ v, v < 64 → d v = d' v := by
  intro v hv
  have hr := roads_le K
  rcases H.2.1 v hv with a | ⟨l, a1, a2, _⟩
  · rcases H'.2.1 v hv with b | ⟨l', b1, b2, _⟩
    · rw [a, b]
    · obtain ⟨l3, _, e⟩ := FS_le hf H H' l' v hv (by omega) b2
      rw [a] at e
      exact absurd e.symm (nI_m1 (by omega))
  · obtain ⟨l2, h2, e2⟩ := FS_le hf H' H l v hv (by omega) a2
    obtain ⟨l3, h3, e3⟩ := FS_le hf H H' l2 v hv (by omega) e2
    rw [a2] at e3
    have := nI_inj (by omega) (by omega) e3
    rw [a2, e2, show l2 = l by omega]
/-- reached back -/
theorem FS_back {K : Nat → Int32} {a b : Nat} {da db : Nat → Int32} (ha : a < 64) (hb : b < 64) (Ha : FS K a da) (Hb : FS K b db) : ∀ l v, v < 64 → l < 64 → da v = nI l → (∃ k, k < 64 ∧ db v = nI k) → ∃ k, k < 64 ∧ db a = nI k := by
  intro l
  induction l with
  | zero =>
    intro v hv hl e h
    by_cases hne : v = a
    · rw [← hne]
      exact h
    · obtain ⟨u, t, l', _, _, _, z, _⟩ := Ha.2.2.2 v 0 hv hl hne e
      omega
  | succ l ih =>
    intro v hv hl e h
    by_cases hne : v = a
    · rw [← hne]
      exact h
    · obtain ⟨u, t, l', hu, ht, hbn, z, e'⟩ := Ha.2.2.2 v (l + 1) hv hl hne e
      obtain rfl : l' = l := by omega
      have hr := roads_le K
      have hk : K u = 1 := by
        rcases Ha.2.1 u hu with y | ⟨_, _, _, y⟩
        · rw [e'] at y
          exact absurd y (nI_m1 (by omega))
        · exact y
      obtain ⟨k, hk64, ek⟩ := h
      have hsym := nb_sym u hu t ht (by rw [hbn]; exact hv)
      rw [hbn] at hsym
      obtain ⟨k', _, hk', ek'⟩ := Hb.2.2.1 v (3 - t) k hv (by omega) (by rw [hsym]; exact hu) (by rw [hsym]; exact hk) hk64 ek
      rw [hsym] at ek'
      exact ih u hu (by omega) e' ⟨k', hk', ek'⟩
theorem FS_sym {K : Nat → Int32} {a b : Nat} {da db : Nat → Int32} (ha : a < 64) (hb : b < 64) (Ha : FS K a da) (Hb : FS K b db) (h : da b ≠ -1) : db a ≠ -1 := by
  have hr := roads_le K
  rcases Ha.2.1 b hb with z | ⟨l, l1, l2, _⟩
  · exact absurd z h
  · obtain ⟨k, hk, e⟩ := FS_back ha hb Ha Hb l b hb (by omega) l2 ⟨0, by omega, Hb.1⟩
    rw [e]
    exact nI_m1 (by omega)
