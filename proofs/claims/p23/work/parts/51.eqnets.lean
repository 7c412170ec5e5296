/-! the class and the reference, side by side: the nets -/
def cRd (K : Nat → Int32) (C : zS) : Prop := (∀ k, k < 64 → C 2 k = rdI K k) ∧ C 15 0 = nI (roads K) ∧ (∀ b, b < 64 → wOK K b (fun a => C 4 (64 * b + a))) ∧ ∀ u, u < 64 → C 3 u = nvv (fun s => C 4 (64 * s + u)) 64 (-1)
def mRd (K : Nat → Int32) (M : zS) : Prop := (∀ k, k < 64 → M 2 k = rdI K k) ∧ (∀ b, b < 64 → wOK K b (fun a => M 4 (64 * b + a))) ∧ ∀ k, k < 64 → M 3 k = netR (M 2) (M 4) k
theorem cRd_of (C : zS) : cRd (C 0) (g_X3_find C) := (cfind_f C).2
theorem mRd_of (M : zS) : mRd (M 0) (g_X7_findsNets M) := (nets_f M).2
theorem cRd_congr {K : Nat → Int32} {C C' : zS} (H : cRd K C) (h2 : C' 2 = C 2) (h3 : C' 3 = C 3) (h4 : C' 4 = C 4) (h15 : C' 15 = C 15) : cRd K C' := by
  unfold cRd
  rw [h2, h3, h4, h15]
  exact H
theorem mRd_congr {K : Nat → Int32} {M M' : zS} (H : mRd K M) (h2 : M' 2 = M 2) (h3 : M' 3 = M 3) (h4 : M' 4 = M 4) : mRd K M' := by
  unfold mRd
  rw [h2, h3, h4]
  exact H
theorem wOK_uniq {K : Nat → Int32} {b : Nat} {d d' : Nat → Int32} (hb : b < 64) (H : wOK K b d) (H' : wOK K b d') : ∀ v, v < 64 → d v = d' v := by
  intro v hv
  rcases H with ⟨k, h⟩ | ⟨k, h⟩
  · rcases H' with ⟨_, h'⟩ | ⟨k', _⟩
    · exact FS_uniq hb h h' v hv
    · exact absurd k k'
  · rcases H' with ⟨k', _⟩ | ⟨_, h'⟩
    · exact absurd k' k
    · rw [h v hv, h' v hv]
theorem wOK_symI {K D : Nat → Int32} (hw : ∀ b, b < 64 → wOK K b (fun a => D (64 * b + a))) {j u : Nat} (hj : j < 64) (hu : u < 64) (h : D (64 * j + u) ≠ -1) : D (64 * u + j) ≠ -1 := by
  rcases hw j hj with ⟨_, f⟩ | ⟨_, f⟩
  · have ku : K u = 1 := by
      rcases f.2.1 u hu with z | ⟨_, _, _, z⟩
      · exact absurd z h
      · exact z
    rcases hw u hu with ⟨_, g⟩ | ⟨k, _⟩
    · exact FS_sym (a := j) (b := u) (da := fun a => D (64 * j + a)) (db := fun a => D (64 * u + a)) hj hu f g h
    · exact absurd ku k
  · exact absurd (f u hu) h
theorem wOK_sym {K D : Nat → Int32} (hw : ∀ b, b < 64 → wOK K b (fun a => D (64 * b + a))) {j u : Nat} (hj : j < 64) (hu : u < 64) : D (64 * j + u) = -1 ↔ D (64 * u + j) = -1 := by
  constructor
  · intro h
    by_cases z : D (64 * u + j) = -1
    · exact z
    · exact absurd h (wOK_symI hw hu hj z)
  · intro h
    by_cases z : D (64 * j + u) = -1
    · exact z
    · exact absurd h (wOK_symI hw hj hu z)
theorem eq_d {K : Nat → Int32} {C M : zS} (hC : cRd K C) (hM : mRd K M) {b j : Nat} (hb : b < 64) (hj : j < 64) : C 4 (64 * b + j) = M 4 (64 * b + j) := wOK_uniq hb (hC.2.2.1 b hb) (hM.2.1 b hb) j hj
theorem eq_net {K : Nat → Int32} {C M : zS} (hC : cRd K C) (hM : mRd K M) {k : Nat} (hk : k < 64) : f_X3_netOf C (nI k) = M 3 k := by
  have h4 : ∀ b, b < 64 → ∀ j, j < 64 → C 4 (64 * b + j) = M 4 (64 * b + j) := fun b hb j hj => eq_d hC hM hb hj
  obtain ⟨c2, c15, c4, c3⟩ := hC
  obtain ⟨m2, m4, m3⟩ := hM
  unfold f_X3_netOf
  rw [rg_nI hk (by decide), c2 k hk, m3 k hk]
  unfold netR
  rw [m2 k hk]
  by_cases z : rdI K k = -1
  · rw [if_neg (not_not_intro z), if_pos z]
  · rw [if_pos z, if_neg z]
    rcases rdI_in K hk with y | ⟨u, hu, e, ku⟩
    · exact absurd y z
    · rw [e, nI_clamp (by omega), rg_nI hu (by decide), c3 u hu]
      exact nvv_iff 64 (-1) (fun j hj => by
        rw [← h4 u hu j hj]
        exact wOK_sym c4 hj hu)
def mBet (M : zS) (a b : Nat) : Int32 := if M 2 a = -1 then -1 else if ¬ M 2 b = -1 then M 4 (64 * (M 2 a).toNatClampNeg + (M 2 b).toNatClampNeg) else -1
theorem eq_bet {K : Nat → Int32} {C M : zS} (hC : cRd K C) (hM : mRd K M) {a b : Nat} (ha : a < 64) (hb : b < 64) : f_X3_between C (nI a) (nI b) = mBet M a b := by
  unfold f_X3_between mBet
  rw [rg_nI ha (by decide), rg_nI hb (by decide), hC.1 a ha, hC.1 b hb, hM.1 a ha, hM.1 b hb]
  rcases rdI_in K ha with y | ⟨u, hu, e, _⟩
  · rw [if_pos y, if_pos y]
  · rw [e, if_neg (nI_m1 (by omega)), if_neg (nI_m1 (by omega))]
    rcases rdI_in K hb with y | ⟨v, hv, e2, _⟩
    · rw [if_neg (not_not_intro y), if_neg (not_not_intro y)]
    · rw [e2, if_pos (nI_m1 (by omega)), if_pos (nI_m1 (by omega)), cIx, rg_nI (by omega) (by decide), nI_clamp (by omega), nI_clamp (by omega)]
      exact eq_d hC hM hu hv
theorem net_in {K : Nat → Int32} {M : zS} (hM : mRd K M) {k : Nat} (hk : k < 64) : M 3 k = -1 ∨ ∃ u, u < 64 ∧ M 3 k = nI u := by
  rw [hM.2.2 k hk]
  exact netR_in
/-! SUPPLY -/
theorem upd_0 (f : Nat → Int32) (u : Nat) : upd f u (f u + 0) = f := by
  funext k
  by_cases e : k = u
  · rw [e, pk_us, Int32.add_zero]
  · rw [pk_un e]
theorem m_sup2 {S T : zS} : ∀ n, (∀ r, r ≠ 6 → r ≠ 7 → (lp_X7_supplies_2 S T n) r = T r) ∧ ∀ k, k < n → (lp_X7_supplies_2 S T n) 6 k = 0 ∧ (lp_X7_supplies_2 S T n) 7 k = 0 := by
  intro n
  induction n with
  | zero => exact ⟨fun _ _ _ => rfl, fun k hk => absurd hk (Nat.not_lt_zero _)⟩
  | succ n ih =>
    obtain ⟨h1, h2⟩ := ih
    show (∀ r, r ≠ 6 → r ≠ 7 → (bd_X7_supplies_2 S n (lp_X7_supplies_2 S T n)) r = T r) ∧ ∀ k, k < n + 1 → (bd_X7_supplies_2 S n (lp_X7_supplies_2 S T n)) 6 k = 0 ∧ (bd_X7_supplies_2 S n (lp_X7_supplies_2 S T n)) 7 k = 0
    generalize lp_X7_supplies_2 S T n = Y at h1 h2 ⊢
    unfold bd_X7_supplies_2
    refine ⟨fun r a b => ?_, fun k hk => ?_⟩
    · rw [zUp_n _ _ b, zUp_n _ _ a]
      exact h1 r a b
    · show upd (Y 6) n 0 k = 0 ∧ upd (Y 7) n 0 k = 0
      by_cases e : k = n
      · rw [e, pk_us, pk_us]
        exact ⟨rfl, rfl⟩
      · rw [pk_un e, pk_un e]
        exact h2 k (by omega)
def eqS (K L : Nat → Int32) (C M : zS) : Prop := cRd K C ∧ mRd K M ∧ C 0 = K ∧ M 0 = K ∧ C 1 = L ∧ M 1 = L
def inv2 (C M T Y : zS) : Prop := (∀ r, r ≠ 6 → r ≠ 7 → T r = C r) ∧ (∀ r, r ≠ 6 → r ≠ 7 → Y r = M r) ∧ ∀ k, k < 64 → T 6 k = Y 6 k ∧ T 7 k = Y 7 k
theorem inv2_up {C M T Y : zS} {u : Nat} (a b : Int32) (h : inv2 C M T Y) (hu : u < 64) : inv2 C M (zUp (zUp T 6 (upd (T 6) u (T 6 u + a))) 7 (upd (T 7) u (T 7 u + b))) (zUp (zUp Y 6 (upd (Y 6) u (Y 6 u + a))) 7 (upd (Y 7) u (Y 7 u + b))) := by
  obtain ⟨h1, h2, h3⟩ := h
  refine ⟨fun r x y => by rw [zUp_n _ _ y, zUp_n _ _ x]; exact h1 r x y, fun r x y => by rw [zUp_n _ _ y, zUp_n _ _ x]; exact h2 r x y, fun k hk => ?_⟩
  show upd (T 6) u (T 6 u + a) k = upd (Y 6) u (Y 6 u + a) k ∧ upd (T 7) u (T 7 u + b) k = upd (Y 7) u (Y 7 u + b) k
  by_cases e : k = u
  · rw [e, pk_us, pk_us, pk_us, pk_us, (h3 u hu).1, (h3 u hu).2]
    exact ⟨rfl, rfl⟩
  · rw [pk_un e, pk_un e, pk_un e, pk_un e]
    exact h3 k hk
theorem netOf_congr {T C : zS} {x : Int32} (h2 : T 2 = C 2) (h3 : T 3 = C 3) : f_X3_netOf T x = f_X3_netOf C x := by
  unfold f_X3_netOf
  rw [h2, h3]
theorem eq_sup26 {K L : Nat → Int32} {C M S S' T0 Y0 : zS} (hE : eqS K L C M) (h0 : inv2 C M T0 Y0) : ∀ n, n ≤ 64 → inv2 C M (lp_X5_find_26 S T0 n) (lp_X7_supplies_30 S' Y0 n) := by
  intro n
  induction n with
  | zero => intro _; exact h0
  | succ n ih =>
    intro hn
    have h := ih (by omega)
    show inv2 C M (bd_X5_find_26 S n (lp_X5_find_26 S T0 n)) (bd_X7_supplies_30 S' n (lp_X7_supplies_30 S' Y0 n))
    generalize lp_X5_find_26 S T0 n = T at h ⊢
    generalize lp_X7_supplies_30 S' Y0 n = Y at h ⊢
    obtain ⟨e1, e2, e3, e4, e5, e6⟩ := hE
    have hT := h.1
    have hY := h.2.1
    have q1 : f_X3_netOf T (nI n) = M 3 n := (netOf_congr (hT 2 (by decide) (by decide)) (hT 3 (by decide) (by decide))).trans (eq_net e1 e2 (by omega))
    have q2 : f_X0_kindOf T (nI n) = K n := by
      unfold f_X0_kindOf
      rw [rg_nI (by omega) (by decide), hT 0 (by decide) (by decide), e3]
    have q3 : Y 3 n = M 3 n := by rw [hY 3 (by decide) (by decide)]
    have q4 : Y 0 n = K n := by rw [hY 0 (by decide) (by decide), e4]
    unfold bd_X5_find_26 bd_X7_supplies_30
    rw [q1, q2, q3, q4]
    unfold g_X5_give
    rcases net_in e2 (show n < 64 by omega) with z | ⟨u, hu, z⟩
    · rw [z, if_neg (not_not_intro rfl), if_pos rfl]
      exact h
    · rw [z, if_pos (nI_m1 (by omega)), if_neg (nI_m1 (by omega)), nI_clamp (by omega), ra_nI hu (by decide), ra_nI hu (by decide)]
      by_cases k5 : K n = 5
      · have k6 : ¬ K n = 6 := by
          rw [k5]
          decide
        rw [if_neg (not_not_intro k5), if_neg (not_not_intro k5), if_pos k6]
        have e7 : zUp T 6 (upd (T 6) u (T 6 u + 20)) = zUp (zUp T 6 (upd (T 6) u (T 6 u + 20))) 7 (upd (T 7) u (T 7 u + 0)) := by
          rw [upd_0]
          exact (zUp_self (zUp T 6 (upd (T 6) u (T 6 u + 20))) 7).symm
        rw [e7]
        exact inv2_up 20 0 h hu
      · rw [if_pos k5, if_pos k5]
        by_cases k6 : K n = 6
        · rw [if_neg (not_not_intro k6), if_neg (not_not_intro k6)]
          have e7 : zUp T 7 (upd (T 7) u (T 7 u + 20)) = zUp (zUp T 6 (upd (T 6) u (T 6 u + 0))) 7 (upd (T 7) u (T 7 u + 20)) := by
            rw [upd_0, zUp_self]
          rw [e7]
          exact inv2_up 0 20 h hu
        · rw [if_pos k6, if_pos k6]
          have e7 : T = zUp (zUp T 6 (upd (T 6) u (T 6 u + 0))) 7 (upd (T 7) u (T 7 u + 0)) := by
            rw [upd_0, upd_0, zUp_self, zUp_self]
          rw [e7]
          exact inv2_up 0 0 h hu
def mcore (Y : zS) (n : Nat) (d : Int32) : zS := if (f_X7_isZone Y n) = 0 then (zUp Y 8 (upd (Y 8) n 0)) else (if (Y 3 n) = (-1) then (zUp Y 8 (upd (Y 8) n 0)) else (if (Y 6 (Y 3 n).toNatClampNeg) < d then (zUp Y 8 (upd (Y 8) n 0)) else (if (Y 7 (Y 3 n).toNatClampNeg) < d then (zUp Y 8 (upd (Y 8) n 0)) else (zUp (zUp (zUp Y 8 (upd (Y 8) n 1)) 6 (upd (Y 6) (Y 3 n).toNatClampNeg ((Y 6 (Y 3 n).toNatClampNeg) - d))) 7 (upd (Y 7) (Y 3 n).toNatClampNeg ((Y 7 (Y 3 n).toNatClampNeg) - d))))))
theorem mcore_e (S : zS) (n : Nat) (Y : zS) : bd_X7_supplies_115 S n Y = mcore Y n (if Y 1 n = 0 then 1 else Y 1 n) := by
  unfold bd_X7_supplies_115 mcore
  by_cases c : Y 1 n = 0
  · rw [if_neg (not_not_intro c), if_pos c]
  · rw [if_pos c, if_neg c]
def lvOK (L : Nat → Int32) : Prop := ∀ k, k < 64 → L k = 0 ∨ L k = 1 ∨ L k = 2 ∨ L k = 3
def inv3 (C M : zS) (n : Nat) (T Y : zS) : Prop := (∀ r, r ≠ 6 → r ≠ 7 → r ≠ 8 → T r = C r) ∧ (∀ r, r ≠ 6 → r ≠ 7 → r ≠ 8 → Y r = M r) ∧ (∀ k, k < 64 → T 6 k = Y 6 k ∧ T 7 k = Y 7 k) ∧ (∀ k, k < n → T 8 k = Y 8 k ∧ (Y 8 k = 0 ∨ Y 8 k = 1)) ∧ ∀ k, n ≤ k → k < 64 → T 8 k = 0
theorem inv3_no {C M T Y : zS} {n : Nat} (h : inv3 C M n T Y) (hn : n < 64) : inv3 C M (n + 1) T (zUp Y 8 (upd (Y 8) n 0)) := by
  obtain ⟨h1, h2, h3, h4, h5⟩ := h
  refine ⟨h1, fun r x y z => by rw [zUp_n _ _ z]; exact h2 r x y z, h3, fun k hk => ?_, fun k a b => h5 k (by omega) b⟩
  show T 8 k = upd (Y 8) n 0 k ∧ (upd (Y 8) n 0 k = 0 ∨ upd (Y 8) n 0 k = 1)
  by_cases e : k = n
  · rw [e, pk_us]
    exact ⟨h5 n (Nat.le_refl _) hn, Or.inl rfl⟩
  · rw [pk_un e]
    exact h4 k (by omega)
theorem inv3_yes {C M T Y : zS} {n u : Nat} (d : Int32) (h : inv3 C M n T Y) (hn : n < 64) (hu : u < 64) : inv3 C M (n + 1) (zUp (zUp (zUp T 6 (upd (T 6) u (T 6 u + -d))) 7 (upd (T 7) u (T 7 u + -d))) 8 (upd (T 8) n 1)) (zUp (zUp (zUp Y 8 (upd (Y 8) n 1)) 6 (upd (Y 6) u (Y 6 u - d))) 7 (upd (Y 7) u (Y 7 u - d))) := by
  obtain ⟨h1, h2, h3, h4, h5⟩ := h
  refine ⟨fun r x y z => by rw [zUp_n _ _ z, zUp_n _ _ y, zUp_n _ _ x]; exact h1 r x y z, fun r x y z => by rw [zUp_n _ _ y, zUp_n _ _ x, zUp_n _ _ z]; exact h2 r x y z, fun k hk => ?_, fun k hk => ?_, fun k a b => ?_⟩
  · show upd (T 6) u (T 6 u + -d) k = upd (Y 6) u (Y 6 u - d) k ∧ upd (T 7) u (T 7 u + -d) k = upd (Y 7) u (Y 7 u - d) k
    rw [Int32.sub_eq_add_neg, Int32.sub_eq_add_neg]
    by_cases e : k = u
    · rw [e, pk_us, pk_us, pk_us, pk_us, (h3 u hu).1, (h3 u hu).2]
      exact ⟨rfl, rfl⟩
    · rw [pk_un e, pk_un e, pk_un e, pk_un e]
      exact h3 k hk
  · show upd (T 8) n 1 k = upd (Y 8) n 1 k ∧ (upd (Y 8) n 1 k = 0 ∨ upd (Y 8) n 1 k = 1)
    by_cases e : k = n
    · rw [e, pk_us, pk_us]
      exact ⟨rfl, Or.inr rfl⟩
    · rw [pk_un e, pk_un e]
      exact h4 k (by omega)
  · show upd (T 8) n 1 k = 0
    rw [pk_un (by omega)]
    exact h5 k (by omega) b
theorem lv_1 {x : Int32} (h : x = 0 ∨ x = 1 ∨ x = 2 ∨ x = 3) : (if x < 1 then (1 : Int32) else x) = if x = 0 then 1 else x := by
  rcases h with z | z | z | z <;> rw [z] <;> decide
theorem eq_sup54 {K L : Nat → Int32} {C M S S' T0 Y0 : zS} (hE : eqS K L C M) (hL : lvOK L) (h0 : inv3 C M 0 T0 Y0) : ∀ n, n ≤ 64 → inv3 C M n (lp_X5_find_54 S T0 n) (lp_X7_supplies_115 S' Y0 n) := by
  intro n
  induction n with
  | zero => intro _; exact h0
  | succ n ih =>
    intro hn
    have h := ih (by omega)
    show inv3 C M (n + 1) (bd_X5_find_54 S n (lp_X5_find_54 S T0 n)) (bd_X7_supplies_115 S' n (lp_X7_supplies_115 S' Y0 n))
    generalize lp_X5_find_54 S T0 n = T at h ⊢
    generalize lp_X7_supplies_115 S' Y0 n = Y at h ⊢
    have hn' : n < 64 := hn
    obtain ⟨e1, e2, e3, e4, e5, e6⟩ := hE
    have hT := h.1
    have hY := h.2.1
    have h67 := h.2.2.1
    have q1 : f_X3_netOf T (nI n) = M 3 n := (netOf_congr (hT 2 (by decide) (by decide) (by decide)) (hT 3 (by decide) (by decide) (by decide))).trans (eq_net e1 e2 hn')
    have q2 : f_X0_levelOf T (nI n) = L n := by
      unfold f_X0_levelOf
      rw [rg_nI hn' (by decide), hT 1 (by decide) (by decide) (by decide), e5]
    have q3 : Y 3 n = M 3 n := by rw [hY 3 (by decide) (by decide) (by decide)]
    have q4 : Y 1 n = L n := by rw [hY 1 (by decide) (by decide) (by decide), e6]
    have q5 : f_X0_isZone T (nI n) = f_X7_isZone Y n := by
      unfold f_X0_isZone f_X7_isZone
      rw [rg_nI hn' (by decide), hT 0 (by decide) (by decide) (by decide), e3, hY 0 (by decide) (by decide) (by decide), e4]
    rw [mcore_e]
    unfold bd_X5_find_54 mcore
    rw [q1, q2, q3, q4, q5, lv_1 (hL n hn')]
    generalize (if L n = 0 then (1 : Int32) else L n) = d
    by_cases c : f_X7_isZone Y n = 0
    · rw [if_pos c, if_pos c]
      exact inv3_no h hn'
    · rw [if_neg c, if_neg c]
      unfold g_X5_serve
      rcases net_in e2 hn' with z | ⟨u, hu, z⟩
      · rw [z, if_pos rfl, if_pos rfl]
        exact inv3_no h hn'
      · rw [z, if_neg (nI_m1 (by omega)), if_neg (nI_m1 (by omega)), nI_clamp (by omega), rg_nI hu (by decide), rg_nI hu (by decide), (h67 u hu).1, (h67 u hu).2]
        by_cases c6 : Y 6 u < d
        · rw [if_pos c6, if_pos c6]
          exact inv3_no h hn'
        · rw [if_neg c6, if_neg c6]
          by_cases c7 : Y 7 u < d
          · rw [if_pos c7, if_pos c7]
            exact inv3_no h hn'
          · rw [if_neg c7, if_neg c7, ra_nI hu (by decide), ra_nI hu (by decide), rs_nI hn' (by decide)]
            exact inv3_yes d h hn' hu
