/-! the class's roads, by the kinds alone -/
theorem rg_nI {n u : Nat} {f : Nat → Int32} (hu : u < n) (hn : n < 2 ^ 31) : rg n f (nI u) = f u := by
  unfold rg
  rw [if_neg (nI_pos (by omega)), if_neg (fun z => by have := (nI_leI (by omega) (by omega)).mp z; omega), nI_clamp (by omega)]
theorem rs_nI {n u : Nat} {f : Nat → Int32} {v : Int32} (hu : u < n) (hn : n < 2 ^ 31) : rs n f (nI u) v = upd f u v := by
  unfold rs
  rw [if_neg (nI_pos (by omega)), if_neg (fun z => by have := (nI_leI (by omega) (by omega)).mp z; omega), nI_clamp (by omega)]
theorem ra_nI {n u : Nat} {f : Nat → Int32} {v : Int32} (hu : u < n) (hn : n < 2 ^ 31) : ra n f (nI u) v = upd f u (f u + v) := by
  unfold ra
  rw [if_neg (nI_pos (by omega)), if_neg (fun z => by have := (nI_leI (by omega) (by omega)).mp z; omega), nI_clamp (by omega)]
theorem cnt_s (P : Nat → Bool) (n : Nat) : cnt P (n + 1) = cnt P n + (if P n then 1 else 0) := rfl
theorem rg_m1 {n : Nat} {f : Nat → Int32} : rg n f (-1) = -1 := by
  unfold rg
  exact if_pos (by decide)
theorem cRoad {S : zS} {u : Nat} (hu : u < 64) : f_X0_isRoad S (nI u) = if S 0 u = 1 then 1 else 0 := by
  unfold f_X0_isRoad
  rw [rg_nI hu (by decide)]
  by_cases c : S 0 u = 1
  · rw [if_neg (not_not_intro c), if_pos c]
  · rw [if_pos c, if_neg c]
theorem lp12_step {S : zS} {c i q : Nat} (hc : c < 64) (hi : i < 4) : lp_X3_findRoad_12 S (nI c) (q + 1) i = if nb c i < 64 ∧ S 0 (nb c i) = 1 then nI (nb c i) else lp_X3_findRoad_12 S (nI c) q (i + 1) := by
  rw [lp_X3_findRoad_12, nbX6 c hc i hi]
  have hle := nb_le c hc i hi
  by_cases e : nb c i = 64
  · rw [if_pos e, if_pos rfl, if_neg (fun z => by omega)]
  · rw [if_neg e, if_neg (nI_m1 (by omega)), cRoad (by omega)]
    by_cases k : S 0 (nb c i) = 1
    · rw [if_pos k, if_neg (by decide), if_pos ⟨by omega, k⟩]
    · rw [if_neg k, if_pos rfl, if_neg (fun z => k z.2)]
theorem cFind {S : zS} {c : Nat} (hc : c < 64) : f_X3_findRoad S (nI c) = rdI (S 0) c := by
  unfold f_X3_findRoad rdI
  rw [cRoad hc]
  by_cases k : S 0 c = 1
  · rw [if_pos k, if_neg (by decide), if_pos k]
  · rw [if_neg k, if_pos rfl, if_neg k]
    rw [lp12_step hc (by decide), lp12_step hc (by decide), lp12_step hc (by decide), lp12_step hc (by decide)]
    unfold rv rv rv rv rv lp_X3_findRoad_12
    rfl
theorem cIx {f u : Nat} : nI f * 64 + nI u = nI (64 * f + u) := by
  show nI f * nI 64 + nI u = _
  rw [pk_mul, nI_add, Nat.mul_comm]
/-- what one walk of the class keeps while the queue's place i is looked at -/
def cIn (f i n : Nat) (T0 : zS) (v0 j m : Nat) (T : zS) : Prop := bJ (T 0) f (fun a => T 4 (64 * f + a)) (T 5) i m j ∧ T 5 i = nI v0 ∧ i < m ∧ n ≤ m ∧ (∀ a, a < n → T 5 a = T0 5 a) ∧ (∀ r, r ≠ 4 → r ≠ 5 → T r = T0 r) ∧ (∀ b, (b < 64 * f ∨ 64 * f + 64 ≤ b) → T 4 b = T0 4 b) ∧ ∀ u, u < 64 → T0 4 (64 * f + u) ≠ -1 → T 4 (64 * f + u) = T0 4 (64 * f + u)
theorem c_in {S : zS} {f i n v0 : Nat} {nq : Int32} {T31 T0 : zS} (hf : f < 64) (hJ : bJ (T0 0) f (fun a => T0 4 (64 * f + a)) (T0 5) i n 0) (hi : i < n) (hv0 : v0 < 64) (hq : T0 5 i = nI v0) (hq1 : T31 5 i = nI v0) : ∀ j, j ≤ 4 → ∃ m, (lp_X3_spread_82 S (nI f) i nq T31 (nI n) T0 j).1 = nI m ∧ cIn f i n T0 v0 j m (lp_X3_spread_82 S (nI f) i nq T31 (nI n) T0 j).2
  | 0, _ => ⟨n, rfl, hJ, hq, hi, Nat.le_refl _, fun _ _ => rfl, fun _ _ _ => rfl, fun _ _ => rfl, fun _ _ _ => rfl⟩
  | j + 1, hj => by
    obtain ⟨m, hm, h⟩ := c_in (S := S) (nq := nq) hf hJ hi hv0 hq hq1 j (by omega)
    have hle := nb_le _ hv0 j (by omega)
    have h64 := bJ_64 h.1
    show ∃ m, (bd_X3_spread_82 S (nI f) i nq T31 j (lp_X3_spread_82 S (nI f) i nq T31 (nI n) T0 j).1 (lp_X3_spread_82 S (nI f) i nq T31 (nI n) T0 j).2).1 = nI m ∧ cIn f i n T0 v0 (j + 1) m (bd_X3_spread_82 S (nI f) i nq T31 j (lp_X3_spread_82 S (nI f) i nq T31 (nI n) T0 j).1 (lp_X3_spread_82 S (nI f) i nq T31 (nI n) T0 j).2).2
    rw [hm]
    generalize (lp_X3_spread_82 S (nI f) i nq T31 (nI n) T0 j).2 = T at h ⊢
    obtain ⟨h1, h2, h3, h4, h5, h6, h7, h8⟩ := h
    have hi64 : i < 64 := by omega
    unfold bd_X3_spread_82
    rw [rg_nI hi64 (by decide), hq1, nbX6 v0 hv0 j (by omega)]
    by_cases e : nb v0 j = 64
    · rw [if_pos e, if_pos rfl]
      exact ⟨m, rfl, bJ_skip h1 (by omega) h3 hv0 h2 (fun z => by omega), h2, h3, h4, h5, h6, h7, h8⟩
    · have hb : nb v0 j < 64 := by omega
      rw [if_neg e, if_neg (nI_m1 (by omega)), cRoad hb]
      by_cases k : T 0 (nb v0 j) = 1
      · rw [if_pos k, if_neg (by decide), cIx, rg_nI (by omega) (by decide)]
        by_cases d : T 4 (64 * f + nb v0 j) = -1
        · have hm64 : m < 64 := by
            have h9 := bJ_64 (bJ_push h1 (by omega) h3 hv0 h2 hb k d)
            omega
          rw [if_neg (not_not_intro d), cIx, rg_nI (by omega) (by decide), rs_nI (by omega) (by decide), rs_nI hm64 (by decide)]
          refine ⟨m + 1, (nI_1 m), bJ_congr (bJ_push h1 (by omega) h3 hv0 h2 hb k d) (fun _ _ => rfl) (fun a ha => ?_) (fun a ha => rfl), ?_, by omega, by omega, fun a ha => ?_, fun r hr4 hr5 => ?_, fun b hb2 => ?_, fun u hu hne => ?_⟩
          · show upd (T 4) (64 * f + nb v0 j) (T 4 (64 * f + v0) + 1) (64 * f + a) = _
            unfold upd
            by_cases z : a = nb v0 j
            · rw [if_pos (by rw [z]), if_pos z]
            · rw [if_neg (by omega), if_neg z]
          · show upd (T 5) m _ i = _
            rw [pk_un (by omega)]
            exact h2
          · show upd (T 5) m _ a = _
            rw [pk_un (by omega)]
            exact h5 a ha
          · show zUp (zUp T 4 (upd (T 4) (64 * f + nb v0 j) (T 4 (64 * f + v0) + 1))) 5 (upd (T 5) m (nI (nb v0 j))) r = _
            rw [zUp_n _ _ hr5, zUp_n _ _ hr4]
            exact h6 r hr4 hr5
          · show upd (T 4) (64 * f + nb v0 j) _ b = _
            rw [pk_un (by omega)]
            exact h7 b hb2
          · show upd (T 4) (64 * f + nb v0 j) _ (64 * f + u) = _
            have hz : u ≠ nb v0 j := fun z => by
              apply hne
              rw [← h8 u hu hne, z]
              exact d
            rw [pk_un (by omega)]
            exact h8 u hu hne
        · rw [if_pos d]
          exact ⟨m, rfl, bJ_skip h1 (by omega) h3 hv0 h2 (fun _ _ => d), h2, h3, h4, h5, h6, h7, h8⟩
      · rw [if_neg k, if_pos rfl]
        exact ⟨m, rfl, bJ_skip h1 (by omega) h3 hv0 h2 (fun _ z => absurd z k), h2, h3, h4, h5, h6, h7, h8⟩
theorem c_out {S : zS} {f : Nat} (hf : f < 64) : ∀ (q i n : Nat) (T : zS), bJ (T 0) f (fun a => T 4 (64 * f + a)) (T 5) i n 0 → 64 ≤ i + q → (∀ a u, a < i → u < 64 → T 5 a = nI u → T 3 u ≠ -1) →
    ∃ R, (lp_X3_spread_31 S (nI f) q i (nI n) T).2 = R ∧ FS (T 0) f (fun a => R 4 (64 * f + a)) ∧ (∀ b, (b < 64 * f ∨ 64 * f + 64 ≤ b) → R 4 b = T 4 b) ∧ (∀ r, r ≠ 3 → r ≠ 4 → r ≠ 5 → R r = T r) ∧ (∀ u, u < 64 → T 4 (64 * f + u) ≠ -1 → R 4 (64 * f + u) = T 4 (64 * f + u)) ∧ ∀ u, u < 64 → (R 4 (64 * f + u) ≠ -1 → T 3 u = -1 → R 3 u = nI f) ∧ ((R 4 (64 * f + u) = -1 ∨ T 3 u ≠ -1) → R 3 u = T 3 u) := by
  intro q
  have fin : ∀ (i : Nat) (T : zS), bJ (T 0) f (fun a => T 4 (64 * f + a)) (T 5) i i 0 → (∀ a u, a < i → u < 64 → T 5 a = nI u → T 3 u ≠ -1) → FS (T 0) f (fun a => T 4 (64 * f + a)) ∧ ∀ u, u < 64 → (T 4 (64 * f + u) ≠ -1 → T 3 u = -1 → T 3 u = nI f) := by
    intro i T H h3
    refine ⟨bJ_fin H, fun u hu hr hz => ?_⟩
    obtain ⟨v, l, g1, g2, g3, g4, g5, g6, g7, g8, g9⟩ := H
    rcases g6 u hu with z | ⟨a, ha, z⟩
    · exact absurd z hr
    · exact absurd hz (h3 a u ha hu (by rw [← z]; exact (g2 a ha).2.1))
  induction q with
  | zero =>
    intro i n T H hn h3
    have h1 : i ≤ n := H.choose_spec.choose_spec.1.1
    have h64 := bJ_64 H
    obtain rfl : i = n := by omega
    obtain ⟨a, b⟩ := fin i T H h3
    exact ⟨T, rfl, a, fun _ _ => rfl, fun _ _ _ _ => rfl, fun _ _ _ => rfl, fun u hu => ⟨b u hu, fun _ => rfl⟩⟩
  | succ q ih =>
    intro i n T H hn h3
    have h1 : i ≤ n := H.choose_spec.choose_spec.1.1
    have h64 := bJ_64 H
    rw [lp_X3_spread_31]
    by_cases c : nI n ≤ nI i
    · rw [if_pos c]
      have h2 := (nI_leI (by omega) (by omega)).mp c
      obtain rfl : i = n := by omega
      obtain ⟨a, b⟩ := fin i T H h3
      exact ⟨T, rfl, a, fun _ _ => rfl, fun _ _ _ _ => rfl, fun _ _ _ => rfl, fun u hu => ⟨b u hu, fun _ => rfl⟩⟩
    · rw [if_neg c]
      have h2 : i < n := by
        rcases Nat.lt_or_ge i n with z | z
        · exact z
        · exact absurd ((nI_leI (by omega) (by omega)).mpr z) c
      obtain ⟨v0, hv0, hqv, _, l0, hl0, hd0⟩ := bJ_q H h2
      have hd : T 4 (64 * f + v0) ≠ -1 := by
        have hd1 : T 4 (64 * f + v0) = nI l0 := hd0
        rw [hd1]
        exact nI_m1 (by omega)
      rw [rg_nI (show i < 64 by omega) (by decide), hqv, rg_nI hv0 (by decide)]
      -- one step: the queue's place i is done over T0, whose row 3 has v0 set
      have step : ∀ T0 : zS, (∀ r, r ≠ 3 → T0 r = T r) → T0 3 v0 ≠ -1 → (∀ u, u ≠ v0 → T0 3 u = T 3 u) → (T 3 v0 ≠ -1 → T0 3 v0 = T 3 v0) → (T 3 v0 = -1 → T0 3 v0 = nI f) → ∀ m T', cIn f i n T0 v0 4 m T' → ∃ R, (lp_X3_spread_31 S (nI f) q (i + 1) (nI m) T').2 = R ∧ FS (T 0) f (fun a => R 4 (64 * f + a)) ∧ (∀ b, (b < 64 * f ∨ 64 * f + 64 ≤ b) → R 4 b = T 4 b) ∧ (∀ r, r ≠ 3 → r ≠ 4 → r ≠ 5 → R r = T r) ∧ (∀ u, u < 64 → T 4 (64 * f + u) ≠ -1 → R 4 (64 * f + u) = T 4 (64 * f + u)) ∧ ∀ u, u < 64 → (R 4 (64 * f + u) ≠ -1 → T 3 u = -1 → R 3 u = nI f) ∧ ((R 4 (64 * f + u) = -1 ∨ T 3 u ≠ -1) → R 3 u = T 3 u) := by
        intro T0 e0 e1 e2 e3 e4 m T' hc
        obtain ⟨g1, g2, g3, g4, g5, g6, g7, g8⟩ := hc
        obtain ⟨R, r1, r2, r3, r4, r5, r6⟩ := ih (i + 1) m T' (bJ_next g1) (by omega) (fun a u ha hu hz => by
          rw [g6 3 (by decide) (by decide)]
          by_cases ea : a = i
          · rw [ea, g2] at hz
            have := nI_inj (by omega) (by omega) hz
            rw [← this]
            exact e1
          · have hz2 : T 5 a = nI u := by
              rw [← hz, g5 a (by omega), e0 5 (by decide)]
            by_cases eu : u = v0
            · rw [eu]
              exact e1
            · rw [e2 u eu]
              exact h3 a u (by omega) hu hz2)
        rw [g6 0 (by decide) (by decide), e0 0 (by decide)] at r2
        have t3 : T' 3 = T0 3 := g6 3 (by decide) (by decide)
        refine ⟨R, r1, r2, fun b hb => ?_, fun r a b d => ?_, fun u hu hne => ?_, fun u hu => ?_⟩
        · rw [r3 b hb, g7 b hb, e0 4 (by decide)]
        · rw [r4 r a b d, g6 r b d, e0 r a]
        · have k1 : T0 4 (64 * f + u) ≠ -1 := by
            rw [e0 4 (by decide)]
            exact hne
          have k2 := g8 u hu k1
          rw [r5 u hu (by rw [k2]; exact k1), k2, e0 4 (by decide)]
        · have k6 := r6 u hu
          rw [t3] at k6
          by_cases eu : u = v0
          · rw [eu] at k6 ⊢
            have k7 := k6.2 (Or.inr e1)
            refine ⟨fun _ z => by rw [k7]; exact e4 z, fun z => ?_⟩
            rcases z with z | z
            · have k1 : T0 4 (64 * f + v0) ≠ -1 := by
                rw [e0 4 (by decide)]
                exact hd
              have k2 := g8 v0 hv0 k1
              have k3 := r5 v0 hv0 (by rw [k2]; exact k1)
              rw [z, k2] at k3
              exact absurd k3.symm k1
            · rw [k7]
              exact e3 z
          · rw [e2 u eu] at k6
            exact k6
      by_cases z : T 3 v0 = -1
      · rw [if_neg (not_not_intro z), rs_nI hv0 (by decide)]
        have hJ0 : bJ ((zUp T 3 (upd (T 3) v0 (nI f))) 0) f (fun a => (zUp T 3 (upd (T 3) v0 (nI f))) 4 (64 * f + a)) ((zUp T 3 (upd (T 3) v0 (nI f))) 5) i n 0 := H
        obtain ⟨m, hm, hc⟩ := c_in (S := S) (nq := nI n) (T31 := T) hf hJ0 h2 hv0 hqv hqv 4 (Nat.le_refl 4)
        rw [hm]
        refine step _ (fun r hr => zUp_n _ _ hr) ?_ (fun u hu => ?_) (fun y => absurd z y) (fun _ => ?_) m _ hc
        · show upd (T 3) v0 (nI f) v0 ≠ -1
          rw [pk_us]
          exact nI_m1 (by omega)
        · show upd (T 3) v0 (nI f) u = _
          exact pk_un hu
        · show upd (T 3) v0 (nI f) v0 = _
          exact pk_us
      · rw [if_pos z]
        obtain ⟨m, hm, hc⟩ := c_in (S := S) (nq := nI n) (T31 := T) hf H h2 hv0 hqv hqv 4 (Nat.le_refl 4)
        rw [hm]
        exact step T (fun _ _ => rfl) z (fun _ _ => rfl) (fun _ => rfl) (fun y => absurd y z) m _ hc
theorem c_spread0 {C : zS} {f q : Nat} (hq : q = 64) (hf : f < 64) (hK : C 0 f = 1) (hrow : ∀ j, j < 64 → C 4 (64 * f + j) = -1) (R : zS) (hR : R = (lp_X3_spread_31 C (nI f) q 0 (nI 1) (zUp (zUp C 4 (upd (C 4) (64 * f + f) 0)) 5 (upd (C 5) 0 (nI f)))).2) :
    FS (C 0) f (fun a => R 4 (64 * f + a)) ∧ (∀ b, (b < 64 * f ∨ 64 * f + 64 ≤ b) → R 4 b = C 4 b) ∧ (∀ r, r ≠ 3 → r ≠ 4 → r ≠ 5 → R r = C r) ∧ ∀ u, u < 64 → (R 4 (64 * f + u) ≠ -1 → C 3 u = -1 → R 3 u = nI f) ∧ ((R 4 (64 * f + u) = -1 ∨ C 3 u ≠ -1) → R 3 u = C 3 u) := by
  have hi := walk_init0 (Y := C) hf hK hrow
  obtain ⟨R', r1, r2, r3, r4, r5, r6⟩ := c_out (S := C) hf q 0 1 _ hi (by omega) (fun a u ha => absurd ha (Nat.not_lt_zero _))
  rw [← hR] at r1
  subst r1
  refine ⟨r2, fun b hb => ?_, fun r a b d => ?_, fun u hu => r6 u hu⟩
  · rw [r3 b hb]
    show upd (C 4) (64 * f + f) 0 b = _
    exact pk_un (by omega)
  · rw [r4 r a b d, zUp_n _ _ d, zUp_n _ _ b]
theorem c_spread {C : zS} {f : Nat} (hf : f < 64) (hK : C 0 f = 1) (hrow : ∀ j, j < 64 → C 4 (64 * f + j) = -1) :
    FS (C 0) f (fun a => g_X3_spread C (nI f) 4 (64 * f + a)) ∧ (∀ b, (b < 64 * f ∨ 64 * f + 64 ≤ b) → g_X3_spread C (nI f) 4 b = C 4 b) ∧ (∀ r, r ≠ 3 → r ≠ 4 → r ≠ 5 → g_X3_spread C (nI f) r = C r) ∧ ∀ u, u < 64 → (g_X3_spread C (nI f) 4 (64 * f + u) ≠ -1 → C 3 u = -1 → g_X3_spread C (nI f) 3 u = nI f) ∧ ((g_X3_spread C (nI f) 4 (64 * f + u) = -1 ∨ C 3 u ≠ -1) → g_X3_spread C (nI f) 3 u = C 3 u) := by
  refine c_spread0 (q := 64) rfl hf hK hrow _ ?_
  unfold g_X3_spread
  rw [cIx, rs_nI (by omega) (by decide), show rs 64 (C 5) 0 (nI f) = upd (C 5) 0 (nI f) from rs_nI (u := 0) (by decide) (by decide)]
  rfl
theorem nvv_old {D : Nat → Int32} : ∀ (q : Nat) (old : Int32), q < 2 ^ 31 → nvv D q old = if nvv D q (-1) = -1 then old else nvv D q (-1)
  | 0, old, _ => by
    unfold nvv
    rw [if_pos rfl]
  | q + 1, old, hq => by
    unfold nvv
    by_cases c : D q = -1
    · rw [if_pos c, if_pos c]
      exact nvv_old q old (by omega)
    · rw [if_neg c, if_neg c]
      have h := nvv_old (D := D) q (nI q) (by omega)
      have hne : nvv D q (nI q) ≠ -1 := by
        rw [h]
        by_cases z : nvv D q (-1) = -1
        · rw [if_pos z]
          exact nI_m1 (by omega)
        · rw [if_neg z]
          exact z
      rw [if_neg hne]
theorem nvv_iff {D D' : Nat → Int32} : ∀ (q : Nat) (old : Int32), (∀ j, j < q → (D j = -1 ↔ D' j = -1)) → nvv D q old = nvv D' q old
  | 0, _, _ => rfl
  | q + 1, old, h => by
    unfold nvv
    have e : (if D q = -1 then old else nI q) = (if D' q = -1 then old else nI q) := by
      by_cases c : D q = -1
      · rw [if_pos c, if_pos ((h q (by omega)).mp c)]
      · rw [if_neg c, if_neg (fun z => c ((h q (by omega)).mpr z))]
    rw [e]
    exact nvv_iff q _ (fun j hj => h j (by omega))
theorem c_find {C Y : zS} (hY3 : ∀ u, u < 64 → Y 3 u = -1) (hY4 : ∀ b, b < 4096 → Y 4 b = -1) (hY15 : Y 15 0 = nI 0) (hYr : ∀ r, r ≠ 3 → r ≠ 4 → r ≠ 15 → Y r = C r) : ∀ n, n ≤ 64 →
    (∀ r, r ≠ 2 → r ≠ 3 → r ≠ 4 → r ≠ 5 → r ≠ 15 → (lp_X3_find_23 C Y n) r = C r) ∧ (∀ k, k < n → (lp_X3_find_23 C Y n) 2 k = rdI (C 0) k) ∧ (lp_X3_find_23 C Y n) 15 0 = nI (cnt (fun j => decide (C 0 j = 1)) n) ∧
    (∀ b, b < n → wOK (C 0) b (fun a => (lp_X3_find_23 C Y n) 4 (64 * b + a))) ∧ (∀ b, 64 * n ≤ b → b < 4096 → (lp_X3_find_23 C Y n) 4 b = -1) ∧ ∀ u, u < 64 → (lp_X3_find_23 C Y n) 3 u = nvv (fun s => (lp_X3_find_23 C Y n) 4 (64 * s + u)) n (-1) := by
  intro n
  induction n with
  | zero => intro _; exact ⟨fun r a b c d e => hYr r b c e, fun k hk => absurd hk (Nat.not_lt_zero _), hY15, fun k hk => absurd hk (Nat.not_lt_zero _), fun b _ hb => hY4 b hb, fun u hu => hY3 u hu⟩
  | succ n ih =>
    intro hn
    obtain ⟨h1, h2, h3, h4, h5, h6⟩ := ih (by omega)
    show (∀ r, r ≠ 2 → r ≠ 3 → r ≠ 4 → r ≠ 5 → r ≠ 15 → (bd_X3_find_23 C n (lp_X3_find_23 C Y n)) r = C r) ∧ (∀ k, k < n + 1 → (bd_X3_find_23 C n (lp_X3_find_23 C Y n)) 2 k = rdI (C 0) k) ∧ (bd_X3_find_23 C n (lp_X3_find_23 C Y n)) 15 0 = nI (cnt (fun j => decide (C 0 j = 1)) (n + 1)) ∧
      (∀ b, b < n + 1 → wOK (C 0) b (fun a => (bd_X3_find_23 C n (lp_X3_find_23 C Y n)) 4 (64 * b + a))) ∧ (∀ b, 64 * (n + 1) ≤ b → b < 4096 → (bd_X3_find_23 C n (lp_X3_find_23 C Y n)) 4 b = -1) ∧ ∀ u, u < 64 → (bd_X3_find_23 C n (lp_X3_find_23 C Y n)) 3 u = nvv (fun s => (bd_X3_find_23 C n (lp_X3_find_23 C Y n)) 4 (64 * s + u)) (n + 1) (-1)
    generalize lp_X3_find_23 C Y n = T at h1 h2 h3 h4 h5 h6 ⊢
    have h0 : T 0 = C 0 := h1 0 (by decide) (by decide) (by decide) (by decide) (by decide)
    have hrow : ∀ j, j < 64 → T 4 (64 * n + j) = -1 := fun j hj => h5 _ (by omega) (by omega)
    unfold bd_X3_find_23
    rw [cFind (show n < 64 by omega), rs_nI (show n < 64 by omega) (by decide), cRoad (show n < 64 by omega)]
    have hz : (zUp T 2 (upd (T 2) n (rdI (T 0) n))) 0 = C 0 := h0
    rw [hz]
    have r2 : ∀ k, k < n + 1 → upd (T 2) n (rdI (T 0) n) k = rdI (C 0) k := fun k hk => by
      by_cases e : k = n
      · rw [e, pk_us, h0]
      · rw [pk_un e]
        exact h2 k (by omega)
    by_cases c : C 0 n = 1
    · rw [if_pos c, if_neg (by decide)]
      obtain ⟨s1, s2, s3, s4⟩ := c_spread (C := zUp (zUp T 2 (upd (T 2) n (rdI (T 0) n))) 15 (upd (T 15) 0 (T 15 0 + 1))) (f := n) (by omega) (by show T 0 n = 1; rw [h0]; exact c) hrow
      generalize g_X3_spread (zUp (zUp T 2 (upd (T 2) n (rdI (T 0) n))) 15 (upd (T 15) 0 (T 15 0 + 1))) (nI n) = R at s1 s2 s3 s4 ⊢
      have q4 : ∀ b, (b < 64 * n ∨ 64 * n + 64 ≤ b) → R 4 b = T 4 b := s2
      have q3 : ∀ u, u < 64 → (R 4 (64 * n + u) ≠ -1 → T 3 u = -1 → R 3 u = nI n) ∧ ((R 4 (64 * n + u) = -1 ∨ T 3 u ≠ -1) → R 3 u = T 3 u) := s4
      refine ⟨fun r a b d e g => ?_, fun k hk => ?_, ?_, fun b hb => ?_, fun b hb hb2 => ?_, fun u hu => ?_⟩
      · rw [s3 r b d e, zUp_n _ _ g, zUp_n _ _ a]
        exact h1 r a b d e g
      · rw [s3 2 (by decide) (by decide) (by decide)]
        exact r2 k hk
      · rw [s3 15 (by decide) (by decide) (by decide)]
        show upd (T 15) 0 (T 15 0 + 1) 0 = _
        rw [pk_us, h3, nI_1, cnt_s, if_pos (by simp [c])]
      · by_cases e : b = n
        · rw [e]
          exact Or.inl ⟨c, by rw [← h0]; exact s1⟩
        · exact wOK_congr (h4 b (by omega)) (fun j hj => q4 _ (by omega))
      · rw [q4 b (by omega)]
        exact h5 b (by omega) hb2
      · have e1 : nvv (fun s => R 4 (64 * s + u)) n (-1) = T 3 u := by
          rw [h6 u hu]
          exact nvv_congr n _ (fun j hj => q4 _ (by omega))
        obtain ⟨k1, k2⟩ := q3 u hu
        conv => rhs; unfold nvv
        by_cases z : R 4 (64 * n + u) = -1
        · rw [if_pos z, e1]
          exact k2 (Or.inl z)
        · rw [if_neg z, nvv_old n _ (by omega), e1]
          by_cases y : T 3 u = -1
          · rw [if_pos y]
            exact k1 z y
          · rw [if_neg y]
            exact k2 (Or.inr y)
    · rw [if_neg c, if_pos rfl]
      refine ⟨fun r a b d e g => ?_, fun k hk => r2 k hk, ?_, fun b hb => ?_, fun b hb hb2 => h5 b (by omega) hb2, fun u hu => ?_⟩
      · rw [zUp_n _ _ a]
        exact h1 r a b d e g
      · show T 15 0 = _
        rw [h3, cnt_s, if_neg (by simp [c])]
        rfl
      · by_cases e : b = n
        · rw [e]
          exact Or.inr ⟨c, hrow⟩
        · exact h4 b (by omega)
      · show T 3 u = nvv (fun s => T 4 (64 * s + u)) (n + 1) (-1)
        unfold nvv
        rw [if_pos (hrow u hu)]
        exact h6 u hu
theorem cfind_f0 (C T : zS) (n : Nat) (hn : n = 64) (hT : T = lp_X3_find_23 C (zUp (zUp (zUp C 3 (rf 64 (C 3) (-1))) 4 (rf 4096 (C 4) (-1))) 15 (upd (C 15) 0 0)) n) : (∀ r, r ≠ 2 → r ≠ 3 → r ≠ 4 → r ≠ 5 → r ≠ 15 → T r = C r) ∧ (∀ k, k < 64 → T 2 k = rdI (C 0) k) ∧ T 15 0 = nI (roads (C 0)) ∧ (∀ b, b < 64 → wOK (C 0) b (fun a => T 4 (64 * b + a))) ∧ ∀ u, u < 64 → T 3 u = nvv (fun s => T 4 (64 * s + u)) 64 (-1) := by
  obtain ⟨h1, h2, h3, h4, h5, h6⟩ := c_find (C := C) (Y := zUp (zUp (zUp C 3 (rf 64 (C 3) (-1))) 4 (rf 4096 (C 4) (-1))) 15 (upd (C 15) 0 0)) (fun u hu => by show rf 64 (C 3) (-1) u = -1; unfold rf; rw [if_pos hu]) (fun b hb => by show rf 4096 (C 4) (-1) b = -1; unfold rf; rw [if_pos hb]) (by show upd (C 15) 0 0 0 = _; rw [pk_us]; rfl) (fun r a b c => by rw [zUp_n _ _ c, zUp_n _ _ b, zUp_n _ _ a]) n (by omega)
  rw [← hT] at h1 h2 h3 h4 h5 h6
  subst hn
  exact ⟨h1, h2, h3, h4, h6⟩
/-- the class's roads, nets and distances -/
theorem cfind_f (C : zS) : (∀ r, r ≠ 2 → r ≠ 3 → r ≠ 4 → r ≠ 5 → r ≠ 15 → g_X3_find C r = C r) ∧ (∀ k, k < 64 → g_X3_find C 2 k = rdI (C 0) k) ∧ g_X3_find C 15 0 = nI (roads (C 0)) ∧ (∀ b, b < 64 → wOK (C 0) b (fun a => g_X3_find C 4 (64 * b + a))) ∧ ∀ u, u < 64 → g_X3_find C 3 u = nvv (fun s => g_X3_find C 4 (64 * s + u)) 64 (-1) :=
  cfind_f0 C (g_X3_find C) 64 rfl (by unfold g_X3_find; rfl)
