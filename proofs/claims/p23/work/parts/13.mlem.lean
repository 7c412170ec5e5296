/-! facts of the reference's small methods, and one step of its walk -/
theorem nbX7 : ∀ v, v < 64 → ∀ s, s < 4 → f_X7_neighbour (nI v) (nI s) = if nb v s = 64 then -1 else nI (nb v s) := by decide +kernel
theorem nbX6 : ∀ v, v < 64 → ∀ s, s < 4 → f_X6_neighbourOf (nI v) (nI s) = if nb v s = 64 then -1 else nI (nb v s) := by decide +kernel
theorem nbX7_in {x : Int32} {u : Nat} (h : x = if u = 64 then -1 else nI u) (hle : u ≤ 64) : x = -1 ∨ vp_in x 64 := by
  by_cases e : u = 64
  · rw [if_pos e] at h
    exact Or.inl h
  · rw [if_neg e] at h
    rw [h]
    exact Or.inr (vp_in_nI (by omega) (by decide))
theorem isRoadX7 {T : zS} {x : Int32} {u : Nat} (h : x = if u = 64 then -1 else nI u) (hle : u ≤ 64) (hr : ¬ f_X7_isRoad T x = 0) : u < 64 ∧ x = nI u ∧ T 0 u = 1 := by
  unfold f_X7_isRoad at hr
  by_cases e : u = 64
  · rw [if_pos e] at h
    rw [if_pos h] at hr
    exact absurd rfl hr
  · rw [if_neg e] at h
    have hne : ¬ x = -1 := by
      rw [h]
      exact nI_m1 (by omega)
    rw [if_neg hne] at hr
    by_cases k : T 0 x.toNatClampNeg = 1
    · rw [h, nI_clamp (by omega)] at k
      exact ⟨by omega, h, k⟩
    · rw [if_pos k] at hr
      exact absurd rfl hr
theorem isRoadX7_0 {T : zS} {x : Int32} {u : Nat} (h : x = if u = 64 then -1 else nI u) (hr : f_X7_isRoad T x = 0) (hu : u < 64) (hk : T 0 u = 1) : False := by
  rw [if_neg (by omega)] at h
  unfold f_X7_isRoad at hr
  rw [h, if_neg (nI_m1 (by omega)), nI_clamp (by omega), if_neg (not_not_intro hk)] at hr
  exact absurd hr (by decide)
theorem at_ix {a : Nat} {x : Int32} (h : vp_in x 64) : nI a + x = nI (a + x.toNatClampNeg) := by
  obtain ⟨j, hj, rfl⟩ := vp_in_of h (by decide)
  rw [nI_clamp (by omega), nI_add]
theorem vp_lt {x : Int32} {n : Nat} (h : vp_in x n) : x.toNatClampNeg < n := Nat.not_le.mp fun q => h (Or.inr q)
theorem at_b {f : Nat} {x : Int32} (hf : f < 64) (h : vp_in x 64) : 64 * f + x.toNatClampNeg < 4096 := by
  have := vp_lt h
  omega
theorem walk_lt {T : zS} {nf i mq j u : Nat} {x : Int32} (H : bJ (T 0) nf (fun a => T 4 (64 * nf + a)) (T 5) i mq j) (hu : u < 64) (hx : x = nI u) (hd : T 4 (64 * nf + x.toNatClampNeg) = -1) : mq < 64 := by
  rw [hx, nI_clamp (by omega)] at hd
  obtain ⟨v, l, h1, h2, h3, h4, h5, h6, h7, h8, h9⟩ := H
  have h := cnt_inj mq (fun a => true && decide (a ≠ u)) v (fun i hi => ⟨(h2 i hi).1, by
    have hne : v i ≠ u := fun z => by
      have a : T 4 (64 * nf + v i) = nI (l i) := (h2 i hi).2.2.2.1
      rw [z] at a
      rw [hd] at a
      exact nI_m1 (by
        have h10 := (h2 i hi).2.2.2.2
        have h11 := cnt_inj mq (fun _ => true) v (fun i hi => ⟨(h2 i hi).1, rfl⟩) h5
        have h12 := cnt_le (fun _ => true) 64
        omega) a.symm
    simp [hne]⟩) h5
  have h2' := cnt_del (P := fun _ => true) 64 hu rfl
  have h3' := cnt_le (fun _ => true) 64
  omega
theorem walk_push {T : zS} {nf mq i j v0 : Nat} {its x : Int32} (H : bJ (T 0) nf (fun a => T 4 (64 * nf + a)) (T 5) i mq j) (hj : j < 4) (hi : i < mq) (hv : v0 < 64) (hq : T 5 i = nI v0) (hits : its = nI v0) (hb : nb v0 j < 64) (hx : x = nI (nb v0 j)) (hk : T 0 (nb v0 j) = 1) (hd : T 4 (64 * nf + x.toNatClampNeg) = -1) :
    bJ ((zUp (zUp T 4 (upd (T 4) (64 * nf + x.toNatClampNeg) (T 4 (64 * nf + its.toNatClampNeg) + 1))) 5 (upd (T 5) mq x)) 0) nf (fun a => (zUp (zUp T 4 (upd (T 4) (64 * nf + x.toNatClampNeg) (T 4 (64 * nf + its.toNatClampNeg) + 1))) 5 (upd (T 5) mq x)) 4 (64 * nf + a)) ((zUp (zUp T 4 (upd (T 4) (64 * nf + x.toNatClampNeg) (T 4 (64 * nf + its.toNatClampNeg) + 1))) 5 (upd (T 5) mq x)) 5) i (mq + 1) (j + 1) := by
  subst hx hits
  rw [nI_clamp (by omega)] at hd
  refine bJ_congr (bJ_push H hj hi hv hq hb hk hd) (fun _ _ => rfl) (fun a ha => ?_) (fun a ha => rfl)
  show upd (T 4) (64 * nf + (nI (nb v0 j)).toNatClampNeg) (T 4 (64 * nf + (nI v0).toNatClampNeg) + 1) (64 * nf + a) = _
  rw [nI_clamp (by omega), nI_clamp (by omega)]
  unfold upd
  by_cases e : a = nb v0 j
  · rw [if_pos (by rw [e]), if_pos e]
  · rw [if_neg (by omega), if_neg e]
theorem walk_skipA {T : zS} {nf mq i j v0 : Nat} {x : Int32} (H : bJ (T 0) nf (fun a => T 4 (64 * nf + a)) (T 5) i mq j) (hj : j < 4) (hi : i < mq) (hv : v0 < 64) (hq : T 5 i = nI v0) (hx : x = if nb v0 j = 64 then -1 else nI (nb v0 j)) (hr : f_X7_isRoad T x = 0) : bJ (T 0) nf (fun a => T 4 (64 * nf + a)) (T 5) i mq (j + 1) :=
  bJ_skip H hj hi hv hq (fun hb hk => (isRoadX7_0 hx hr hb hk).elim)
theorem walk_skipB {T : zS} {nf mq i j v0 : Nat} {x : Int32} (H : bJ (T 0) nf (fun a => T 4 (64 * nf + a)) (T 5) i mq j) (hj : j < 4) (hi : i < mq) (hv : v0 < 64) (hq : T 5 i = nI v0) (hx : x = nI (nb v0 j)) (hb : nb v0 j < 64) (hd : ¬ T 4 (64 * nf + x.toNatClampNeg) = -1) : bJ (T 0) nf (fun a => T 4 (64 * nf + a)) (T 5) i mq (j + 1) := by
  refine bJ_skip H hj hi hv hq (fun _ _ => ?_)
  rw [hx, nI_clamp (by omega)] at hd
  exact hd
