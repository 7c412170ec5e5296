/-! the reference's ways over roads: what holds while some go -/
def gP (S : zS) (nh nt : Nat) : Prop := ∃ a b, a < 64 ∧ b < 64 ∧ S 2 nh = nI a ∧ S 2 nt = nI b ∧ FS (S 0) b (fun j => S 4 (64 * b + j)) ∧ ∃ l, l < 64 ∧ S 4 (64 * b + a) = nI l
def gW (T : zS) (b : Nat) (h : Int32) (gi : Nat) : Prop := FS (T 0) b (fun j => T 4 (64 * b + j)) ∧ ∃ v l, v < 64 ∧ h = nI v ∧ T 4 (64 * b + v) = nI l ∧ l + gi < 64
def low (T : zS) (b v s : Nat) : Prop := nb v s < 64 ∧ T 0 (nb v s) = 1 ∧ T 4 (64 * b + nb v s) < T 4 (64 * b + v)
def gN (T : zS) (b v j : Nat) (nx : Int32) : Prop := (nx = -1 ∧ ∀ s, 4 - j ≤ s → s < 4 → ¬ low T b v s) ∨ ∃ s, 4 - j ≤ s ∧ s < 4 ∧ low T b v s ∧ nx = nI (nb v s) ∧ ∀ t, 4 - j ≤ t → t < s → ¬ low T b v t
theorem gN_0 {T : zS} {b v : Nat} : gN T b v 0 (-1) := Or.inl ⟨rfl, fun s h1 h2 => absurd h2 (by omega)⟩
theorem gN_no {T : zS} {b v j : Nat} {nx : Int32} (H : gN T b v j nx) (hj : j < 4) (hno : ¬ low T b v (3 - j)) : gN T b v (j + 1) nx := by
  rcases H with ⟨h1, h2⟩ | ⟨s, h1, h2, h3, h4, h5⟩
  · refine Or.inl ⟨h1, fun s a c => ?_⟩
    by_cases e : s = 3 - j
    · rw [e]
      exact hno
    · exact h2 s (by omega) c
  · refine Or.inr ⟨s, by omega, h2, h3, h4, fun t a c => ?_⟩
    by_cases e : t = 3 - j
    · rw [e]
      exact hno
    · exact h5 t (by omega) c
theorem gN_A {T : zS} {b v j : Nat} {nx x : Int32} (H : gN T b v j nx) (hj : j < 4) (hx : x = if nb v (3 - j) = 64 then -1 else nI (nb v (3 - j))) (hr : f_X7_isRoad T x = 0) : gN T b v (j + 1) nx :=
  gN_no H hj (fun z => isRoadX7_0 hx hr z.1 z.2.1)
theorem gN_B {T : zS} {b v j : Nat} {nx x h e : Int32} (H : gN T b v j nx) (hj : j < 4) (hv : v < 64) (hb : b < 64) (he : e = nI b) (hh : h = nI v) (hx : x = nI (nb v (3 - j))) (hn : nb v (3 - j) < 64) (hc : T 4 (64 * e.toNatClampNeg + h.toNatClampNeg) ≤ T 4 (64 * e.toNatClampNeg + x.toNatClampNeg)) : gN T b v (j + 1) nx := by
  subst he hh hx
  rw [nI_clamp (by omega), nI_clamp (by omega), nI_clamp (by omega)] at hc
  exact gN_no H hj (fun z => Int32.not_le.mpr z.2.2 hc)
theorem gN_C {T : zS} {b v j : Nat} {nx x h e : Int32} (H : gN T b v j nx) (hj : j < 4) (hv : v < 64) (hb : b < 64) (he : e = nI b) (hh : h = nI v) (hx : x = nI (nb v (3 - j))) (hn : nb v (3 - j) < 64) (hk : T 0 (nb v (3 - j)) = 1) (hc : ¬ T 4 (64 * e.toNatClampNeg + h.toNatClampNeg) ≤ T 4 (64 * e.toNatClampNeg + x.toNatClampNeg)) : gN T b v (j + 1) x := by
  subst he hh hx
  rw [nI_clamp (by omega), nI_clamp (by omega), nI_clamp (by omega)] at hc
  exact Or.inr ⟨3 - j, by omega, by omega, ⟨hn, hk, Int32.not_le.mp hc⟩, rfl, fun t a c => absurd c (by omega)⟩
/-- there is always a nearer one -/
theorem low_ex {T : zS} {b v l : Nat} (hF : FS (T 0) b (fun j => T 4 (64 * b + j))) (hv : v < 64) (hl : l < 64) (hne : v ≠ b) (he : T 4 (64 * b + v) = nI l) : ∃ s, s < 4 ∧ low T b v s := by
  obtain ⟨u, t, l', hu, ht, hn, z, e'⟩ := hF.2.2.2 v l hv hl hne he
  have e2 : T 4 (64 * b + u) = nI l' := e'
  have hr := roads_le (T 0)
  have hk : T 0 u = 1 := by
    rcases hF.2.1 u hu with y | ⟨_, _, _, y⟩
    · have y2 : T 4 (64 * b + u) = -1 := y
      rw [e2] at y2
      exact absurd y2 (nI_m1 (by omega))
    · exact y
  have hs := nb_sym u hu t ht (by omega)
  rw [hn] at hs
  exact ⟨3 - t, by omega, by rw [hs]; exact hu, by rw [hs]; exact hk, by rw [hs, he, e2]; exact nI_lt (by omega) (by omega)⟩
theorem gN_fin {T : zS} {b v l : Nat} {nx : Int32} (hF : FS (T 0) b (fun j => T 4 (64 * b + j))) (hv : v < 64) (hl : l < 64) (hne : v ≠ b) (he : T 4 (64 * b + v) = nI l) (H : gN T b v 4 nx) : ∃ s, s < 4 ∧ low T b v s ∧ nx = nI (nb v s) := by
  rcases H with ⟨_, h2⟩ | ⟨s, _, h2, h3, h4, _⟩
  · obtain ⟨s, hs, hl⟩ := low_ex hF hv hl hne he
    exact absurd hl (h2 s (by omega) hs)
  · exact ⟨s, h2, h3, h4⟩
theorem low_l {T : zS} {b v l s : Nat} (hF : FS (T 0) b (fun j => T 4 (64 * b + j))) (hv : v < 64) (hs : s < 4) (hl : l < 64) (he : T 4 (64 * b + v) = nI l) (h : low T b v s) : ∃ l', l = l' + 1 ∧ T 4 (64 * b + nb v s) = nI l' := by
  obtain ⟨h1, h2, h3⟩ := h
  obtain ⟨l', a, a2, a3⟩ := hF.2.2.1 v s l hv hs h1 h2 hl he
  have a4 : T 4 (64 * b + nb v s) = nI l' := a3
  rw [he, a4] at h3
  have h4 := (nI_ltI (by omega) (by omega)).mp h3
  have hsym := nb_sym v hv s hs h1
  have hk : T 0 v = 1 := by
    have hr := roads_le (T 0)
    rcases hF.2.1 v hv with y | ⟨_, _, _, y⟩
    · have y2 : T 4 (64 * b + v) = -1 := y
      rw [he] at y2
      exact absurd y2 (nI_m1 (by omega))
    · exact y
  obtain ⟨l2, c, c2, c3⟩ := hF.2.2.1 (nb v s) (3 - s) l' h1 (by omega) (by rw [hsym]; exact hv) (by rw [hsym]; exact hk) a2 a3
  rw [hsym] at c3
  have c4 : T 4 (64 * b + v) = nI l2 := c3
  rw [he] at c4
  have := nI_inj (by omega) (by omega) c4
  exact ⟨l', by omega, a4⟩
theorem gW_next {T : zS} {b v l gi s : Nat} {nx : Int32} {f : Nat → Int32} (hF : FS (T 0) b (fun j => T 4 (64 * b + j))) (hv : v < 64) (he : T 4 (64 * b + v) = nI l) (hlt : l + gi < 64) (hl : low T b v s) (hx : nx = nI (nb v s)) (hs : s < 4 := by omega) : gW (zUp T 11 f) b nx (gi + 1) := by
  obtain ⟨l', z, e⟩ := low_l hF hv hs (by omega) he hl
  exact ⟨hF, nb v s, l', hl.1, hx, e, by omega⟩
def wkP (S : zS) : Prop := (∀ k, k < 64 → rOK (S 2) k) ∧ ∀ b, b < 64 → wOK (S 0) b (fun j => S 4 (64 * b + j))
theorem wkP_congr {S S' : zS} (H : wkP S) (h0 : S' 0 = S 0) (h2 : S' 2 = S 2) (h4 : S' 4 = S 4) : wkP S' := by
  unfold wkP
  rw [h0, h2, h4]
  exact H
theorem gP_of {S : zS} {u a b : Nat} (H : wkP S) (ha : a < 64) (hb : b < 64) (hva : vp_in (S 2 a) 64) (hvb : vp_in (S 2 b) 64) (hu : u < 64) (he : S 4 (64 * (S 2 a).toNatClampNeg + (S 2 b).toNatClampNeg) = nI u) : gP S a b := by
  obtain ⟨x, hx, ex⟩ := vp_in_of hva (by decide)
  obtain ⟨y, hy, ey⟩ := vp_in_of hvb (by decide)
  rw [ex, ey, nI_clamp (by omega), nI_clamp (by omega)] at he
  have hr := roads_le (S 0)
  have hne : S 4 (64 * x + y) ≠ -1 := by
    rw [he]
    exact nI_m1 (by omega)
  rcases H.2 x hx with ⟨kx, fx⟩ | ⟨_, z⟩
  · have ky : S 0 y = 1 := by
      rcases fx.2.1 y hy with z | ⟨_, _, _, z⟩
      · exact absurd z hne
      · exact z
    rcases H.2 y hy with ⟨_, fy⟩ | ⟨z, _⟩
    · have hb2 := FS_sym hx hy fx fy hne
      rcases fy.2.1 x hx with z | ⟨l, l1, l2, _⟩
      · exact absurd z hb2
      · exact ⟨x, y, hx, hy, ex, ey, fy, l, by omega, l2⟩
    · exact absurd ky z
  · exact absurd (z y hy) hne
