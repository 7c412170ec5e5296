/-! JOBS: who goes, told of placed and traffic -/
def JX (K : Nat → Int32) (Y : zS) (n : Nat) : Prop :=
  (∀ k, k < 64 → K k = 2 → Y 9 k = ksum K 3 (fun t => Y 10 (64 * k + t)) 64) ∧
  (∀ k, k < 64 → K k = 3 → Y 9 k = ksum K 2 (fun h => Y 10 (64 * h + k)) 64) ∧
  (∀ k, k < 64 → ∃ t, t ≤ 400 * n ∧ Y 11 k = nI t ∧ (K k = 1 ∨ t = 0))
theorem lp59_t {S' : zS} {K : Nat → Int32} {nh nt b m : Nat} (hb : b < 64) (hm : m ≤ 6) (hS : S' 2 nt = nI b) : ∀ (q gi v l : Nat) (Y : zS), Y 0 = K → v < 64 → l < 64 → FS (Y 0) b (fun j => Y 4 (64 * b + j)) → Y 4 (64 * b + v) = nI l → ∀ N N' : Nat, (∀ k, k < 64 → ∃ t, t ≤ N ∧ Y 11 k = nI t ∧ (K k = 1 ∨ t = 0)) → N + 6 * q ≤ N' → ∀ k, k < 64 → ∃ t, t ≤ N' ∧ (lp_X7_goes_59 S' nh nt (nI m) q gi (nI v) Y).2 11 k = nI t ∧ (K k = 1 ∨ t = 0) := by
  intro q
  induction q with
  | zero =>
    intro gi v l Y y0 hv hl hF he N N' h hN k hk
    obtain ⟨t, h1, h2⟩ := h k hk
    exact ⟨t, by omega, h2⟩
  | succ q ih =>
    intro gi v l Y y0 hv hl hF he N N' h hN k hk
    rw [lp_X7_goes_59, hS]
    by_cases c : nI v = nI b
    · rw [if_pos c]
      obtain ⟨t, h1, h2⟩ := h k hk
      exact ⟨t, by omega, h2⟩
    · rw [if_neg c]
      have hne : v ≠ b := fun z => c (by rw [z])
      obtain ⟨s, hs, hlow, hx, -⟩ := lp72_fin (S := S') (Y := Y) (nh := nh) (nt := nt) (gi := gi) (xm := nI m) hv hb hS hF hl hne he 4 rfl
      obtain ⟨l', hll, he'⟩ := low_l hF hv hs hl he hlow
      rw [hx, nI_clamp (by have := hlow.1; omega)]
      refine ih (gi + 1) (nb v s) l' (zUp Y 11 (upd (Y 11) (nb v s) (Y 11 (nb v s) + nI m))) y0 hlow.1 (by omega) hF he' (N + 6) N' (fun a ha => ?_) (by omega) k hk
      show ∃ t, t ≤ N + 6 ∧ upd (Y 11) (nb v s) (Y 11 (nb v s) + nI m) a = nI t ∧ (K a = 1 ∨ t = 0)
      by_cases e : a = nb v s
      · obtain ⟨t, g1, g2, g3⟩ := h (nb v s) hlow.1
        refine ⟨t + m, by omega, ?_, Or.inl ?_⟩
        · rw [e, pk_us, g2, nI_add]
        · rw [e, ← y0]
          exact hlow.2.1
      · obtain ⟨t, g1, g2, g3⟩ := h a ha
        exact ⟨t, by omega, by rw [pk_un e]; exact g2, g3⟩
theorem goes_t {K : Nat → Int32} {M Y : zS} {a b u m N : Nat} (hM : mRd K M) (y0 : Y 0 = K) (y2 : Y 2 = M 2) (y4 : Y 4 = M 4) (h1 : a < 64) (h2 : b < 64) (hu : u < 64) (hd : mBet M a b = nI u) (hm : m ≤ 6) (h : ∀ k, k < 64 → ∃ t, t ≤ N ∧ Y 11 k = nI t ∧ (K k = 1 ∨ t = 0)) : ∀ k, k < 64 → ∃ t, t ≤ N + 400 ∧ (g_X7_goes Y a b (nI m)) 11 k = nI t ∧ (K k = 1 ∨ t = 0) := by
  obtain ⟨x, y, l, q1, q2, q3, q4, q5, q6, q7, q8, q9, q10⟩ := mBet_in hM h1 h2 hu hd
  have kx : K x = 1 := by
    have z := hM.1 a h1
    rw [q4] at z
    rcases rdI_in K h1 with e | ⟨w, w1, w2, w3⟩
    · rw [e] at z
      exact absurd z (nI_m1 (by omega))
    · rw [w2] at z
      rw [nI_inj (by omega) (by omega) z]
      exact w3
  intro k hk
  unfold g_X7_goes
  rw [y2, q4, nI_clamp (by omega)]
  refine lp59_t (K := K) (m := m) q2 hm (by rw [y2]; exact q5) 64 0 x l _ ?_ q1 q3 ?_ ?_ (N + 6) (N + 400) (fun i hi => ?_) (by omega) k hk
  · show Y 0 = K
    exact y0
  · show FS (Y 0) y (fun j => Y 4 (64 * y + j))
    rw [y0, y4]
    exact q9
  · show Y 4 (64 * y + x) = nI l
    rw [y4]
    exact q8
  · show ∃ t, t ≤ N + 6 ∧ upd (Y 11) x (Y 11 x + nI m) i = nI t ∧ (K i = 1 ∨ t = 0)
    by_cases e : i = x
    · obtain ⟨t, g1, g2, g3⟩ := h x q1
      refine ⟨t + m, by omega, ?_, Or.inl ?_⟩
      · rw [e, pk_us, g2, nI_add]
      · rw [e]
        exact kx
    · obtain ⟨t, g1, g2, g3⟩ := h i hi
      exact ⟨t, by omega, by rw [pk_un e]; exact g2, g3⟩
theorem JX_a {K g : Nat → Int32} {a b : Nat} {p : Int32} (kb : K b = 3) (hb : b < 64) (z : g (64 * a + b) = 0) (n : Nat) (hn : n = 64) : ksum K 3 (fun t => upd g (64 * a + b) p (64 * a + t)) n = ksum K 3 (fun t => g (64 * a + t)) n + p := by
  rw [← ksum_up (K := K) (c := 3) (p := p) (g := fun t => g (64 * a + t)) kb n (by omega)]
  refine ksum_congr n (fun j hj _ => ?_)
  by_cases e : j = b
  · show upd g (64 * a + b) p (64 * a + j) = upd (fun t => g (64 * a + t)) b (g (64 * a + b) + p) j
    rw [e, pk_us, pk_us, z, Int32.zero_add]
  · show upd g (64 * a + b) p (64 * a + j) = upd (fun t => g (64 * a + t)) b (g (64 * a + b) + p) j
    rw [pk_un (show 64 * a + j ≠ 64 * a + b by omega), pk_un e]
theorem JX_o {K g : Nat → Int32} {a b k : Nat} {c p : Int32} (h : k ≠ a) (hb : b < 64) (n : Nat) (hn : n = 64) : ksum K c (fun t => upd g (64 * a + b) p (64 * k + t)) n = ksum K c (fun t => g (64 * k + t)) n :=
  ksum_congr n (fun j hj _ => pk_un (by omega))
theorem JX_b {K g : Nat → Int32} {a b : Nat} {p : Int32} (ka : K a = 2) (ha : a < 64) (z : g (64 * a + b) = 0) (n : Nat) (hn : n = 64) : ksum K 2 (fun h => upd g (64 * a + b) p (64 * h + b)) n = ksum K 2 (fun h => g (64 * h + b)) n + p := by
  rw [← ksum_up (K := K) (c := 2) (p := p) (g := fun h => g (64 * h + b)) ka n (by omega)]
  refine ksum_congr n (fun j hj _ => ?_)
  by_cases e : j = a
  · show upd g (64 * a + b) p (64 * j + b) = upd (fun h => g (64 * h + b)) a (g (64 * a + b) + p) j
    rw [e, pk_us, pk_us, z, Int32.zero_add]
  · show upd g (64 * a + b) p (64 * j + b) = upd (fun h => g (64 * h + b)) a (g (64 * a + b) + p) j
    rw [pk_un (show 64 * j + b ≠ 64 * a + b by omega), pk_un e]
theorem JX_p {K g : Nat → Int32} {a b k : Nat} {c p : Int32} (h : k ≠ b) (hb : b < 64) (hk : k < 64) (n : Nat) : ksum K c (fun h => upd g (64 * a + b) p (64 * h + k)) n = ksum K c (fun h => g (64 * h + k)) n :=
  ksum_congr n (fun j hj _ => pk_un (by omega))
theorem JX_go {K L : Nat → Int32} {C M T Y : zS} {n : Nat} {ha tb : Nat → Nat} (hE : eqS K L C M) (H : JRn K L C M T Y n ha tb) (X : JX K Y n) {a b u ma mb m : Nat} (h1 : a < 64) (h2 : b < 64) (ka : K a = 2) (kb : K b = 3) (hu : u < 64) (hd : mBet M a b = nI u) (hma : ma ≤ 6) (hmb : mb ≤ 6) (ea : T 10 a = nI ma) (eb : T 10 b = nI mb) (la : m ≤ ma) (lb : m ≤ mb) (hm : 0 < m) : JX K (g_X7_goes Y a b (nI m)) (n + 1) := by
  have hab : a ≠ b := fun z => by
    rw [z, kb] at ka
    exact absurd ka (by decide)
  have za : T 10 a ≠ 0 := fun z => by
    rw [ea] at z
    have := nI_inj (a := ma) (b := 0) (by omega) (by omega) z
    omega
  have zb : T 10 b ≠ 0 := fun z => by
    rw [eb] at z
    have := nI_inj (a := mb) (b := 0) (by omega) (by omega) z
    omega
  have z10 : Y 10 (64 * a + b) = 0 := H.no a b h1 h2 (fun i hi z => by
    obtain ⟨g1, g2, g3, g4, g5, g6, g7, g8⟩ := H.tr i hi
    rw [z.1, z.2] at g7
    rcases g7 with g | g
    · exact za g
    · exact zb g)
  have y9 : g_X7_goes Y a b (nI m) 9 = u2 (Y 9) a b (nI m) := goes_9 Y a b (nI m)
  have y10 := goes_10 Y a b (nI m)
  have y11 := goes_t (N := 400 * n) hE.2.1 ((H.y 0 (by decide) (by decide) (by decide)).trans hE.2.2.2.1) (H.y 2 (by decide) (by decide) (by decide)) (H.y 4 (by decide) (by decide) (by decide)) h1 h2 hu hd (show m ≤ 6 by omega) X.2.2
  generalize g_X7_goes Y a b (nI m) = Y' at y9 y10 y11 ⊢
  refine ⟨fun k hk kk => ?_, fun k hk kk => ?_, fun k hk => ?_⟩
  · rw [y9, y10]
    have kb' : k ≠ b := fun z => by
      rw [z, kb] at kk
      exact absurd kk (by decide)
    by_cases e : k = a
    · rw [e, u2_a hab, JX_a kb h2 z10 64 rfl, X.1 a h1 ka]
    · rw [u2_o e kb', JX_o e h2 64 rfl]
      exact X.1 k hk kk
  · rw [y9, y10]
    have ka' : k ≠ a := fun z => by
      rw [z, ka] at kk
      exact absurd kk (by decide)
    by_cases e : k = b
    · rw [e, u2_b hab, JX_b ka h1 z10 64 rfl, X.2.1 b h2 kb]
    · rw [u2_o ka' e, JX_p e h2 hk 64]
      exact X.2.1 k hk kk
  · obtain ⟨t, g1, g2⟩ := y11 k hk
    exact ⟨t, by omega, g2⟩
