theorem eq_supply0 {K L : Nat → Int32} {C M : zS} (hE : eqS K L C M) (hL : lvOK L) (n : Nat) (hn : n = 64) (F T Y : zS) (hF : F = zUp (zUp (zUp C 6 (rf 64 (C 6) 0)) 7 (rf 64 (C 7) 0)) 8 (rf 64 (C 8) 0)) (hT : T = lp_X5_find_54 C (lp_X5_find_26 C F n) n) (hY : Y = lp_X7_supplies_115 M (lp_X7_supplies_30 M (lp_X7_supplies_2 M M n) n) n) : inv3 C M n T Y := by
  obtain ⟨a1, a2⟩ := m_sup2 (S := M) (T := M) n
  generalize lp_X7_supplies_2 M M n = M' at a1 a2 hY
  have f1 : ∀ r, r ≠ 6 → r ≠ 7 → r ≠ 8 → F r = C r := fun r x y z => by rw [hF, zUp_n _ _ z, zUp_n _ _ y, zUp_n _ _ x]
  have f6 : ∀ k, k < 64 → F 6 k = 0 := fun k hk => by
    rw [hF]
    show rf 64 (C 6) 0 k = 0
    unfold rf
    rw [if_pos hk]
  have f7 : ∀ k, k < 64 → F 7 k = 0 := fun k hk => by
    rw [hF]
    show rf 64 (C 7) 0 k = 0
    unfold rf
    rw [if_pos hk]
  have f8 : ∀ k, k < 64 → F 8 k = 0 := fun k hk => by
    rw [hF]
    show rf 64 (C 8) 0 k = 0
    unfold rf
    rw [if_pos hk]
  have hE' : eqS K L F M' := by
    obtain ⟨e1, e2, e3, e4, e5, e6⟩ := hE
    exact ⟨cRd_congr e1 (f1 2 (by decide) (by decide) (by decide)) (f1 3 (by decide) (by decide) (by decide)) (f1 4 (by decide) (by decide) (by decide)) (f1 15 (by decide) (by decide) (by decide)), mRd_congr e2 (a1 2 (by decide) (by decide)) (a1 3 (by decide) (by decide)) (a1 4 (by decide) (by decide)), (f1 0 (by decide) (by decide) (by decide)).trans e3, (a1 0 (by decide) (by decide)).trans e4, (f1 1 (by decide) (by decide) (by decide)).trans e5, (a1 1 (by decide) (by decide)).trans e6⟩
  have h2 := eq_sup26 (S := C) (S' := M) hE' (⟨fun _ _ _ => rfl, fun _ _ _ => rfl, fun k hk => by rw [f6 k hk, f7 k hk, (a2 k (by omega)).1, (a2 k (by omega)).2]; exact ⟨rfl, rfl⟩⟩ : inv2 F M' F M') n (by omega)
  generalize lp_X5_find_26 C F n = T2 at h2 hT
  generalize lp_X7_supplies_30 M M' n = Y2 at h2 hY
  have h3 := eq_sup54 (S := C) (S' := M) hE' hL (⟨fun r x y _ => h2.1 r x y, fun r x y _ => h2.2.1 r x y, h2.2.2, fun k hk => absurd hk (Nat.not_lt_zero _), fun k _ hk => by rw [h2.1 8 (by decide) (by decide)]; exact f8 k hk⟩ : inv3 F M' 0 T2 Y2) n (by omega)
  rw [← hT, ← hY] at h3
  obtain ⟨g1, g2, g3, g4, g5⟩ := h3
  exact ⟨fun r x y z => (g1 r x y z).trans (f1 r x y z), fun r x y z => (g2 r x y z).trans (a1 r x y), g3, g4, g5⟩
/-- the supply of the class is the reference's -/
theorem eq_supply {K L : Nat → Int32} {C M : zS} (hE : eqS K L C M) (hL : lvOK L) : inv3 C M 64 (g_X5_find C) (g_X7_supplies M) :=
  eq_supply0 hE hL 64 rfl _ (g_X5_find C) (g_X7_supplies M) rfl (by unfold g_X5_find; rfl) (by unfold g_X7_supplies; rfl)
/-! THE WAYS OVER ROADS -/
theorem lp72_gN {S Y : zS} {nh nt gi v b : Nat} {xm : Int32} (hv : v < 64) (hb : b < 64) (hS : S 2 nt = nI b) : ∀ j, j ≤ 4 → gN Y b v j (lp_X7_goes_72 S nh nt xm gi (nI v) Y (-1) j)
  | 0, _ => gN_0
  | j + 1, hj => by
    have h := lp72_gN (S := S) (Y := Y) (nh := nh) (gi := gi) (xm := xm) hv hb hS j (by omega)
    show gN Y b v (j + 1) (bd_X7_goes_72 S nh nt xm gi (nI v) Y j (lp_X7_goes_72 S nh nt xm gi (nI v) Y (-1) j))
    generalize lp_X7_goes_72 S nh nt xm gi (nI v) Y (-1) j = nx at h ⊢
    unfold bd_X7_goes_72
    have hx := nbX7 v hv (3 - j) (by omega)
    have hle := nb_le v hv (3 - j) (by omega)
    by_cases c : f_X7_isRoad Y (f_X7_neighbour (nI v) (nI (3 - j))) = 0
    · rw [if_pos c]
      exact gN_A h (by omega) hx c
    · rw [if_neg c]
      obtain ⟨hn, he, hk⟩ := isRoadX7 hx hle c
      by_cases d : Y 4 (64 * (S 2 nt).toNatClampNeg + (nI v).toNatClampNeg) ≤ Y 4 (64 * (S 2 nt).toNatClampNeg + (f_X7_neighbour (nI v) (nI (3 - j))).toNatClampNeg)
      · rw [if_pos d]
        exact gN_B h (by omega) hv hb hS rfl he hn d
      · rw [if_neg d]
        exact gN_C h (by omega) hv hb hS rfl he hn hk d
theorem lp72_fin {S Y : zS} {nh nt gi v b l : Nat} {xm : Int32} (hv : v < 64) (hb : b < 64) (hS : S 2 nt = nI b) (hF : FS (Y 0) b (fun j => Y 4 (64 * b + j))) (hl : l < 64) (hne : v ≠ b) (he : Y 4 (64 * b + v) = nI l) (q : Nat) (hq : q = 4) : ∃ s, s < 4 ∧ low Y b v s ∧ lp_X7_goes_72 S nh nt xm gi (nI v) Y (-1) q = nI (nb v s) ∧ ∀ t, t < s → ¬ low Y b v t := by
  have h := lp72_gN (S := S) (Y := Y) (nh := nh) (gi := gi) (xm := xm) hv hb hS q (by omega)
  subst hq
  rcases h with ⟨_, h2⟩ | ⟨s, _, h2, h3, h4, h5⟩
  · obtain ⟨s, hs, hl⟩ := low_ex hF hv hl hne he
    exact absurd hl (h2 s (by omega) hs)
  · exact ⟨s, h2, h3, h4, fun t ht => h5 t (by omega) ht⟩
theorem lp19_f {T Y : zS} {v b l l' s : Nat} (hv : v < 64) (hb : b < 64) (hD : ∀ j, j < 64 → T 4 (64 * b + j) = Y 4 (64 * b + j)) (hF : FS (Y 0) b (fun j => Y 4 (64 * b + j))) (hl : l < 64) (hll : l = l' + 1) (he : Y 4 (64 * b + v) = nI l) (hs : s < 4) (hlow : low Y b v s) (he' : Y 4 (64 * b + nb v s) = nI l') (hmin : ∀ t, t < s → ¬ low Y b v t) : ∀ q i, i + q = 4 → i ≤ s → lp_X3_nextRoad_19 T (nI v) (nI b) q i = nI (nb v s) := by
  intro q
  induction q with
  | zero => intro i h1 h2; omega
  | succ q ih =>
    intro i h1 h2
    have hle := nb_le v hv i (by omega)
    have e1 : T 4 (64 * b + v) - 1 = nI l' := by
      rw [hD v hv, he, hll, nI_succ, Int32.add_sub_cancel]
    rw [lp_X3_nextRoad_19, nbX6 v hv i (by omega), cIx, rg_nI (by omega) (by decide), e1]
    by_cases c : nb v i = 64
    · rw [if_pos c, if_pos rfl]
      by_cases e : i = s
      · have := hlow.1
        rw [← e] at this
        omega
      · exact ih (i + 1) (by omega) (by omega)
    · have hn : nb v i < 64 := by omega
      rw [if_neg c, if_neg (nI_m1 (by omega)), if_neg (nI_pos (by omega)), cIx, rg_nI (by omega) (by decide), hD _ hn]
      by_cases e : i = s
      · rw [e, if_neg (not_not_intro he')]
      · by_cases z : Y 4 (64 * b + nb v i) = nI l'
        · have hk : Y 0 (nb v i) = 1 := by
            rcases hF.2.1 _ hn with y | ⟨_, _, _, y⟩
            · have y2 : Y 4 (64 * b + nb v i) = -1 := y
              rw [z] at y2
              exact absurd y2 (nI_m1 (by omega))
            · exact y
          exact absurd ⟨hn, hk, by rw [z, he]; exact nI_lt (by omega) (by omega)⟩ (hmin i (by omega))
        · rw [if_pos z]
          exact ih (i + 1) (by omega) (by omega)
theorem nextRoad_f {T Y : zS} {v b l l' s : Nat} (hv : v < 64) (hb : b < 64) (hD : ∀ j, j < 64 → T 4 (64 * b + j) = Y 4 (64 * b + j)) (hF : FS (Y 0) b (fun j => Y 4 (64 * b + j))) (hl : l < 64) (hll : l = l' + 1) (he : Y 4 (64 * b + v) = nI l) (hs : s < 4) (hlow : low Y b v s) (he' : Y 4 (64 * b + nb v s) = nI l') (hmin : ∀ t, t < s → ¬ low Y b v t) : f_X3_nextRoad T (nI v) (nI b) = nI (nb v s) := by
  unfold f_X3_nextRoad
  exact lp19_f hv hb hD hF hl hll he hs hlow he' hmin 4 0 rfl (Nat.zero_le _)
theorem eq_walk {S S' : zS} {xf xp : Int32} {nh nt b : Nat} (hb : b < 64) (hS : S' 2 nt = nI b) : ∀ (q i gi v l : Nat) (T Y : zS), v < 64 → l < 64 → FS (Y 0) b (fun j => Y 4 (64 * b + j)) → (∀ j, j < 64 → T 4 (64 * b + j) = Y 4 (64 * b + j)) → Y 4 (64 * b + v) = nI l → (∀ k, k < 64 → T 11 k = Y 11 k) → ∀ k, k < 64 → (lp_X1_walk_17 S xf (nI b) xp q i (nI v) T).2 11 k = (lp_X7_goes_59 S' nh nt xp q gi (nI v) Y).2 11 k := by
  intro q
  induction q with
  | zero => intro i gi v l T Y hv hl hF hD he h11 k hk; exact h11 k hk
  | succ q ih =>
    intro i gi v l T Y hv hl hF hD he h11 k hk
    rw [lp_X1_walk_17, lp_X7_goes_59, hS]
    by_cases c : nI v = nI b
    · rw [if_pos c, if_pos c]
      exact h11 k hk
    · rw [if_neg c, if_neg c]
      have hne : v ≠ b := fun z => c (by rw [z])
      obtain ⟨s, hs, hlow, hx, hmin⟩ := lp72_fin (S := S') (Y := Y) (nh := nh) (nt := nt) (gi := gi) (xm := xp) hv hb hS hF hl hne he 4 rfl
      obtain ⟨l', hll, he'⟩ := low_l hF hv hs hl he hlow
      rw [hx, nextRoad_f (T := T) hv hb hD hF hl hll he hs hlow he' hmin, ra_nI hlow.1 (by decide), nI_clamp (by have := hlow.1; omega)]
      refine ih (i + 1) (gi + 1) (nb v s) l' (zUp T 11 (upd (T 11) (nb v s) (T 11 (nb v s) + xp))) (zUp Y 11 (upd (Y 11) (nb v s) (Y 11 (nb v s) + xp))) hlow.1 (by omega) hF hD he' (fun a ha => ?_) k hk
      show upd (T 11) (nb v s) (T 11 (nb v s) + xp) a = upd (Y 11) (nb v s) (Y 11 (nb v s) + xp) a
      by_cases e : a = nb v s
      · rw [e, pk_us, pk_us, h11 _ hlow.1]
      · rw [pk_un e, pk_un e]
        exact h11 a ha
