/-! WHAT THE REFERENCE FINDS, told for the law: jobs and supply -/
theorem jx_finds {M : zS} (hL : lvOK (M 1)) : ∃ m, m ≤ 64 ∧ JX (M 0) (g_X7_finds M) m := by
  have hm := mRd_of M
  have hN := (nets_f M).1
  have hr := cRd_of M
  have hC := (cfind_f M).1
  have hE : eqS (M 0) (M 1) (g_X3_find M) (g_X7_findsNets M) := ⟨hr, hm, hC 0 (by decide) (by decide) (by decide) (by decide) (by decide), hN 0 (by decide) (by decide) (by decide) (by decide), hC 1 (by decide) (by decide) (by decide) (by decide) (by decide), hN 1 (by decide) (by decide) (by decide) (by decide)⟩
  obtain ⟨i1, i2, i3, i4, -⟩ := eq_supply hE hL
  have hE' : eqS (M 0) (M 1) (g_X5_find (g_X3_find M)) (g_X7_supplies (g_X7_findsNets M)) := by
    obtain ⟨e1, e2, e3, e4, e5, e6⟩ := hE
    exact ⟨cRd_congr e1 (i1 2 (by decide) (by decide) (by decide)) (i1 3 (by decide) (by decide) (by decide)) (i1 4 (by decide) (by decide) (by decide)) (i1 15 (by decide) (by decide) (by decide)), mRd_congr e2 (i2 2 (by decide) (by decide) (by decide)) (i2 3 (by decide) (by decide) (by decide)) (i2 4 (by decide) (by decide) (by decide)), (i1 0 (by decide) (by decide) (by decide)).trans e3, (i2 0 (by decide) (by decide) (by decide)).trans e4, (i1 1 (by decide) (by decide) (by decide)).trans e5, (i2 1 (by decide) (by decide) (by decide)).trans e6⟩
  have := jx_works hE' hL
  unfold g_X7_finds
  exact this
theorem LF.jx {S F : zS} (H : LF S F) : ∃ m, m ≤ 64 ∧ JX (S 20) F m := by
  rw [H.2]
  exact jx_finds (M := bM S) H.lv
theorem lv_nat {x : Int32} (h : x = 0 ∨ x = 1 ∨ x = 2 ∨ x = 3) : ∃ a, a ≤ 3 ∧ x = nI a ∧ 2 * x = nI (2 * a) := by
  rcases h with z | z | z | z <;> rw [z]
  · exact ⟨0, by omega, by decide, by decide⟩
  · exact ⟨1, by omega, by decide, by decide⟩
  · exact ⟨2, by omega, by decide, by decide⟩
  · exact ⟨3, by omega, by decide, by decide⟩
theorem LF.pl {S F : zS} (H : LF S F) {k : Nat} (hk : k < 64) : ∃ a q, a ≤ 3 ∧ S 21 k = nI a ∧ 2 * S 21 k = nI (2 * a) ∧ q ≤ 2 * a ∧ F 9 k = nI q := by
  obtain ⟨a, ha, e1, e2⟩ := lv_nat (H.lv k hk)
  obtain ⟨m, hm, e3, e4⟩ := H.sv.2.2.2.2.2 k hk
  rw [e2] at e3 e4
  have hle : m ≤ 2 * a := (nI_leI (by omega) (by omega)).mp e4
  refine ⟨a, 2 * a - m, ha, e1, e2, by omega, ?_⟩
  have e5 : F 9 k = nI (2 * a) - nI m := by
    rw [← e3]
    grind
  rw [e5]
  exact pk_sub hle
theorem cell_p0 {S F : zS} (H : LF S F) {k : Nat} (hk : k < 64) : ¬ F 9 k < 0 := by
  obtain ⟨a, q, ha, _, _, hq, e⟩ := H.pl hk
  rw [e]
  exact nI_pos (by omega)
theorem cell_p2 {S F : zS} (H : LF S F) {k : Nat} (hk : k < 64) : ¬ 2 * S 21 k < F 9 k := by
  obtain ⟨a, q, ha, _, e2, hq, e⟩ := H.pl hk
  rw [e, e2]
  intro z
  have := (nI_ltI (a := 2 * a) (b := q) (by omega) (by omega)).mp z
  omega
theorem cell_pz {S F : zS} (H : LF S F) {k : Nat} (hk : k < 64) (hz : ¬ isZ (S 20) k) : F 9 k = 0 := by
  obtain ⟨a, q, ha, e1, _, hq, e⟩ := H.pl hk
  rw [H.lz k hk hz] at e1
  have h0 : (0 : Nat) = a := nI_inj (by omega) (by omega) e1
  have hq0 : q = 0 := by omega
  rw [e, hq0]
  rfl
theorem LF.tr {S F : zS} (H : LF S F) {k : Nat} (hk : k < 64) : ∃ t, t ≤ 25600 ∧ F 11 k = nI t ∧ (S 20 k = 1 ∨ t = 0) := by
  obtain ⟨m, hm, X⟩ := H.jx
  obtain ⟨t, h1, h2⟩ := X.2.2 k hk
  exact ⟨t, by omega, h2⟩
theorem cell_t0 {S F : zS} (H : LF S F) {k : Nat} (hk : k < 64) (h : ¬ S 20 k = 1) : F 11 k = 0 := by
  obtain ⟨t, _, h2, h3⟩ := H.tr hk
  rw [h2, h3.resolve_left h]
  rfl
theorem cell_t1 {S F : zS} (H : LF S F) {k : Nat} (hk : k < 64) : ¬ F 11 k < 0 := by
  obtain ⟨t, h1, h2, _⟩ := H.tr hk
  rw [h2]
  exact nI_pos (by omega)
/-- supply -/
def ned (L : Nat → Int32) (n : Nat) : Int32 := if ¬ L n = 0 then L n else 1
def canI (p w d : Int32) : Int32 := if p < d then 0 else (if w < d then 0 else 1)
def psum (K N : Nat → Int32) (u : Nat) (c : Int32) : Nat → Int32
  | 0 => 0
  | n + 1 => psum K N u c n + (if N n = nI u ∧ K n = c then 20 else 0)
theorem mc_f {Y : zS} {n : Nat} {d : Int32} (hN : Y 3 n = -1 ∨ ∃ v, v < 64 ∧ Y 3 n = nI v) :
    (∀ u, u < 64 → (mcore Y n d) 6 u = (if (Y 0 n = 2 ∨ Y 0 n = 3) ∧ Y 3 n = nI u then Y 6 u - (if canI (Y 6 u) (Y 7 u) d = 0 then 0 else d) else Y 6 u) ∧ (mcore Y n d) 7 u = (if (Y 0 n = 2 ∨ Y 0 n = 3) ∧ Y 3 n = nI u then Y 7 u - (if canI (Y 6 u) (Y 7 u) d = 0 then 0 else d) else Y 7 u)) ∧
    (mcore Y n d) 8 n = (if (Y 0 n = 2 ∨ Y 0 n = 3) then (if Y 3 n = -1 then 0 else canI (Y 6 (Y 3 n).toNatClampNeg) (Y 7 (Y 3 n).toNatClampNeg) d) else 0) ∧ ∀ k, k ≠ n → (mcore Y n d) 8 k = Y 8 k := by
  unfold mcore
  by_cases z : f_X7_isZone Y n = 0
  · have nz : ¬ (Y 0 n = 2 ∨ Y 0 n = 3) := zoneM.mp z
    rw [if_pos z]
    refine ⟨fun u hu => ⟨?_, ?_⟩, ?_, fun k hk => ?_⟩
    · rw [if_neg (fun h => nz h.1)]
      rfl
    · rw [if_neg (fun h => nz h.1)]
      rfl
    · rw [if_neg nz]
      exact pk_us
    · exact pk_un hk
  · have hz : Y 0 n = 2 ∨ Y 0 n = 3 := Classical.byContradiction fun h => z (zoneM.mpr h)
    rw [if_neg z]
    rcases hN with e | ⟨v, hv, e⟩
    · rw [if_pos e]
      refine ⟨fun u hu => ⟨?_, ?_⟩, ?_, fun k hk => ?_⟩
      · rw [if_neg (fun h => nI_m1 (n := u) (by omega) (by rw [← h.2]; exact e))]
        rfl
      · rw [if_neg (fun h => nI_m1 (n := u) (by omega) (by rw [← h.2]; exact e))]
        rfl
      · rw [if_pos hz, if_pos e]
        exact pk_us
      · exact pk_un hk
    · have e1 : ¬ Y 3 n = -1 := by
        rw [e]
        exact nI_m1 (by omega)
      have ec : (Y 3 n).toNatClampNeg = v := by
        rw [e]
        exact nI_clamp (by omega)
      rw [if_neg e1, ec]
      have no : ∀ u, u < 64 → u ≠ v → ¬ ((Y 0 n = 2 ∨ Y 0 n = 3) ∧ Y 3 n = nI u) := fun u hu hne h => by
        rw [e] at h
        exact hne (nI_inj (by omega) (by omega) h.2).symm
      by_cases p1 : Y 6 v < d
      · rw [if_pos p1]
        have hc : canI (Y 6 v) (Y 7 v) d = 0 := by
          unfold canI
          rw [if_pos p1]
        refine ⟨fun u hu => ⟨?_, ?_⟩, ?_, fun k hk => pk_un hk⟩
        · by_cases hu2 : u = v
          · rw [hu2, if_pos ⟨hz, e⟩, hc, if_pos rfl, Int32.sub_zero]
            rfl
          · rw [if_neg (no u hu hu2)]
            rfl
        · by_cases hu2 : u = v
          · rw [hu2, if_pos ⟨hz, e⟩, hc, if_pos rfl, Int32.sub_zero]
            rfl
          · rw [if_neg (no u hu hu2)]
            rfl
        · rw [if_pos hz, if_neg e1, hc]
          exact pk_us
      · rw [if_neg p1]
        by_cases p2 : Y 7 v < d
        · rw [if_pos p2]
          have hc : canI (Y 6 v) (Y 7 v) d = 0 := by
            unfold canI
            rw [if_neg p1, if_pos p2]
          refine ⟨fun u hu => ⟨?_, ?_⟩, ?_, fun k hk => pk_un hk⟩
          · by_cases hu2 : u = v
            · rw [hu2, if_pos ⟨hz, e⟩, hc, if_pos rfl, Int32.sub_zero]
              rfl
            · rw [if_neg (no u hu hu2)]
              rfl
          · by_cases hu2 : u = v
            · rw [hu2, if_pos ⟨hz, e⟩, hc, if_pos rfl, Int32.sub_zero]
              rfl
            · rw [if_neg (no u hu hu2)]
              rfl
          · rw [if_pos hz, if_neg e1, hc]
            exact pk_us
        · rw [if_neg p2]
          have hc : canI (Y 6 v) (Y 7 v) d = 1 := by
            unfold canI
            rw [if_neg p1, if_neg p2]
          refine ⟨fun u hu => ⟨?_, ?_⟩, ?_, fun k hk => pk_un hk⟩
          · show upd (Y 6) v (Y 6 v - d) u = _
            by_cases hu2 : u = v
            · rw [hu2, if_pos ⟨hz, e⟩, hc, if_neg (by decide), pk_us]
            · rw [if_neg (no u hu hu2), pk_un hu2]
          · show upd (Y 7) v (Y 7 v - d) u = _
            by_cases hu2 : u = v
            · rw [hu2, if_pos ⟨hz, e⟩, hc, if_neg (by decide), pk_us]
            · rw [if_neg (no u hu hu2), pk_un hu2]
          · rw [if_pos hz, if_neg e1, hc]
            exact pk_us
theorem sup_add {Y : zS} {n : Nat} (hN : Y 3 n = -1 ∨ ∃ v, v < 64 ∧ Y 3 n = nI v) (S : zS) : ∀ u, u < 64 → (bd_X7_supplies_30 S n Y) 6 u = Y 6 u + (if Y 3 n = nI u ∧ Y 0 n = 5 then 20 else 0) ∧ (bd_X7_supplies_30 S n Y) 7 u = Y 7 u + (if Y 3 n = nI u ∧ Y 0 n = 6 then 20 else 0) := by
  intro u hu
  unfold bd_X7_supplies_30
  rcases hN with e | ⟨v, hv, e⟩
  · have no : ∀ c : Int32, ¬ (Y 3 n = nI u ∧ Y 0 n = c) := fun c h => nI_m1 (n := u) (by omega) (by rw [← h.1]; exact e)
    rw [if_pos e, if_neg (no 5), if_neg (no 6), Int32.add_zero, Int32.add_zero]
    exact ⟨rfl, rfl⟩
  · have e1 : ¬ Y 3 n = -1 := by
      rw [e]
      exact nI_m1 (by omega)
    have ec : (Y 3 n).toNatClampNeg = v := by
      rw [e]
      exact nI_clamp (by omega)
    rw [if_neg e1, ec]
    have key : ∀ (r : Nat) (x : Int32) (b : Prop) [Decidable b], (b → x = 20) → (¬ b → x = 0) → upd (Y r) v (Y r v + x) u = Y r u + (if Y 3 n = nI u ∧ b then 20 else 0) := by
      intro r x b _ h1 h2
      by_cases hu2 : u = v
      · rw [hu2, pk_us]
        by_cases hb : b
        · rw [if_pos ⟨e, hb⟩, h1 hb]
        · rw [if_neg (fun h => hb h.2), h2 hb]
      · rw [pk_un hu2, if_neg (fun h => by
          rw [e] at h
          exact hu2 (nI_inj (by omega) (by omega) h.1).symm), Int32.add_zero]
    by_cases c5 : Y 0 n = 5
    · have c6 : ¬ Y 0 n = 6 := by
        rw [c5]
        decide
      rw [if_neg (not_not_intro c5), if_pos c6]
      exact ⟨key 6 20 _ (fun _ => rfl) (fun h => absurd c5 h), key 7 0 _ (fun h => absurd h c6) (fun _ => rfl)⟩
    · rw [if_pos c5]
      by_cases c6 : Y 0 n = 6
      · rw [if_neg (not_not_intro c6)]
        exact ⟨key 6 0 _ (fun h => absurd h c5) (fun _ => rfl), key 7 20 _ (fun _ => rfl) (fun h => absurd c6 h)⟩
      · rw [if_pos c6]
        exact ⟨key 6 0 _ (fun h => absurd h c5) (fun _ => rfl), key 7 0 _ (fun h => absurd h c6) (fun _ => rfl)⟩
theorem sup_sum {T N : zS} (hN : ∀ k, k < 64 → T 3 k = -1 ∨ ∃ v, v < 64 ∧ T 3 k = nI v) : ∀ n, n ≤ 64 → ∀ u, u < 64 → (lp_X7_supplies_30 N T n) 6 u = T 6 u + psum (T 0) (T 3) u 5 n ∧ (lp_X7_supplies_30 N T n) 7 u = T 7 u + psum (T 0) (T 3) u 6 n := by
  intro n
  induction n with
  | zero =>
    intro _ u hu
    exact ⟨(Int32.add_zero _).symm, (Int32.add_zero _).symm⟩
  | succ n ih =>
    intro hn u hu
    obtain ⟨h1, h2⟩ := ih (by omega) u hu
    have f0 := fr_lp_X7_supplies_30 N T 0 (by decide) (by decide) (by decide) n
    have f3 := fr_lp_X7_supplies_30 N T 3 (by decide) (by decide) (by decide) n
    show (bd_X7_supplies_30 N n (lp_X7_supplies_30 N T n)) 6 u = T 6 u + (psum (T 0) (T 3) u 5 n + (if T 3 n = nI u ∧ T 0 n = 5 then 20 else 0)) ∧ (bd_X7_supplies_30 N n (lp_X7_supplies_30 N T n)) 7 u = T 7 u + (psum (T 0) (T 3) u 6 n + (if T 3 n = nI u ∧ T 0 n = 6 then 20 else 0))
    generalize lp_X7_supplies_30 N T n = Y at h1 h2 f0 f3 ⊢
    obtain ⟨g1, g2⟩ := sup_add (Y := Y) (n := n) (by rw [f3]; exact hN n (by omega)) N u hu
    rw [g1, g2, h1, h2, f0, f3, Int32.add_assoc, Int32.add_assoc]
    exact ⟨rfl, rfl⟩
/-- what is supplied, cell by cell: from the works' sums to what is left -/
theorem LF.su {S F : zS} (H : LF S F) : ∃ Y : Nat → zS, (∀ u, u < 64 → Y 0 6 u = psum (S 20) (F 3) u 5 64 ∧ Y 0 7 u = psum (S 20) (F 3) u 6 64) ∧
    (∀ n, n < 64 → ∀ u, u < 64 → Y (n + 1) 6 u = (if (S 20 n = 2 ∨ S 20 n = 3) ∧ F 3 n = nI u then Y n 6 u - (if canI (Y n 6 u) (Y n 7 u) (ned (S 21) n) = 0 then 0 else ned (S 21) n) else Y n 6 u) ∧ Y (n + 1) 7 u = (if (S 20 n = 2 ∨ S 20 n = 3) ∧ F 3 n = nI u then Y n 7 u - (if canI (Y n 6 u) (Y n 7 u) (ned (S 21) n) = 0 then 0 else ned (S 21) n) else Y n 7 u)) ∧
    (∀ n, n < 64 → F 8 n = (if (S 20 n = 2 ∨ S 20 n = 3) then (if F 3 n = -1 then 0 else canI (Y n 6 (F 3 n).toNatClampNeg) (Y n 7 (F 3 n).toNatClampNeg) (ned (S 21) n)) else 0)) ∧ ∀ u, u < 64 → F 6 u = Y 64 6 u := by
  have hn3 : ∀ k, k < 64 → F 3 k = -1 ∨ ∃ v, v < 64 ∧ F 3 k = nI v := fun k hk => net_in H.mR hk
  have hF : F = g_X7_works (g_X7_supplies (g_X7_findsNets (bM S))) := by
    rw [H.2]
    unfold g_X7_finds
    rfl
  have hNr := (nets_f (bM S)).1
  have n0 : g_X7_findsNets (bM S) 0 = S 20 := hNr 0 (by decide) (by decide) (by decide) (by decide)
  have n1 : g_X7_findsNets (bM S) 1 = S 21 := hNr 1 (by decide) (by decide) (by decide) (by decide)
  generalize g_X7_findsNets (bM S) = N at hF n0 n1
  have r6 : F 6 = g_X7_supplies N 6 := by
    rw [hF]
    exact fr_X7_works _ 6 (by decide) (by decide) (by decide)
  have r8 : F 8 = g_X7_supplies N 8 := by
    rw [hF]
    exact fr_X7_works _ 8 (by decide) (by decide) (by decide)
  have r3 : F 3 = N 3 := by
    rw [hF, fr_X7_works _ 3 (by decide) (by decide) (by decide)]
    exact fr_X7_supplies N 3 (by decide) (by decide) (by decide)
  unfold g_X7_supplies at r6 r8
  obtain ⟨i1, i2⟩ := m_sup2 (S := N) (T := N) 64
  generalize lp_X7_supplies_2 N N 64 = T at r6 r8 i1 i2
  have t0 : T 0 = S 20 := (i1 0 (by decide) (by decide)).trans n0
  have t1 : T 1 = S 21 := (i1 1 (by decide) (by decide)).trans n1
  have t3 : T 3 = F 3 := (i1 3 (by decide) (by decide)).trans r3.symm
  have hs := sup_sum (T := T) (N := N) (by rw [t3]; exact hn3) 64 (Nat.le_refl _)
  have f0 := fr_lp_X7_supplies_30 N T 0 (by decide) (by decide) (by decide) 64
  have f1 := fr_lp_X7_supplies_30 N T 1 (by decide) (by decide) (by decide) 64
  have f3 := fr_lp_X7_supplies_30 N T 3 (by decide) (by decide) (by decide) 64
  generalize lp_X7_supplies_30 N T 64 = T2 at r6 r8 hs f0 f1 f3
  rw [t0] at f0
  rw [t1] at f1
  rw [t3] at f3
  have hY0 : ∀ n, (lp_X7_supplies_115 N T2 n) 0 = S 20 := fun n => (fr_lp_X7_supplies_115 N T2 0 (by decide) (by decide) (by decide) n).trans f0
  have hY1 : ∀ n, (lp_X7_supplies_115 N T2 n) 1 = S 21 := fun n => (fr_lp_X7_supplies_115 N T2 1 (by decide) (by decide) (by decide) n).trans f1
  have hY3 : ∀ n, (lp_X7_supplies_115 N T2 n) 3 = F 3 := fun n => (fr_lp_X7_supplies_115 N T2 3 (by decide) (by decide) (by decide) n).trans f3
  have hst := fun (n : Nat) (hn : n < 64) => mc_f (Y := lp_X7_supplies_115 N T2 n) (n := n) (d := ned (S 21) n) (by rw [hY3 n]; exact hn3 n hn)
  have hbd : ∀ n, lp_X7_supplies_115 N T2 (n + 1) = mcore (lp_X7_supplies_115 N T2 n) n (ned (S 21) n) := fun n => by
    show bd_X7_supplies_115 N n (lp_X7_supplies_115 N T2 n) = _
    rw [mcore_e, hY1 n]
    congr 1
    unfold ned
    by_cases c : S 21 n = 0
    · rw [if_pos c, if_neg (not_not_intro c)]
    · rw [if_neg c, if_pos c]
  refine ⟨fun n => lp_X7_supplies_115 N T2 n, fun u hu => ?_, fun n hn u hu => ?_, fun n hn => ?_, fun u hu => ?_⟩
  · show T2 6 u = _ ∧ T2 7 u = _
    obtain ⟨h1, h2⟩ := hs u hu
    rw [h1, h2, (i2 u hu).1, (i2 u hu).2, t0, t3, Int32.zero_add, Int32.zero_add]
    exact ⟨rfl, rfl⟩
  · show lp_X7_supplies_115 N T2 (n + 1) 6 u = _ ∧ lp_X7_supplies_115 N T2 (n + 1) 7 u = _
    rw [hbd n]
    have := (hst n hn).1 u hu
    rw [hY0 n, hY3 n] at this
    exact this
  · rw [r8]
    have hk : ∀ m k, n + 1 + m = k → lp_X7_supplies_115 N T2 k 8 n = lp_X7_supplies_115 N T2 (n + 1) 8 n := by
      intro m
      induction m with
      | zero =>
        intro k hk
        rw [← hk]
      | succ m ih =>
        intro k hk
        obtain ⟨k', rfl⟩ : ∃ k', k = k' + 1 := ⟨n + 1 + m, by omega⟩
        rw [hbd k']
        by_cases hk64 : k' < 64
        · rw [(hst k' hk64).2.2 n (by omega)]
          exact ih k' (by omega)
        · have hmc : (mcore (lp_X7_supplies_115 N T2 k') k' (ned (S 21) k')) 8 n = lp_X7_supplies_115 N T2 k' 8 n := by
            unfold mcore
            (repeat' split) <;> exact pk_un (by omega)
          rw [hmc]
          exact ih k' (by omega)
    rw [hk (63 - n) 64 (by omega), hbd n]
    have := (hst n hn).2.1
    rw [hY0 n, hY3 n] at this
    exact this
  · exact congrFun r6 u
theorem LF.u0 {S F : zS} (H : LF S F) {k : Nat} (hk : k < 64) (h : F 3 k = -1) : F 8 k = 0 := by
  obtain ⟨Y, _, _, h3, _⟩ := H.su
  rw [h3 k hk, if_pos h]
  split <;> rfl
theorem cell_s0 {S F : zS} (H : LF S F) {k : Nat} (hk : k < 64) (h2 : ¬ S 20 k = 2) (h3 : ¬ S 20 k = 3) : F 8 k = 0 := by
  obtain ⟨Y, _, _, h4, _⟩ := H.su
  rw [h4 k hk, if_neg (fun z => z.elim h2 h3)]
theorem pwl_0 {F : zS} {k : Nat} (h : F 3 k = -1) : pwl F k = 0 := by
  unfold pwl
  rw [if_pos h]
