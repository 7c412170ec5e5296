/-! A MONTH of the law's, told by the reference -/
theorem zf_0 {x : Int32} : (if x = 2 then (1 : Int32) else (if ¬ x = 3 then 0 else 1)) = 0 ↔ ¬ (x = 2 ∨ x = 3) := by
  by_cases a : x = 2
  · rw [if_pos a]
    exact ⟨fun h => absurd h (by decide), fun h => absurd (Or.inl a) h⟩
  · rw [if_neg a]
    by_cases b : x = 3
    · rw [if_neg (not_not_intro b)]
      exact ⟨fun h => absurd h (by decide), fun h => absurd (Or.inr b) h⟩
    · rw [if_pos b]
      exact ⟨fun _ h => h.elim a b, fun _ => rfl⟩
theorem m39_sum {x sm h t P : Int32} (hx : x = 0 ∨ x = 1 ∨ x = 2 ∨ x = 3 ∨ x = 4 ∨ x = 5 ∨ x = 6) : (sm + (if ¬ x = 2 then (if ¬ x = 3 then (if ¬ x = 1 then (if ¬ x = 4 then (if x ≤ 4 then 0 else (-10)) else (-2)) else (-1)) else (t * (if (if x = 2 then (1 : Int32) else (if ¬ x = 3 then 0 else 1)) = 0 then 0 else P))) else (h * (if (if x = 2 then (1 : Int32) else (if ¬ x = 3 then 0 else 1)) = 0 then 0 else P)))) = (sm + (if x = 2 then h * P else if x = 3 then t * P else 0)) - f_X6_upkeepOf x := by
  unfold f_X6_upkeepOf
  rcases hx with e | e | e | e | e | e | e <;> rw [e]
  · rw [if_pos (show ¬ (0 : Int32) = 2 by decide), if_pos (show ¬ (0 : Int32) = 3 by decide), if_pos (show ¬ (0 : Int32) = 1 by decide), if_pos (show ¬ (0 : Int32) = 4 by decide), if_pos (show (0 : Int32) ≤ 4 by decide)]
    show sm + 0 = sm + 0 - 0
    grind
  · show sm + -1 = sm + 0 - 1
    grind
  · show sm + h * P = sm + h * P - 0
    grind
  · show sm + t * P = sm + t * P - 0
    grind
  · show sm + -2 = sm + 0 - 2
    grind
  · show sm + -10 = sm + 0 - 10
    grind
  · show sm + -10 = sm + 0 - 10
    grind
theorem m39 {S F : zS} (H : LF S F) {c : Int32} : ∀ n, n ≤ 64 → (∀ r, r ≠ 23 → r ≠ 24 → (lp_L_isMonth_39 S F c S n).2 r = S r) ∧ (∀ k, k < n → (lp_L_isMonth_39 S F c S n).2 23 k = (if (S 20 k = 2 ∨ S 20 k = 3) then F 9 k else 0) ∧ (lp_L_isMonth_39 S F c S n).2 24 k = (if (S 20 k = 2 ∨ S 20 k = 3) then (if F 8 k = 0 then -1 else f_X7_valueOf F k) else -1)) ∧ (lp_L_isMonth_39 S F c S n).1 = lp_X7_lives_18 (bM S) c n := by
  intro n
  induction n with
  | zero => exact fun _ => ⟨fun _ _ _ => rfl, fun k hk => absurd hk (Nat.not_lt_zero _), rfl⟩
  | succ n ih =>
    intro hn
    obtain ⟨h1, h2, h3⟩ := ih (by omega)
    show (∀ r, r ≠ 23 → r ≠ 24 → (bd_L_isMonth_39 S F n (lp_L_isMonth_39 S F c S n).1 (lp_L_isMonth_39 S F c S n).2).2 r = S r) ∧ (∀ k, k < n + 1 → (bd_L_isMonth_39 S F n (lp_L_isMonth_39 S F c S n).1 (lp_L_isMonth_39 S F c S n).2).2 23 k = _ ∧ (bd_L_isMonth_39 S F n (lp_L_isMonth_39 S F c S n).1 (lp_L_isMonth_39 S F c S n).2).2 24 k = _) ∧ (bd_L_isMonth_39 S F n (lp_L_isMonth_39 S F c S n).1 (lp_L_isMonth_39 S F c S n).2).1 = bd_X7_lives_18 (bM S) n (lp_X7_lives_18 (bM S) c n)
    rw [← h3]
    generalize lp_L_isMonth_39 S F c S n = Y at h1 h2 ⊢
    obtain ⟨sm, T⟩ := Y
    have h1 : ∀ r, r ≠ 23 → r ≠ 24 → T r = S r := h1
    have h2 : ∀ k, k < n → T 23 k = (if (S 20 k = 2 ∨ S 20 k = 3) then F 9 k else 0) ∧ T 24 k = (if (S 20 k = 2 ∨ S 20 k = 3) then (if F 8 k = 0 then -1 else f_X7_valueOf F k) else -1) := h2
    have t20 := h1 20 (by decide) (by decide)
    have t22 := h1 22 (by decide) (by decide)
    refine ⟨fun r a b => ?_, fun k hk => ?_, ?_⟩
    · show zUp (zUp T 23 _) 24 _ r = S r
      rw [zUp_n _ _ b, zUp_n _ _ a]
      exact h1 r a b
    · show upd (T 23) n (if (if T 20 n = 2 then (1 : Int32) else (if ¬ T 20 n = 3 then 0 else 1)) = 0 then 0 else F 9 n) k = _ ∧ upd (T 24) n (if (if T 20 n = 2 then (1 : Int32) else (if ¬ T 20 n = 3 then 0 else 1)) = 0 then (-1) else (if F 8 n = 0 then (-1) else f_X7_valueOf F n)) k = _
      by_cases e : k = n
      · rw [e, pk_us, pk_us, t20]
        by_cases hz : S 20 n = 2 ∨ S 20 n = 3
        · rw [if_neg (fun y => zf_0.mp y hz), if_neg (fun y => zf_0.mp y hz), if_pos hz, if_pos hz]
          exact ⟨rfl, rfl⟩
        · rw [if_pos (zf_0.mpr hz), if_pos (zf_0.mpr hz), if_neg hz, if_neg hz]
          exact ⟨rfl, rfl⟩
      · rw [pk_un e, pk_un e]
        exact h2 k (by omega)
    · rw [bd18_f (S := bM S) (K := S 20) (P := F 9) (h := S 22 3) (t := S 22 4) (by rw [← H.2]; exact H.f0) (by rw [← H.2]) (by rw [← H.2, H.f13]) (by rw [← H.2, H.f13])]
      refine Eq.trans (m39_sum (x := T 20 n) (sm := sm) (h := T 22 3) (t := T 22 4) (P := F 9 n) (by rw [t20]; exact H.kd n (by omega))) ?_
      rw [t20, t22]
      rfl
theorem pass_none (X : zS) : t_X6_pass X 1 = none := by
  unfold t_X6_pass t_X6_requireRange
  rfl
theorem pass_1 (X : zS) : g_X6_pass X 1 = g_X6_passMonth X ∧ f_X6_pass X 1 = g_X6_passMonth X 17 0 - X 17 0 := by
  have h1 : (1 : Int32).toNatClampNeg = 0 + 1 := by decide
  unfold g_X6_pass f_X6_pass f_X2_cashNow
  rw [h1]
  exact ⟨rfl, rfl⟩
theorem month_does {S F NT X TD : zS} {N1 c rD : Int32} {d : Nat} (H : LF S F) (hd : S 22 1 = nI d) (hdb : d ≤ 5000) (h1 : (lp_L_isMonth_39 S F c S 64).1 = N1) (h2 : (lp_L_isMonth_39 S F c S 64).2 = NT) (hc : c = -((nI d + 99) / 100)) (hX : X = zUp (zUp NT 22 (upd (NT 22) 0 (NT 22 0 + N1))) 22 (upd (upd (NT 22) 0 (NT 22 0 + N1)) 2 ((upd (NT 22) 0 (NT 22 0 + N1)) 2 + N1)))
    (hp : dPost (t_X6_pass X 1) (f_X6_pass X 1) (g_X6_pass X 1) X rD TD) : rD = N1 ∧ MF TD := by
  obtain ⟨a1, a2, a3⟩ := m39 H (c := c) 64 (Nat.le_refl _)
  rw [h1] at a3
  rw [h2] at a1 a2
  rcases hp with ⟨_, hr, hT⟩ | ⟨q, _, hq, _, _⟩
  rotate_left
  · rw [pass_none] at hq
    cases hq
  have x20 : X 20 = S 20 := by rw [hX, zUp_n _ _ (by decide), zUp_n _ _ (by decide), a1 20 (by decide) (by decide)]
  have x21 : X 21 = S 21 := by rw [hX, zUp_n _ _ (by decide), zUp_n _ _ (by decide), a1 21 (by decide) (by decide)]
  have x22 : X 22 = upd (upd (S 22) 0 (S 22 0 + N1)) 2 ((upd (S 22) 0 (S 22 0 + N1)) 2 + N1) := by rw [hX, zUp_s, a1 22 (by decide) (by decide)]
  have x23 : X 23 = NT 23 := by rw [hX, zUp_n _ _ (by decide), zUp_n _ _ (by decide)]
  have x24 : X 24 = NT 24 := by rw [hX, zUp_n _ _ (by decide), zUp_n _ _ (by decide)]
  have xlo : ∀ r, r < 18 → X r = S r := fun r hr => by rw [hX, zUp_n _ _ (by omega), zUp_n _ _ (by omega), a1 r (by omega) (by omega)]
  have hRX : Rel X (bM S) := Rel_lo H.1.1 xlo
  have hL := eq_month hRX
  obtain ⟨p1, p2⟩ := pass_1 X
  rw [p1] at hT
  rw [p2] at hr
  obtain ⟨l0, ⟨m0, m1, m2, m3, m4⟩, F', fO, f13, z1, z2, z3⟩ := lives_f (M := bM S) (F := F) (d := N1) H.2 (a3.trans (by rw [hc]; show lp_X7_lives_18 (bM S) (-((nI d + 99) / 100)) 64 = lp_X7_lives_18 (bM S) (-((S 22 1 + 99) / 100)) 64; rw [hd]))
  have hcash : rD = N1 := by
    rw [hr, hL.2.2.1, m0, hRX.2.2.1]
    grind
  have kl := Rel_kl hL
  have t20 : TD 20 = S 20 := by rw [hT]; exact x20
  have t21 : TD 21 = S 21 := by rw [hT]; exact x21
  have t22 : TD 22 = X 22 := by rw [hT]; rfl
  have t23 : TD 23 = NT 23 := by rw [hT]; exact x23
  have t24 : TD 24 = NT 24 := by rw [hT]; exact x24
  have tlo : ∀ r, r < 18 → TD r = g_X6_passMonth X r := fun r hr => by
    rw [hT]
    unfold mix
    rw [if_pos (by omega)]
  have t1 : TD 1 = g_X7_lives (bM S) 1 := by
    rw [tlo 1 (by decide)]
    exact kl.2
  have e22 : TD 22 0 = S 22 0 + N1 := by rw [t22, x22, pk_un (by decide), pk_us]
  refine ⟨hcash, fun i hi hz => ?_, fun i hi h2 h3 => ?_, fun T hM => ?_⟩
  · rw [t20] at hz ⊢
    rw [t1, z1 i hi hz, t21, t23, t24, e22, (a2 i hi).1, (a2 i hi).2, if_pos hz, if_pos hz]
    obtain ⟨a, q, ha, el, _, hq, ep⟩ := H.pl hi
    have k0 : F' 0 = S 20 := (fO 0 (by decide)).trans H.f0
    have k1 : F' 1 = S 21 := (fO 1 (by decide)).trans H.f1
    have k8 : F' 8 = F 8 := fO 8 (by decide)
    have k9 : F' 9 = F 9 := fO 9 (by decide)
    have hn := new_f (F' := F') (k := i) (v := f_X7_valueOf F i) (c := S 22 0 + N1) ha hq (by rw [k1]; exact el) (by rw [k9]; exact ep) (by rw [k0]; exact hz) (by rw [k8]; exact q_served01 H hi) (val_congr fO) (val_nn F i) f13
    rw [k0, k1, k8, k9] at hn
    exact hn
  · rw [t20] at h2 h3
    rw [t1, z2 i hi (fun z => z.elim h2 h3), t21]
    rfl
  · have hMlo : ∀ r, r < 18 → T r = g_X6_passMonth X r := fun r hr => (hM.1 r (by omega)).trans (tlo r hr)
    have hRT : Rel T (g_X7_lives (bM S)) := Rel_lo hL hMlo
    have T20 : T 20 = S 20 := (hM.1 20 (by decide)).trans t20
    have T22 : T 22 = X 22 := (hM.1 22 (by decide)).trans t22
    have T21 : T 21 = g_X7_lives (bM S) 1 := by
      funext k
      by_cases hk : k < 64
      · rw [hM.2.2 k hk, t1]
      · rw [hM.2.1 k (by omega), t21, z3 k (by omega)]
        rfl
    refine ⟨⟨Rel_move hRT ?_ ?_ ?_, ?_, ?_⟩, d, hdb, ?_⟩
    · rw [bM_0, T20, l0]
      rfl
    · rw [bM_1, T21]
    · intro i hi
      rw [bM_13, T22, x22]
      rcases (show i = 0 ∨ i = 1 ∨ i = 2 ∨ i = 3 ∨ i = 4 by omega) with e | e | e | e | e <;> rw [e]
      · rw [m0, pk_un (by decide), pk_us]
        rfl
      · rw [m1, pk_un (by decide), pk_un (by decide)]
        rfl
      · rw [m2, pk_us, pk_un (by decide)]
        rfl
      · rw [m3, pk_un (by decide), pk_un (by decide)]
        rfl
      · rw [m4, pk_un (by decide), pk_un (by decide)]
        rfl
    · rw [T20]
      exact H.kd
    · intro k hk hz
      rw [T20] at hz
      rw [T21, z2 k hk hz]
      exact H.lz k hk hz
    · rw [T22, x22, pk_un (by decide), pk_un (by decide)]
      exact hd
