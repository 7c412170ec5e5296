/-! THE BOOK, kept alike by what the law does -/
def LBd (S : zS) : Prop := LB S ∧ ∃ d, d ≤ 5000 ∧ S 22 1 = nI d
theorem Rel_lo {C C' M : zS} (H : Rel C M) (hC : ∀ r, r < 18 → C' r = C r) : Rel C' M := by
  obtain ⟨⟨⟨e1, e2, e3, e4, e5, e6⟩, s2, s3, s4, s5, s6⟩, h2, n0, n1, n2, n3, n4⟩ := H
  refine ⟨⟨⟨cRd_congr e1 (hC 2 (by decide)) (hC 3 (by decide)) (hC 4 (by decide)) (hC 15 (by decide)), e2, (hC 0 (by decide)).trans e3, e4, (hC 1 (by decide)).trans e5, e6⟩, ?_, ?_, ?_, ?_, s6⟩, h2, ?_⟩
  · rw [hC 6 (by decide), hC 8 (by decide), hC 9 (by decide), hC 11 (by decide)]
    exact s2
  · intro a b ha hb
    rw [← s3 a b ha hb]
    exact going_congr (hC 12 (by decide)) (hC 13 (by decide)) (hC 14 (by decide)) (hC 16 (by decide))
  · rw [← s4]
    exact allp_congr (hC 14 (by decide)) (hC 16 (by decide))
  · rw [← s5]
    exact allp_congr (hC 14 (by decide)) (hC 16 (by decide))
  · unfold mny
    rw [hC 17 (by decide)]
    exact ⟨n0, n1, n2, n3, n4⟩
theorem bM_0 (S : zS) : bM S 0 = S 20 := rfl
theorem bM_1 (S : zS) : bM S 1 = S 21 := rfl
theorem bM_13 (S : zS) : bM S 13 = S 22 := rfl
theorem bM_congr {S T : zS} (h0 : T 20 = S 20) (h1 : T 21 = S 21) (h2 : T 22 = S 22) : bM T = bM S := by
  funext r
  unfold bM
  rw [h0, h1, h2]
theorem LB_congr {S T : zS} (H : LB S) (hC : ∀ r, r < 18 → T r = S r) (h0 : T 20 = S 20) (h1 : T 21 = S 21) (h2 : T 22 = S 22) : LB T := by
  unfold LB
  rw [bM_congr h0 h1 h2, h0, h1]
  exact ⟨Rel_lo H.1 hC, H.2⟩
theorem LF_congr {S T F : zS} (H : LF S F) (hC : ∀ r, r < 18 → T r = S r) (h0 : T 20 = S 20) (h1 : T 21 = S 21) (h2 : T 22 = S 22) : LF T F := by
  unfold LF
  rw [bM_congr h0 h1 h2]
  exact ⟨LB_congr H.1 hC h0 h1 h2, H.2⟩
theorem LF_u23 {S F : zS} (H : LF S F) (f : Nat → Int32) : LF (zUp S 23 f) F := LF_congr H (fun r hr => zUp_n _ _ (by omega)) rfl rfl rfl
theorem LF_u24 {S F : zS} (H : LF S F) (f : Nat → Int32) : LF (zUp S 24 f) F := LF_congr H (fun r hr => zUp_n _ _ (by omega)) rfl rfl rfl
/-- a month, by the reference -/
theorem lives_f {M F : zS} {d : Int32} (hF : F = g_X7_finds M) (hd : d = lp_X7_lives_18 M (-((M 13 1 + 99) / 100)) 64) : g_X7_lives M 0 = M 0 ∧ (g_X7_lives M 13 0 = M 13 0 + d ∧ g_X7_lives M 13 1 = M 13 1 ∧ g_X7_lives M 13 2 = M 13 2 + d ∧ g_X7_lives M 13 3 = M 13 3 ∧ g_X7_lives M 13 4 = M 13 4) ∧
    ∃ F', (∀ r, r ≠ 13 → F' r = F r) ∧ F' 13 0 = M 13 0 + d ∧ (∀ k, k < 64 → isZ (M 0) k → g_X7_lives M 1 k = M 1 k + f_X7_changeOf F' k) ∧ (∀ k, k < 64 → ¬ isZ (M 0) k → g_X7_lives M 1 k = M 1 k) ∧ ∀ k, 64 ≤ k → g_X7_lives M 1 k = M 1 k := by
  obtain ⟨f0, f1, f13⟩ := finds_0 M
  unfold g_X7_lives
  rw [← hF] at f0 f1 f13 ⊢
  rw [f13, ← hd]
  obtain ⟨F', hF'⟩ : ∃ F', F' = zUp (zUp F 13 (upd (M 13) 0 (M 13 0 + d))) 13 (upd (upd (M 13) 0 (M 13 0 + d)) 2 ((upd (M 13) 0 (M 13 0 + d)) 2 + d)) := ⟨_, rfl⟩
  rw [← hF']
  have fO : ∀ r, r ≠ 13 → F' r = F r := fun r h => by rw [hF', zUp_n _ _ h, zUp_n _ _ h]
  have q13 : F' 13 = upd (upd (M 13) 0 (M 13 0 + d)) 2 ((upd (M 13) 0 (M 13 0 + d)) 2 + d) := by rw [hF', zUp_s]
  obtain ⟨a1, a2⟩ := m_162 (S := M) (T := F') 64
  generalize lp_X7_lives_162 M F' 64 = Y at a1 a2 ⊢
  obtain ⟨b1, b2, b3⟩ := m_199 (S := M) (T := Y) 64
  generalize lp_X7_lives_199 M Y 64 = Z at b1 b2 b3 ⊢
  have z0 : Z 0 = M 0 := by rw [b1 0 (by decide), a1 0 (by decide), fO 0 (by decide), f0]
  have z13 : Z 13 = upd (upd (M 13) 0 (M 13 0 + d)) 2 ((upd (M 13) 0 (M 13 0 + d)) 2 + d) := by rw [b1 13 (by decide), a1 13 (by decide), q13]
  have y1 : Y 1 = M 1 := by rw [a1 1 (by decide), fO 1 (by decide), f1]
  have k0 : F' 0 = M 0 := by rw [fO 0 (by decide), f0]
  rw [k0] at a2
  refine ⟨z0, ⟨?_, ?_, ?_, ?_, ?_⟩, F', fO, ?_, fun k hk hz => ?_, fun k hk hz => ?_, fun k hk => ?_⟩
  · rw [z13, pk_un (by decide), pk_us]
  · rw [z13, pk_un (by decide), pk_un (by decide)]
  · rw [z13, pk_us, pk_un (by decide)]
  · rw [z13, pk_un (by decide), pk_un (by decide)]
  · rw [z13, pk_un (by decide), pk_un (by decide)]
  · rw [q13, pk_un (by decide), pk_us]
  · rw [b3 k hk, (a2 k hk).1 hz, y1]
  · rw [b3 k hk, (a2 k hk).2 hz, y1, Int32.add_zero]
  · rw [b2 k hk, y1]
/-- the law's months -/
def FALF (kd v l p : Int32) : Int32 := (if 0 ≤ v then (if ¬ kd = 2 then (if l ≤ 0 then 0 else (if ¬ p = 0 then 0 else 1)) else (if ((2 * l) - p) ≤ l then 0 else 1)) else (if l ≤ 0 then 0 else 1))
def GROF (f v c l p : Int32) : Int32 := (if ¬ f = 0 then 0 else (if v < 0 then 0 else (if c < 0 then 0 else (if 3 ≤ l then 0 else (if v < ((5 * l) + 5) then 0 else (if ¬ ((2 * l) - p) = 0 then 0 else 1))))))
def NEWF (kd v l p c : Int32) : Int32 := l + (if FALF kd v l p = 0 then (if GROF (FALF kd v l p) v c l p = 0 then 0 else 1) else (-1))
def MI (TD : zS) (i : Nat) (T : zS) : Prop := (∀ r, r ≠ 21 → T r = TD r) ∧ (∀ k, i ≤ k → T 21 k = TD 21 k) ∧ ∀ k, k < i → T 21 k = TD 1 k
def MF (TD : zS) : Prop := (∀ i, i < 64 → (TD 20 i = 2 ∨ TD 20 i = 3) → TD 1 i = NEWF (TD 20 i) (TD 24 i) (TD 21 i) (TD 23 i) (TD 22 0)) ∧ (∀ i, i < 64 → ¬ TD 20 i = 2 → ¬ TD 20 i = 3 → TD 1 i = TD 21 i) ∧ ∀ T, MI TD 64 T → LBd T
theorem MI_0 (TD : zS) : MI TD 0 TD := ⟨fun _ _ => rfl, fun _ _ => rfl, fun k hk => absurd hk (Nat.not_lt_zero _)⟩
theorem MI_z {TD T : zS} {i : Nat} {x : Int32} (hM : MI TD i T) (hi : i < 64) (h : T 1 i = x) : MI TD (i + 1) (zUp T 21 (upd (T 21) i x)) := by
  refine ⟨fun r hr => by rw [zUp_n _ _ hr]; exact hM.1 r hr, fun k hk => ?_, fun k hk => ?_⟩
  · rw [zUp_s, pk_un (by omega)]
    exact hM.2.1 k (by omega)
  · rw [zUp_s]
    by_cases e : k = i
    · rw [e, pk_us, ← h, hM.1 1 (by decide)]
    · rw [pk_un e]
      exact hM.2.2 k (by omega)
theorem MI_n {TD T : zS} {i : Nat} (hM : MI TD i T) (hi : i < 64) (h : T 1 i = T 21 i) : MI TD (i + 1) T := by
  refine ⟨hM.1, fun k hk => hM.2.1 k (by omega), fun k hk => ?_⟩
  by_cases e : k = i
  · rw [e, ← h, hM.1 1 (by decide)]
  · exact hM.2.2 k (by omega)
theorem lev_z {TD T : zS} {i : Nat} (hF : MF TD) (hM : MI TD i T) (hi : i < 64) (hz : T 20 i = 2 ∨ T 20 i = 3) : T 1 i = NEWF (T 20 i) (T 24 i) (T 21 i) (T 23 i) (T 22 0) := by
  rw [hM.1 20 (by decide)] at hz ⊢
  rw [hM.1 1 (by decide), hM.1 24 (by decide), hM.1 23 (by decide), hM.1 22 (by decide), hM.2.1 i (Nat.le_refl _)]
  exact hF.1 i hi hz
theorem lev_n {TD T : zS} {i : Nat} (hF : MF TD) (hM : MI TD i T) (hi : i < 64) (h2 : ¬ T 20 i = 2) (h3 : ¬ T 20 i = 3) : T 1 i = T 21 i := by
  rw [hM.1 20 (by decide)] at h2 h3
  rw [hM.1 1 (by decide), hM.2.1 i (Nat.le_refl _)]
  exact hF.2.1 i hi h2 h3
theorem debt_all : ∀ a, a < 51 → ∀ b, b < 100 → -((nI (100 * a + b) / 100) + (if (nI (100 * a + b) - nI (100 * a + b) / 100 * 100) ≤ 0 then (0 : Int32) else 1)) = -((nI (100 * a + b) + 99) / 100) := by decide +kernel
theorem debt_c {d : Nat} (hd : d ≤ 5000) : -((nI d / 100) + (if (nI d - nI d / 100 * 100) ≤ 0 then (0 : Int32) else 1)) = -((nI d + 99) / 100) := by
  have := debt_all (d / 100) (by omega) (d % 100) (by omega)
  rw [show 100 * (d / 100) + d % 100 = d by omega] at this
  exact this
theorem lev_num : ∀ a, a < 4 → ∀ q, q < 2 * a + 1 → ((2 * nI a - nI q ≤ nI a ↔ 2 * (2 * nI a - nI q) ≤ 2 * nI a) ∧ (2 * nI a - nI q = 0 ↔ nI q = 2 * nI a)) := by decide +kernel
theorem new_f {F' : zS} {k : Nat} {v c : Int32} {a q : Nat} (ha : a ≤ 3) (hq : q ≤ 2 * a) (el : F' 1 k = nI a) (ep : F' 9 k = nI q) (hz : F' 0 k = 2 ∨ F' 0 k = 3) (h8 : F' 8 k = 0 ∨ F' 8 k = 1) (hv : f_X7_valueOf F' k = v) (hv0 : 0 ≤ v) (hc : F' 13 0 = c) : F' 1 k + f_X7_changeOf F' k = NEWF (F' 0 k) (if F' 8 k = 0 then -1 else v) (F' 1 k) (F' 9 k) c := by
  obtain ⟨n1, n2⟩ := lev_num a (by omega) q (by omega)
  rw [← el, ← ep] at n1 n2
  have n3 : 5 * F' 1 k + 5 = 5 * (F' 1 k + 1) := by grind
  unfold NEWF f_X7_changeOf
  rw [hv, hc]
  congr 1
  by_cases s : F' 8 k = 0
  · rw [if_neg (not_not_intro s), if_pos s]
    have hm : ¬ (0 : Int32) ≤ -1 := by decide
    have hf : FALF (F' 0 k) (-1) (F' 1 k) (F' 9 k) = if F' 1 k ≤ 0 then 0 else 1 := by
      unfold FALF
      rw [if_neg hm]
    rw [hf]
    by_cases z : F' 1 k ≤ 0
    · have hg : GROF 0 (-1) c (F' 1 k) (F' 9 k) = 0 := by
        unfold GROF
        rw [if_neg (not_not_intro rfl), if_pos (show (-1 : Int32) < 0 by decide)]
      rw [if_pos z, if_pos z, if_pos rfl, hg, if_pos rfl]
    · rw [if_neg z, if_neg z, if_neg (show ¬ (1 : Int32) = 0 by decide)]
  · rw [if_pos s, if_neg s]
    have hg : ∀ x : Int32, x = 0 → GROF x v c (F' 1 k) (F' 9 k) = (if c < 0 then 0 else (if 3 ≤ F' 1 k then 0 else (if v < 5 * (F' 1 k + 1) then 0 else (if ¬ F' 9 k = 2 * F' 1 k then 0 else 1)))) := by
      intro x hx
      unfold GROF
      rw [if_neg (not_not_intro hx), if_neg (Int32.not_lt.mpr hv0), n3]
      by_cases e : F' 9 k = 2 * F' 1 k
      · rw [if_neg (not_not_intro (n2.mpr e)), if_neg (not_not_intro e)]
      · rw [if_pos (fun y => e (n2.mp y)), if_pos e]
    have h01 : ∀ x : Int32, x = 0 ∨ x = 1 → (if x = 0 then (0 : Int32) else 1) = x := by
      intro x hx
      rcases hx with y | y <;> rw [y] <;> rfl
    have hR : (if c < 0 then (0 : Int32) else (if 3 ≤ F' 1 k then 0 else (if v < 5 * (F' 1 k + 1) then 0 else (if ¬ F' 9 k = 2 * F' 1 k then 0 else 1)))) = 0 ∨ (if c < 0 then (0 : Int32) else (if 3 ≤ F' 1 k then 0 else (if v < 5 * (F' 1 k + 1) then 0 else (if ¬ F' 9 k = 2 * F' 1 k then 0 else 1)))) = 1 := by
      (repeat' split) <;> first | exact Or.inl rfl | exact Or.inr rfl
    rcases hz with z | z
    · rw [if_neg (not_not_intro z)]
      by_cases y : 2 * F' 1 k - F' 9 k ≤ F' 1 k
      · have hf : FALF (F' 0 k) v (F' 1 k) (F' 9 k) = 0 := by
          unfold FALF
          rw [if_pos hv0, if_neg (not_not_intro z), if_pos y]
        rw [if_pos (n1.mp y), hf, if_pos rfl, hg 0 rfl, h01 _ hR]
      · have hf : FALF (F' 0 k) v (F' 1 k) (F' 9 k) = 1 := by
          unfold FALF
          rw [if_pos hv0, if_neg (not_not_intro z), if_neg y]
        rw [if_neg (fun w => y (n1.mpr w)), hf, if_neg (show ¬ (1 : Int32) = 0 by decide)]
    · have z2 : ¬ F' 0 k = 2 := by
        rw [z]
        decide
      rw [if_pos z2]
      by_cases y : F' 1 k ≤ 0
      · have hf : FALF (F' 0 k) v (F' 1 k) (F' 9 k) = 0 := by
          unfold FALF
          rw [if_pos hv0, if_pos z2, if_pos y]
        rw [if_pos y, hf, if_pos rfl, hg 0 rfl, h01 _ hR]
      · rw [if_neg y]
        by_cases w : F' 9 k = 0
        · have hf : FALF (F' 0 k) v (F' 1 k) (F' 9 k) = 1 := by
            unfold FALF
            rw [if_pos hv0, if_pos z2, if_neg y, if_neg (not_not_intro w)]
          rw [if_neg (not_not_intro w), hf, if_neg (show ¬ (1 : Int32) = 0 by decide)]
        · have hf : FALF (F' 0 k) v (F' 1 k) (F' 9 k) = 0 := by
            unfold FALF
            rw [if_pos hv0, if_pos z2, if_neg y, if_pos w]
          rw [if_pos w, hf, if_pos rfl, hg 0 rfl, h01 _ hR]
theorem val_nn (F : zS) (k : Nat) : 0 ≤ f_X7_valueOf F k := by
  unfold f_X7_valueOf
  generalize lp_X7_valueOf_5 F k 10 64 = w
  (repeat' split) <;> first | assumption | decide
theorem val_congr {S T : zS} {k : Nat} (h : ∀ r, r ≠ 13 → S r = T r) : f_X7_valueOf S k = f_X7_valueOf T k := by
  unfold f_X7_valueOf
  rw [vo_congr (h 0 (by decide)) 64, h 0 (by decide), h 2 (by decide), h 11 (by decide)]
