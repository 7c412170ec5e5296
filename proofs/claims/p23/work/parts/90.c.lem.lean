/-! SUPPLY AND CELLS, told by the reference's facts -/
theorem e_sup {k f n : Int32} {c : Int32} (hc : c = 5 ∨ c = 6) : (if (if k ≤ 4 then (0 : Int32) else (if ¬ f = n then 0 else 1)) = 0 then (0 : Int32) else (if ¬ k = c then 0 else 20)) = if f = n ∧ k = c then 20 else 0 := by
  by_cases h : k = c
  · have h4 : ¬ k ≤ 4 := by
      rw [h]
      rcases hc with z | z <;> rw [z] <;> decide
    rw [if_neg h4]
    by_cases g : f = n
    · rw [if_neg (not_not_intro g), if_neg (show ¬ (1 : Int32) = 0 by decide), if_neg (not_not_intro h), if_pos (show f = n ∧ k = c from ⟨g, h⟩)]
    · rw [if_pos g, if_pos (show (0 : Int32) = 0 from rfl), if_neg (show ¬ (f = n ∧ k = c) from fun z => g z.1)]
  · rw [if_neg (show ¬ (f = n ∧ k = c) from fun z => h z.2), if_pos h]
    (repeat' split) <;> rfl
section SUPL
variable {S F : zS}
theorem sup19 {c u : Nat} : ∀ n, lp_L_isSupplied_19 S F c u 0 0 n = (psum (S 20) (F 3) u 5 n, psum (S 20) (F 3) u 6 n)
  | 0 => rfl
  | n + 1 => by
    show bd_L_isSupplied_19 S F c u n (lp_L_isSupplied_19 S F c u 0 0 n).1 (lp_L_isSupplied_19 S F c u 0 0 n).2 = _
    rw [sup19 n]
    unfold bd_L_isSupplied_19
    rw [e_sup (Or.inl rfl), e_sup (Or.inr rfl)]
    rfl
theorem bd115_e (c u i : Nat) (p w : Int32) : bd_L_isSupplied_115 S F c u i p w = (if (S 20 i = 2 ∨ S 20 i = 3) ∧ F 3 i = nI u then (p - (if canI p w (ned (S 21) i) = 0 then 0 else ned (S 21) i), w - (if canI p w (ned (S 21) i) = 0 then 0 else ned (S 21) i)) else (p, w)) := by
  unfold bd_L_isSupplied_115
  by_cases c2 : S 20 i = 2
  · rw [if_pos c2]
    by_cases cn : F 3 i = nI u
    · rw [if_neg (not_not_intro cn), if_pos (show (S 20 i = 2 ∨ S 20 i = 3) ∧ F 3 i = nI u from ⟨Or.inl c2, cn⟩)]
      rfl
    · rw [if_pos cn, if_neg (show ¬ ((S 20 i = 2 ∨ S 20 i = 3) ∧ F 3 i = nI u) from fun z => cn z.2)]
  · rw [if_neg c2]
    by_cases c3 : S 20 i = 3
    · rw [if_neg (not_not_intro c3)]
      by_cases cn : F 3 i = nI u
      · rw [if_neg (not_not_intro cn), if_pos (show (S 20 i = 2 ∨ S 20 i = 3) ∧ F 3 i = nI u from ⟨Or.inr c3, cn⟩)]
        rfl
      · rw [if_pos cn, if_neg (show ¬ ((S 20 i = 2 ∨ S 20 i = 3) ∧ F 3 i = nI u) from fun z => cn z.2)]
    · rw [if_pos c3, if_neg (show ¬ ((S 20 i = 2 ∨ S 20 i = 3) ∧ F 3 i = nI u) from fun z => z.1.elim c2 c3)]
theorem sup115 {Y : Nat → zS} {c u : Nat} {N1 N2 : Int32} (hu : u < 64) (h0 : N1 = Y 0 6 u ∧ N2 = Y 0 7 u)
    (hs : ∀ n, n < 64 → ∀ u, u < 64 → Y (n + 1) 6 u = (if (S 20 n = 2 ∨ S 20 n = 3) ∧ F 3 n = nI u then Y n 6 u - (if canI (Y n 6 u) (Y n 7 u) (ned (S 21) n) = 0 then 0 else ned (S 21) n) else Y n 6 u) ∧ Y (n + 1) 7 u = (if (S 20 n = 2 ∨ S 20 n = 3) ∧ F 3 n = nI u then Y n 7 u - (if canI (Y n 6 u) (Y n 7 u) (ned (S 21) n) = 0 then 0 else ned (S 21) n) else Y n 7 u)) : ∀ n, n ≤ 64 → lp_L_isSupplied_115 S F c u N1 N2 n = (Y n 6 u, Y n 7 u) := by
  intro n
  induction n with
  | zero =>
    intro _
    show (N1, N2) = _
    rw [h0.1, h0.2]
  | succ n ih =>
    intro hn
    show bd_L_isSupplied_115 S F c u n (lp_L_isSupplied_115 S F c u N1 N2 n).1 (lp_L_isSupplied_115 S F c u N1 N2 n).2 = _
    rw [ih (by omega), bd115_e, (hs n (by omega) u hu).1, (hs n (by omega) u hu).2]
    split <;> rfl
theorem sup_all (H : LF S F) {c u : Nat} (hu : u < 64) {N1 N2 : Int32} (h1 : (lp_L_isSupplied_19 S F c u 0 0 64).1 = N1) (h2 : (lp_L_isSupplied_19 S F c u 0 0 64).2 = N2) : ∃ Y : Nat → zS, (∀ n, n ≤ 64 → lp_L_isSupplied_115 S F c u N1 N2 n = (Y n 6 u, Y n 7 u)) ∧
    (∀ n, n < 64 → F 8 n = (if (S 20 n = 2 ∨ S 20 n = 3) then (if F 3 n = -1 then 0 else canI (Y n 6 (F 3 n).toNatClampNeg) (Y n 7 (F 3 n).toNatClampNeg) (ned (S 21) n)) else 0)) ∧ F 6 u = Y 64 6 u := by
  obtain ⟨Y, g1, g2, g3, g4⟩ := H.su
  rw [sup19] at h1 h2
  refine ⟨Y, sup115 hu ⟨?_, ?_⟩ g2, g3, g4 u hu⟩
  · rw [(g1 u hu).1]
    exact h1.symm
  · rw [(g1 u hu).2]
    exact h2.symm
theorem sup_can (H : LF S F) {c u i : Nat} (hc : c < 64) (hu : u < 64) (hn : F 3 c = nI u) {N1 N2 p2 w2 : Int32} (h1 : (lp_L_isSupplied_19 S F c u 0 0 64).1 = N1) (h2 : (lp_L_isSupplied_19 S F c u 0 0 64).2 = N2) (ha : lp_L_isSupplied_115 S F c u N1 N2 i = (p2, w2)) (hi : i < 64) (hz : isZ (S 20) i) (hni : F 3 i = nI u) :
    F 8 i = (if p2 < (if ¬ (S 21 i) = 0 then (S 21 i) else 1) then 0 else (if w2 < (if ¬ (S 21 i) = 0 then (S 21 i) else 1) then 0 else 1)) := by
  obtain ⟨Y, g1, g2, g3⟩ := sup_all H hu h1 h2
  rw [g1 i (by omega)] at ha
  have e1 : Y i 6 u = p2 := congrArg Prod.fst ha
  have e2 : Y i 7 u = w2 := congrArg Prod.snd ha
  rw [g2 i hi, if_pos (show S 20 i = 2 ∨ S 20 i = 3 from hz), hni, if_neg (nI_m1 (by omega)), nI_clamp (by omega), e1, e2]
  rfl
theorem sup_left (H : LF S F) {c u : Nat} (hc : c < 64) (hu : u < 64) (hn : F 3 c = nI u) {N1 N2 N3 : Int32} (h1 : (lp_L_isSupplied_19 S F c u 0 0 64).1 = N1) (h2 : (lp_L_isSupplied_19 S F c u 0 0 64).2 = N2) (h3 : (lp_L_isSupplied_115 S F c u N1 N2 64).1 = N3) : pwl F c = N3 := by
  obtain ⟨Y, g1, g2, g3⟩ := sup_all H hu h1 h2
  rw [g1 64 (Nat.le_refl _)] at h3
  unfold pwl
  rw [hn, if_neg (nI_m1 (by omega)), nI_clamp (by omega), g3]
  exact h3
/-- cells -/
theorem dist_f : ∀ c, c < 64 → ∀ i, i < 64 → ((if ((nI i) / 8) ≤ ((nI c) / 8) then (((nI c) / 8) - ((nI i) / 8)) else (((nI i) / 8) - ((nI c) / 8))) + (if ((nI i) - (nI i) / 8 * 8) ≤ ((nI c) - (nI c) / 8 * 8) then (((nI c) - (nI c) / 8 * 8) - ((nI i) - (nI i) / 8 * 8)) else (((nI i) - (nI i) / 8 * 8) - ((nI c) - (nI c) / 8 * 8)))) = f_X7_apart (nI c) (nI i) := by decide +kernel
theorem cell_lp (H : LF S F) {c : Nat} (hc : c < 64) : ∀ n, n ≤ 64 → lp_L_isCell_7 S F c 10 n = lp_X7_valueOf_5 F c 10 n
  | 0, _ => rfl
  | n + 1, hn => by
    show bd_L_isCell_7 S F c n (lp_L_isCell_7 S F c 10 n) = bd_X7_valueOf_5 F c n (lp_X7_valueOf_5 F c 10 n)
    rw [cell_lp H hc n (by omega)]
    generalize lp_X7_valueOf_5 F c 10 n = v
    unfold bd_L_isCell_7 bd_X7_valueOf_5
    rw [dist_f c hc n (by omega), H.f0]
    generalize f_X7_apart (nI c) (nI n) = d
    by_cases c1 : d ≤ 2
    · rw [if_pos c1, if_neg (fun z => absurd (Int32.lt_of_lt_of_le z c1) (Int32.lt_irrefl))]
      by_cases c4 : S 20 n = 4
      · have c5 : ¬ S 20 n = 5 := by
          rw [c4]
          decide
        rw [if_neg (not_not_intro c4), if_neg (not_not_intro c4), if_pos c5]
        grind
      · rw [if_pos c4, if_pos c4]
        by_cases c5 : S 20 n = 5
        · rw [if_neg (not_not_intro c5), if_neg (not_not_intro c5)]
          grind
        · rw [if_pos c5, if_pos c5]
          grind
    · rw [if_neg c1, if_pos (Int32.not_le.mp c1)]
      grind
theorem cell_value0 (H : LF S F) {c : Nat} (hc : c < 64) (hr : F 2 c = -1) {N1 : Int32} (hN : lp_L_isCell_7 S F c 10 64 = N1) : f_X7_valueOf F c = (if 0 ≤ (N1 - (if (S 20 c) = 1 then 0 else 0)) then (N1 - (if (S 20 c) = 1 then 0 else 0)) else 0) := by
  rw [cell_lp H hc 64 (Nat.le_refl _)] at hN
  have h1 : ¬ S 20 c = 1 := fun z => by
    rw [H.rr hc z] at hr
    exact nI_m1 (n := c) (by omega) hr
  unfold f_X7_valueOf
  rw [H.f0, if_neg h1, if_neg h1, if_pos hr]
  rw [hN]
theorem cell_value1 (H : LF S F) {c w : Nat} (hc : c < 64) (hw : w < 64) (hr : F 2 c = nI w) {N1 : Int32} (hN : lp_L_isCell_7 S F c 10 64 = N1) : f_X7_valueOf F c = (if 0 ≤ (N1 - (if (S 20 c) = 1 then 0 else (F 11 w))) then (N1 - (if (S 20 c) = 1 then 0 else (F 11 w))) else 0) := by
  rw [cell_lp H hc 64 (Nat.le_refl _)] at hN
  unfold f_X7_valueOf
  rw [H.f0]
  by_cases h1 : S 20 c = 1
  · rw [if_pos h1, if_pos h1, hN]
  · rw [if_neg h1, if_neg h1, hr, if_neg (nI_m1 (by omega)), nI_clamp (by omega), hN]
theorem going_lp {c : Nat} : ∀ n, lp_L_isCell_178 S F c 0 n = (if S 20 c = 2 then ksum (S 20) 3 (fun t => F 10 (64 * c + t)) n else if S 20 c = 3 then ksum (S 20) 2 (fun h => F 10 (64 * h + c)) n else 0)
  | 0 => by
    show (0 : Int32) = _
    (repeat' split) <;> rfl
  | n + 1 => by
    show bd_L_isCell_178 S F c n (lp_L_isCell_178 S F c 0 n) = _
    rw [going_lp n]
    unfold bd_L_isCell_178
    by_cases c2 : S 20 c = 2
    · have c3 : ¬ S 20 c = 3 := by
        rw [c2]
        decide
      rw [if_pos c2, if_pos c2, if_neg (not_not_intro c2)]
      show _ = ksum (S 20) 3 (fun t => F 10 (64 * c + t)) n + (if S 20 n = 3 then F 10 (64 * c + n) else 0)
      by_cases k3 : S 20 n = 3
      · rw [if_neg (not_not_intro k3), if_pos k3]
      · rw [if_pos k3, if_pos c3, if_neg k3]
    · rw [if_neg c2, if_neg c2, if_pos c2]
      by_cases c3 : S 20 c = 3
      · rw [if_pos c3, if_pos c3, if_neg (not_not_intro c3)]
        show _ = ksum (S 20) 2 (fun h => F 10 (64 * h + c)) n + (if S 20 n = 2 then F 10 (64 * n + c) else 0)
        by_cases k2 : S 20 n = 2
        · rw [if_neg (not_not_intro k2), if_pos k2]
        · rw [if_pos k2, if_neg k2]
      · rw [if_neg c3, if_neg c3, if_pos c3, Int32.add_zero]
theorem cell_going (H : LF S F) {c : Nat} (hc : c < 64) {N2 : Int32} (hN : lp_L_isCell_178 S F c 0 64 = N2) : F 9 c = N2 := by
  rw [going_lp] at hN
  obtain ⟨m, _, X⟩ := H.jx
  by_cases c2 : S 20 c = 2
  · rw [if_pos c2] at hN
    rw [X.1 c hc c2]
    exact hN
  · rw [if_neg c2] at hN
    by_cases c3 : S 20 c = 3
    · rw [if_pos c3] at hN
      rw [X.2.1 c hc c3]
      exact hN
    · rw [if_neg c3] at hN
      rw [cell_pz H hc (fun z => z.elim c2 c3)]
      exact hN
end SUPL
