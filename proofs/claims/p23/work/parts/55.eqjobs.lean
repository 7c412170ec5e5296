/-! JOBS: the loops side by side -/
def JR (K L : Nat → Int32) (C M T Y : zS) : Prop := ∃ n ha tb, JRn K L C M T Y n ha tb ∧ JX K Y n
def mstep (Y : zS) (a b : Nat) : zS := if (f_X7_least ((2 * (Y 1 a)) - (Y 9 a)) ((2 * (Y 1 b)) - (Y 9 b))) ≤ 0 then Y else g_X7_goes Y a b (f_X7_least ((2 * (Y 1 a)) - (Y 9 a)) ((2 * (Y 1 b)) - (Y 9 b)))
theorem least_min {x y : Nat} (hx : x ≤ 6) (hy : y ≤ 6) : ∃ m, m ≤ x ∧ m ≤ y ∧ (m = x ∨ m = y) ∧ (if nI y < nI x then nI y else nI x) = nI m ∧ f_X7_least (nI x) (nI y) = nI m := by
  unfold f_X7_least
  by_cases c : y ≤ x
  · have c2 : nI y ≤ nI x := (nI_leI (by omega) (by omega)).mpr c
    rw [if_pos c2]
    by_cases d : y = x
    · refine ⟨x, Nat.le_refl _, by omega, Or.inl rfl, ?_, by rw [d]⟩
      rw [d, if_neg (fun z => Int32.lt_irrefl z)]
    · refine ⟨y, c, Nat.le_refl _, Or.inr rfl, ?_, rfl⟩
      rw [if_pos (nI_lt (by omega) (by omega))]
  · have c2 : ¬ nI y ≤ nI x := fun z => c ((nI_leI (by omega) (by omega)).mp z)
    rw [if_neg c2]
    refine ⟨x, Nat.le_refl _, by omega, Or.inl rfl, ?_, rfl⟩
    rw [if_neg (fun z => c2 (Int32.le_of_lt z))]
theorem JR_step {K L : Nat → Int32} {C M T Y : zS} (hE : eqS K L C M) (H : JR K L C M T Y) {a b u : Nat} (h1 : a < 64) (h2 : b < 64) (ka : K a = 2) (kb : K b = 3) (hu : u < 64) (hd : mBet M a b = nI u) :
    JR K L C M (g_X1_take T (nI a) (nI b) (if (rg 64 (T 10) (nI b)) < (rg 64 (T 10) (nI a)) then rg 64 (T 10) (nI b) else rg 64 (T 10) (nI a))) (mstep Y a b) := by
  obtain ⟨n, ha, tb, H, X⟩ := H
  obtain ⟨ma, hma, ea⟩ := H.nn a h1
  obtain ⟨mb, hmb, eb⟩ := H.nn b h2
  have y1 : Y 1 = L := (H.y 1 (by decide) (by decide) (by decide)).trans hE.2.2.2.2.2
  have fa := H.fr a h1
  have fb := H.fr b h2
  rw [ea] at fa
  rw [eb] at fb
  obtain ⟨m, la, lb, ho, q1, q2⟩ := least_min hma hmb
  unfold mstep
  rw [y1, ← fa, ← fb, rg_nI h1 (by decide), rg_nI h2 (by decide), ea, eb, q1, q2]
  by_cases hm : m = 0
  · have z : nI m ≤ 0 := by
      rw [hm]
      decide
    rw [take_no z, if_pos z]
    exact ⟨n, ha, tb, H, X⟩
  · rw [if_neg (fun z => by
      have := (nI_leI (a := m) (b := 0) (by omega) (by omega)).mp z
      omega)]
    exact ⟨_, _, _, JR_go hE H h1 h2 ka kb hu hd hma hmb ea eb la lb (by omega) ho, JX_go hE H X h1 h2 ka kb hu hd hma hmb ea eb la lb (by omega)⟩
theorem JR_t {K L : Nat → Int32} {C M T Y : zS} (H : JR K L C M T Y) (r : Nat) (a : r ≠ 9) (b : r ≠ 10) (c : r ≠ 12) (d : r ≠ 13) (e : r ≠ 14) (f : r ≠ 16) : T r = C r := by
  obtain ⟨_, _, _, H, -⟩ := H
  exact H.t r a b c d e f
theorem JR_y {K L : Nat → Int32} {C M T Y : zS} (H : JR K L C M T Y) (r : Nat) (a : r ≠ 9) (b : r ≠ 10) (c : r ≠ 11) : Y r = M r := by
  obtain ⟨_, _, _, H, -⟩ := H
  exact H.y r a b c
theorem bet_congr {T C : zS} {x y : Int32} (h2 : T 2 = C 2) (h4 : T 4 = C 4) : f_X3_between T x y = f_X3_between C x y := by
  unfold f_X3_between
  rw [h2, h4]
theorem pf_step {K L : Nat → Int32} {C M S T Y : zS} (hE : eqS K L C M) (H : JR K L C M T Y) {a b u : Nat} (h1 : a < 64) (h2 : b < 64) (ka : K a = 2) (hu : u < 64) :
    JR K L C M (bd_X1_placeFrom_3 S (nI a) (nI u) b T) (if K b = 3 ∧ mBet M a b = nI u then mstep Y a b else Y) := by
  unfold bd_X1_placeFrom_3 f_X0_kindOf
  have t0 : T 0 = K := (JR_t H 0 (by decide) (by decide) (by decide) (by decide) (by decide) (by decide)).trans hE.2.2.1
  have t2 := JR_t H 2 (by decide) (by decide) (by decide) (by decide) (by decide) (by decide)
  have t4 := JR_t H 4 (by decide) (by decide) (by decide) (by decide) (by decide) (by decide)
  rw [rg_nI h2 (by decide), t0, bet_congr t2 t4, eq_bet hE.1 hE.2.1 h1 h2]
  by_cases kb : K b = 3
  · rw [if_neg (not_not_intro kb)]
    by_cases hd : mBet M a b = nI u
    · rw [if_neg (not_not_intro hd), if_pos (show K b = 3 ∧ mBet M a b = nI u from ⟨kb, hd⟩)]
      exact JR_step hE H h1 h2 ka kb hu hd
    · rw [if_pos hd, if_neg (show ¬ (K b = 3 ∧ mBet M a b = nI u) from fun z => hd z.2)]
      exact H
  · rw [if_pos kb, if_neg (show ¬ (K b = 3 ∧ mBet M a b = nI u) from fun z => kb z.1)]
    exact H
theorem lp68_step {K : Nat → Int32} {M S T52 T60 Y : zS} {a b u q : Nat} (y0 : Y 0 = K) (y2 : Y 2 = M 2) (y4 : Y 4 = M 4) (ka : K a = 2) (ra : ¬ M 2 a = -1) (hu : u < 64) : lp_X7_works_68 S u T52 a T60 (q + 1) b Y = lp_X7_works_68 S u T52 a T60 q (b + 1) (if K b = 3 ∧ mBet M a b = nI u then mstep Y a b else Y) := by
  have em : mBet M a b = if ¬ M 2 b = -1 then M 4 (64 * (M 2 a).toNatClampNeg + (M 2 b).toNatClampNeg) else -1 := by
    unfold mBet
    exact if_neg ra
  rw [lp_X7_works_68, y0, y2, y4, if_neg (not_not_intro ka), if_neg ra]
  by_cases kb : K b = 3
  · rw [if_neg (not_not_intro kb)]
    by_cases rb : M 2 b = -1
    · rw [if_neg (not_not_intro rb)] at em
      rw [if_pos rb, if_neg (show ¬ (K b = 3 ∧ mBet M a b = nI u) from fun z => nI_m1 (by omega) (z.2.symm.trans em))]
    · rw [if_pos rb] at em
      rw [if_neg rb, ← em]
      by_cases hd : mBet M a b = nI u
      · rw [if_neg (not_not_intro hd), if_pos (show K b = 3 ∧ mBet M a b = nI u from ⟨kb, hd⟩)]
        unfold mstep
        by_cases c : f_X7_least (2 * Y 1 a - Y 9 a) (2 * Y 1 b - Y 9 b) ≤ 0
        · rw [if_pos c, if_pos c]
        · rw [if_neg c, if_neg c]
      · rw [if_pos hd, if_neg (show ¬ (K b = 3 ∧ mBet M a b = nI u) from fun z => hd z.2)]
  · rw [if_pos kb, if_neg (show ¬ (K b = 3 ∧ mBet M a b = nI u) from fun z => kb z.1)]
theorem lp68_no {S T52 T60 Y : zS} {a u : Nat} (h : ¬ Y 0 a = 2 ∨ Y 2 a = -1) (q b : Nat) : lp_X7_works_68 S u T52 a T60 q b Y = Y := by
  cases q with
  | zero => rfl
  | succ q =>
    rw [lp_X7_works_68]
    by_cases c : ¬ Y 0 a = 2
    · rw [if_pos c]
    · rw [if_neg c]
      rcases h with h | h
      · exact absurd h c
      · rw [if_pos h]
theorem lp68_all {K L : Nat → Int32} {C M S S' T52 T60 T0 : zS} (hE : eqS K L C M) {a u : Nat} (h1 : a < 64) (ka : K a = 2) (ra : ¬ M 2 a = -1) (hu : u < 64) (n : Nat) (hn : n = 64) : ∀ (q b : Nat) (Y : zS), b + q = n → JR K L C M (lp_X1_placeFrom_3 S (nI a) (nI u) T0 b) Y → JR K L C M (lp_X1_placeFrom_3 S (nI a) (nI u) T0 n) (lp_X7_works_68 S' u T52 a T60 q b Y) := by
  intro q
  induction q with
  | zero =>
    intro b Y hb H
    have e : b = n := hb
    rw [e] at H
    exact H
  | succ q ih =>
    intro b Y hb H
    rw [lp68_step (K := K) (M := M) ((JR_y H 0 (by decide) (by decide) (by decide)).trans hE.2.2.2.1) (JR_y H 2 (by decide) (by decide) (by decide)) (JR_y H 4 (by decide) (by decide) (by decide)) ka ra hu]
    exact ih (b + 1) _ (by omega) (pf_step hE H h1 (by omega) ka hu)
theorem pf_road {K L : Nat → Int32} {C M S T Y : zS} (hE : eqS K L C M) (H : JR K L C M T Y) {a u : Nat} (h1 : a < 64) (ra : M 2 a = -1) (hu : u < 64) : ∀ n, n ≤ 64 → lp_X1_placeFrom_3 S (nI a) (nI u) T n = T := by
  intro n
  induction n with
  | zero => intro _; rfl
  | succ n ih =>
    intro hn
    show bd_X1_placeFrom_3 S (nI a) (nI u) n (lp_X1_placeFrom_3 S (nI a) (nI u) T n) = T
    rw [ih (by omega)]
    unfold bd_X1_placeFrom_3
    have t2 := JR_t H 2 (by decide) (by decide) (by decide) (by decide) (by decide) (by decide)
    have t4 := JR_t H 4 (by decide) (by decide) (by decide) (by decide) (by decide) (by decide)
    have e : ¬ f_X3_between T (nI a) (nI n) = nI u := by
      rw [bet_congr t2 t4, eq_bet hE.1 hE.2.1 h1 (by omega)]
      unfold mBet
      rw [if_pos ra]
      exact fun z => nI_m1 (by omega) z.symm
    rw [if_pos e]
    by_cases c : ¬ f_X0_kindOf T (nI n) = 3
    · rw [if_pos c]
    · rw [if_neg c]
theorem pf_free {S T : zS} {a : Nat} {d : Int32} (h1 : a < 64) (z : T 10 a = 0) (hn : ∀ k, k < 64 → ∃ m, m ≤ 6 ∧ T 10 k = nI m) : ∀ n, n ≤ 64 → lp_X1_placeFrom_3 S (nI a) d T n = T := by
  intro n
  induction n with
  | zero => intro _; rfl
  | succ n ih =>
    intro hl
    show bd_X1_placeFrom_3 S (nI a) d n (lp_X1_placeFrom_3 S (nI a) d T n) = T
    rw [ih (by omega)]
    unfold bd_X1_placeFrom_3
    obtain ⟨m, hm, e⟩ := hn n (by omega)
    rw [rg_nI h1 (by decide), z, rg_nI (show n < 64 by omega) (by decide), e, if_neg (nI_pos (by omega)), take_no (show (0 : Int32) ≤ 0 by decide)]
    by_cases c : ¬ f_X0_kindOf T (nI n) = 3
    · rw [if_pos c]
    · rw [if_neg c]
      by_cases c2 : ¬ f_X3_between T (nI a) (nI n) = d
      · rw [if_pos c2]
      · rw [if_neg c2]
theorem place_step0 {K L : Nat → Int32} {C M S S' T52 T Y : zS} (hE : eqS K L C M) (H : JR K L C M T Y) {a u : Nat} (h1 : a < 64) (hu : u < 64) (n : Nat) (hn : n = 64) :
    JR K L C M (if ¬ (f_X0_kindOf T (nI a)) = 2 then (T) else (if (rg 64 (T 10) (nI a)) ≤ 0 then (T) else (lp_X1_placeFrom_3 T (nI a) (nI u) T n))) (lp_X7_works_68 S' u T52 a Y n 0 Y) := by
  have t0 : T 0 = K := (JR_t H 0 (by decide) (by decide) (by decide) (by decide) (by decide) (by decide)).trans hE.2.2.1
  have y0 : Y 0 = K := (JR_y H 0 (by decide) (by decide) (by decide)).trans hE.2.2.2.1
  have y2 : Y 2 = M 2 := JR_y H 2 (by decide) (by decide) (by decide)
  unfold f_X0_kindOf
  rw [rg_nI h1 (by decide), rg_nI h1 (by decide), t0]
  by_cases ka : K a = 2
  · rw [if_neg (not_not_intro ka)]
    by_cases ra : M 2 a = -1
    · rw [lp68_no (Or.inr (by rw [y2]; exact ra)), pf_road hE H h1 ra hu n (by omega)]
      by_cases c : T 10 a ≤ 0
      · rw [if_pos c]
        exact H
      · rw [if_neg c]
        exact H
    · have h := lp68_all (S := T) (S' := S') (T52 := T52) (T60 := Y) (T0 := T) hE h1 ka ra hu n hn n 0 Y (by omega) H
      by_cases c : T 10 a ≤ 0
      · rw [if_pos c]
        obtain ⟨_, _, _, H', -⟩ := H
        obtain ⟨m, hm, e⟩ := H'.nn a h1
        have z : T 10 a = 0 := by
          rw [e] at c ⊢
          have := (nI_leI (a := m) (b := 0) (by omega) (by omega)).mp c
          rw [show m = 0 by omega]
          rfl
        rw [pf_free h1 z H'.nn n (by omega)] at h
        exact h
      · rw [if_neg c]
        exact h
  · rw [if_pos ka, lp68_no (Or.inl (by rw [y0]; exact ka))]
    exact H
theorem place_step {K L : Nat → Int32} {C M S S' T52 T Y : zS} (hE : eqS K L C M) (H : JR K L C M T Y) {a u : Nat} (h1 : a < 64) (hu : u < 64) : JR K L C M (bd_X1_place_3 S (nI u) a T) (bd_X7_works_60 S' u T52 a Y) := by
  unfold bd_X1_place_3 bd_X7_works_60 g_X1_placeFrom
  exact place_step0 (S := S) hE H h1 hu 64 rfl
theorem place_all {K L : Nat → Int32} {C M S S' T52 T Y : zS} (hE : eqS K L C M) (H : JR K L C M T Y) {u : Nat} (hu : u < 64) : ∀ n, n ≤ 64 → JR K L C M (lp_X1_place_3 S (nI u) T n) (lp_X7_works_60 S' u T52 Y n)
  | 0, _ => H
  | n + 1, hn => place_step hE (place_all hE H hu n (by omega)) (by omega) hu
theorem lp68_far {K L : Nat → Int32} {C M S T52 T60 Y : zS} (hE : eqS K L C M) {a u : Nat} (h1 : a < 64) (hu : u < 64) (hr : roads K ≤ u) (y0 : Y 0 = K) (y2 : Y 2 = M 2) (y4 : Y 4 = M 4) : ∀ q b, b + q ≤ 64 → lp_X7_works_68 S u T52 a T60 q b Y = Y := by
  intro q
  induction q with
  | zero => intro b _; rfl
  | succ q ih =>
    intro b hb
    by_cases ka : K a = 2
    · by_cases ra : M 2 a = -1
      · exact lp68_no (Or.inr (by rw [y2]; exact ra)) _ _
      · rw [lp68_step (K := K) (M := M) y0 y2 y4 ka ra hu, if_neg]
        · exact ih (b + 1) (by omega)
        · intro z
          obtain ⟨_, _, _, _, _, _, _, _, _, _, _, _, z2⟩ := mBet_in hE.2.1 h1 (show b < 64 by omega) hu z.2
          omega
    · exact lp68_no (Or.inl (by rw [y0]; exact ka)) _ _
theorem lp60_far {K L : Nat → Int32} {C M S T52 Y : zS} (hE : eqS K L C M) {u : Nat} (hu : u < 64) (hr : roads K ≤ u) (y0 : Y 0 = K) (y2 : Y 2 = M 2) (y4 : Y 4 = M 4) (q : Nat) (hq : q = 64) : ∀ n, n ≤ 64 → lp_X7_works_60 S u T52 Y n = Y := by
  intro n
  induction n with
  | zero => intro _; rfl
  | succ n ih =>
    intro hn
    show bd_X7_works_60 S u T52 n (lp_X7_works_60 S u T52 Y n) = Y
    rw [ih (by omega)]
    unfold bd_X7_works_60
    exact lp68_far hE (show n < 64 by omega) hu hr y0 y2 y4 64 0 (Nat.le_refl _)
theorem eq_50 {K L : Nat → Int32} {C M S S' T0 Y0 : zS} (hE : eqS K L C M) (H : JR K L C M T0 Y0) : ∀ n, n ≤ 64 → JR K L C M (lp_X1_find_50 S T0 (min n (roads K))) (lp_X7_works_52 S' Y0 n) := by
  intro n
  induction n with
  | zero =>
    intro _
    rw [Nat.zero_min]
    exact H
  | succ n ih =>
    intro hn
    have h := ih (by omega)
    show JR K L C M _ (bd_X7_works_52 S' n (lp_X7_works_52 S' Y0 n))
    generalize lp_X7_works_52 S' Y0 n = Y at h ⊢
    unfold bd_X7_works_52
    by_cases c : n < roads K
    · rw [Nat.min_eq_left (show n + 1 ≤ roads K by omega)]
      rw [Nat.min_eq_left (show n ≤ roads K by omega)] at h
      show JR K L C M (bd_X1_find_50 S n (lp_X1_find_50 S T0 n)) _
      unfold bd_X1_find_50 g_X1_place
      exact place_all hE h (show n < 64 by omega) 64 (Nat.le_refl _)
    · rw [Nat.min_eq_right (show roads K ≤ n + 1 by omega)]
      rw [Nat.min_eq_right (show roads K ≤ n by omega)] at h
      rw [lp60_far hE (show n < 64 by omega) (by omega) ((JR_y h 0 (by decide) (by decide) (by decide)).trans hE.2.2.2.1) (JR_y h 2 (by decide) (by decide) (by decide)) (JR_y h 4 (by decide) (by decide) (by decide)) 64 rfl 64 (Nat.le_refl _)]
      exact h
