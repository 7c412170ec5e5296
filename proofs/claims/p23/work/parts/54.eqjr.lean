/-! JOBS: what holds of both sides while trips are found -/
def sums (f : Nat → Int32) : Nat → Int32
  | 0 => 0
  | n + 1 => sums f n + f n
def ksum (K : Nat → Int32) (c : Int32) (g : Nat → Int32) : Nat → Int32
  | 0 => 0
  | n + 1 => ksum K c g n + (if K n = c then g n else 0)
theorem sums_congr {f g : Nat → Int32} : ∀ n, (∀ j, j < n → f j = g j) → sums f n = sums g n
  | 0, _ => rfl
  | n + 1, h => by
    unfold sums
    rw [sums_congr n (fun j hj => h j (by omega)), h n (by omega)]
theorem ksum_congr {K : Nat → Int32} {c : Int32} {f g : Nat → Int32} : ∀ n, (∀ j, j < n → K j = c → f j = g j) → ksum K c f n = ksum K c g n
  | 0, _ => rfl
  | n + 1, h => by
    unfold ksum
    rw [ksum_congr n (fun j hj => h j (by omega))]
    by_cases e : K n = c
    · rw [if_pos e, if_pos e, h n (by omega) e]
    · rw [if_neg e, if_neg e]
theorem ksum_no {K : Nat → Int32} {c v : Int32} {g : Nat → Int32} {a : Nat} (h : ¬ K a = c) (n : Nat) : ksum K c (upd g a v) n = ksum K c g n :=
  ksum_congr n (fun j _ hk => pk_un (fun z => h (by rw [← z]; exact hk)))
theorem ksum_up {K : Nat → Int32} {c p : Int32} {g : Nat → Int32} {a : Nat} (h : K a = c) : ∀ n, a < n → ksum K c (upd g a (g a + p)) n = ksum K c g n + p
  | 0, ha => absurd ha (Nat.not_lt_zero _)
  | n + 1, ha => by
    unfold ksum
    by_cases e : a = n
    · rw [← e, if_pos h, if_pos h, pk_us, ksum_congr (g := g) a (fun j hj _ => pk_un (by omega)), Int32.add_assoc]
    · rw [ksum_up h n (by omega), pk_un (show n ≠ a by omega), Int32.add_assoc, Int32.add_assoc, Int32.add_comm p]
def u2 (f : Nat → Int32) (a b : Nat) (p : Int32) : Nat → Int32 := upd (upd f a (f a + p)) b (upd f a (f a + p) b + p)
theorem u2_a {f : Nat → Int32} {a b : Nat} {p : Int32} (h : a ≠ b) : u2 f a b p a = f a + p := by
  unfold u2
  rw [pk_un h, pk_us]
theorem u2_b {f : Nat → Int32} {a b : Nat} {p : Int32} (h : a ≠ b) : u2 f a b p b = f b + p := by
  unfold u2
  rw [pk_us, pk_un (fun z => h z.symm)]
theorem u2_o {f : Nat → Int32} {a b k : Nat} {p : Int32} (ha : k ≠ a) (hb : k ≠ b) : u2 f a b p k = f k := by
  unfold u2
  rw [pk_un hb, pk_un ha]
theorem ks2 {K : Nat → Int32} {g : Nat → Int32} {a b : Nat} {p : Int32} (ka : K a = 2) (kb : K b = 3) (ha : a < 64) (hb : b < 64) (n : Nat) (hn : n = 64) : ksum K 2 (u2 g a b p) n = ksum K 2 g n + p ∧ ksum K 3 (u2 g a b p) n = ksum K 3 g n + p := by
  unfold u2
  constructor
  · rw [ksum_no (by rw [kb]; decide), ksum_up ka n (by omega)]
  · rw [ksum_up kb n (by omega), ksum_no (by rw [ka]; decide)]
theorem nI_subN {a m : Nat} (h : m ≤ a) : nI a + -nI m = nI (a - m) := by
  have e : a = (a - m) + m := by omega
  conv => lhs; rw [e]
  rw [← nI_add, ← Int32.sub_eq_add_neg, Int32.add_sub_cancel]
theorem lp73_r (S : zS) (T : zS) (r : Nat) (h : r ≠ 11) : ∀ n, (lp_X1_find_73 S T n) r = T r
  | 0 => rfl
  | n + 1 => by
    show (bd_X1_find_73 S n (lp_X1_find_73 S T n)) r = T r
    unfold bd_X1_find_73
    rw [fr_X1_walk _ _ _ _ r h]
    exact lp73_r S T r h n
def JRn (K L : Nat → Int32) (C M T Y : zS) (n : Nat) (ha tb : Nat → Nat) : Prop := (∀ r, r ≠ 9 → r ≠ 10 → r ≠ 12 → r ≠ 13 → r ≠ 14 → r ≠ 16 → T r = C r) ∧ (∀ r, r ≠ 9 → r ≠ 10 → r ≠ 11 → Y r = M r) ∧ (∀ k, k < 64 → T 9 k = Y 9 k) ∧ (∀ k, k < 64 → T 10 k = 2 * L k - Y 9 k) ∧ (∀ k, k < 64 → ∃ m, m ≤ 6 ∧ T 10 k = nI m) ∧ (T 16 0 = nI n) ∧ (n ≤ cnt (fun k => decide (T 10 k = 0)) 64) ∧ (∀ i, i < n → ha i < 64 ∧ tb i < 64 ∧ K (ha i) = 2 ∧ K (tb i) = 3 ∧ T 12 i = nI (ha i) ∧ T 13 i = nI (tb i) ∧ (T 10 (ha i) = 0 ∨ T 10 (tb i) = 0) ∧ Y 10 (64 * ha i + tb i) = T 14 i) ∧ (∀ a b, a < 64 → b < 64 → (∀ i, i < n → ¬ (ha i = a ∧ tb i = b)) → Y 10 (64 * a + b) = 0) ∧ (∀ S Z : zS, Z 2 = C 2 → Z 4 = C 4 → (∀ i, i < n → Z 12 i = T 12 i ∧ Z 13 i = T 13 i ∧ Z 14 i = T 14 i) → (∀ k, k < 64 → Z 11 k = 0) → ∀ k, k < 64 → (lp_X1_find_73 S Z n) 11 k = Y 11 k) ∧ (sums (T 14) n = ksum K 2 (Y 9) 64) ∧ (sums (T 14) n = ksum K 3 (Y 9) 64) ∧ (∀ k, k < 64 → T 10 k ≤ 2 * L k)
theorem JRn.t {K L : Nat → Int32} {C M T Y : zS} {n : Nat} {ha tb : Nat → Nat} (H : JRn K L C M T Y n ha tb) : ∀ r, r ≠ 9 → r ≠ 10 → r ≠ 12 → r ≠ 13 → r ≠ 14 → r ≠ 16 → T r = C r := H.1
theorem JRn.y {K L : Nat → Int32} {C M T Y : zS} {n : Nat} {ha tb : Nat → Nat} (H : JRn K L C M T Y n ha tb) : ∀ r, r ≠ 9 → r ≠ 10 → r ≠ 11 → Y r = M r := H.2.1
theorem JRn.p9 {K L : Nat → Int32} {C M T Y : zS} {n : Nat} {ha tb : Nat → Nat} (H : JRn K L C M T Y n ha tb) : ∀ k, k < 64 → T 9 k = Y 9 k := H.2.2.1
theorem JRn.fr {K L : Nat → Int32} {C M T Y : zS} {n : Nat} {ha tb : Nat → Nat} (H : JRn K L C M T Y n ha tb) : ∀ k, k < 64 → T 10 k = 2 * L k - Y 9 k := H.2.2.2.1
theorem JRn.nn {K L : Nat → Int32} {C M T Y : zS} {n : Nat} {ha tb : Nat → Nat} (H : JRn K L C M T Y n ha tb) : ∀ k, k < 64 → ∃ m, m ≤ 6 ∧ T 10 k = nI m := H.2.2.2.2.1
theorem JRn.c16 {K L : Nat → Int32} {C M T Y : zS} {n : Nat} {ha tb : Nat → Nat} (H : JRn K L C M T Y n ha tb) : T 16 0 = nI n := H.2.2.2.2.2.1
theorem JRn.cn {K L : Nat → Int32} {C M T Y : zS} {n : Nat} {ha tb : Nat → Nat} (H : JRn K L C M T Y n ha tb) : n ≤ cnt (fun k => decide (T 10 k = 0)) 64 := H.2.2.2.2.2.2.1
theorem JRn.tr {K L : Nat → Int32} {C M T Y : zS} {n : Nat} {ha tb : Nat → Nat} (H : JRn K L C M T Y n ha tb) : ∀ i, i < n → ha i < 64 ∧ tb i < 64 ∧ K (ha i) = 2 ∧ K (tb i) = 3 ∧ T 12 i = nI (ha i) ∧ T 13 i = nI (tb i) ∧ (T 10 (ha i) = 0 ∨ T 10 (tb i) = 0) ∧ Y 10 (64 * ha i + tb i) = T 14 i := H.2.2.2.2.2.2.2.1
theorem JRn.no {K L : Nat → Int32} {C M T Y : zS} {n : Nat} {ha tb : Nat → Nat} (H : JRn K L C M T Y n ha tb) : ∀ a b, a < 64 → b < 64 → (∀ i, i < n → ¬ (ha i = a ∧ tb i = b)) → Y 10 (64 * a + b) = 0 := H.2.2.2.2.2.2.2.2.1
theorem JRn.w {K L : Nat → Int32} {C M T Y : zS} {n : Nat} {ha tb : Nat → Nat} (H : JRn K L C M T Y n ha tb) : ∀ S Z : zS, Z 2 = C 2 → Z 4 = C 4 → (∀ i, i < n → Z 12 i = T 12 i ∧ Z 13 i = T 13 i ∧ Z 14 i = T 14 i) → (∀ k, k < 64 → Z 11 k = 0) → ∀ k, k < 64 → (lp_X1_find_73 S Z n) 11 k = Y 11 k := H.2.2.2.2.2.2.2.2.2.1
theorem JRn.s2 {K L : Nat → Int32} {C M T Y : zS} {n : Nat} {ha tb : Nat → Nat} (H : JRn K L C M T Y n ha tb) : sums (T 14) n = ksum K 2 (Y 9) 64 := H.2.2.2.2.2.2.2.2.2.2.1
theorem JRn.s3 {K L : Nat → Int32} {C M T Y : zS} {n : Nat} {ha tb : Nat → Nat} (H : JRn K L C M T Y n ha tb) : sums (T 14) n = ksum K 3 (Y 9) 64 := H.2.2.2.2.2.2.2.2.2.2.2.1
theorem JRn.ub {K L : Nat → Int32} {C M T Y : zS} {n : Nat} {ha tb : Nat → Nat} (H : JRn K L C M T Y n ha tb) : ∀ k, k < 64 → T 10 k ≤ 2 * L k := H.2.2.2.2.2.2.2.2.2.2.2.2
theorem JR_go {K L : Nat → Int32} {C M T Y : zS} {n : Nat} {ha tb : Nat → Nat} (hE : eqS K L C M) (H : JRn K L C M T Y n ha tb) {a b u ma mb m : Nat} (h1 : a < 64) (h2 : b < 64) (ka : K a = 2) (kb : K b = 3) (hu : u < 64) (hd : mBet M a b = nI u) (hma : ma ≤ 6) (hmb : mb ≤ 6) (ea : T 10 a = nI ma) (eb : T 10 b = nI mb) (la : m ≤ ma) (lb : m ≤ mb) (hm : 0 < m) (ho : m = ma ∨ m = mb) :
    JRn K L C M (g_X1_take T (nI a) (nI b) (nI m)) (g_X7_goes Y a b (nI m)) (n + 1) (fun i => if i = n then a else ha i) (fun i => if i = n then b else tb i) := by
  obtain ⟨e1, e2, e3, e4, e5, e6⟩ := hE
  have hab : a ≠ b := fun z => by
    rw [z, kb] at ka
    exact absurd ka (by decide)
  have hp : ¬ nI m ≤ 0 := fun z => by
    have := (nI_leI (a := m) (b := 0) (by omega) (by omega)).mp z
    omega
  have za : T 10 a ≠ 0 := fun z => by
    rw [ea] at z
    have := nI_inj (a := ma) (b := 0) (by omega) (by omega) z
    omega
  have zb : T 10 b ≠ 0 := fun z => by
    rw [eb] at z
    have := nI_inj (a := mb) (b := 0) (by omega) (by omega) z
    omega
  have t9 : g_X1_take T (nI a) (nI b) (nI m) 9 = u2 (T 9) a b (nI m) := take_9 hp h1 h2
  have t10 : g_X1_take T (nI a) (nI b) (nI m) 10 = u2 (T 10) a b (-nI m) := take_10 hp h1 h2
  have y9 : g_X7_goes Y a b (nI m) 9 = u2 (Y 9) a b (nI m) := goes_9 Y a b (nI m)
  have y10 := goes_10 Y a b (nI m)
  have v10 : ∀ k, k < 64 → T 10 k = 0 → u2 (T 10) a b (-nI m) k = 0 := fun k hk z => by
    rw [u2_o (fun y => za (by rw [← y]; exact z)) (fun y => zb (by rw [← y]; exact z))]
    exact z
  have hcn : n + 1 ≤ cnt (fun k => decide (u2 (T 10) a b (-nI m) k = 0)) 64 := by
    have key : ∀ v, v < 64 → T 10 v ≠ 0 → u2 (T 10) a b (-nI m) v = 0 → n + 1 ≤ cnt (fun k => decide (u2 (T 10) a b (-nI m) k = 0)) 64 := by
      intro v hv hv0 hv1
      have c1 : cnt (fun j => decide (u2 (T 10) a b (-nI m) j = 0) && decide (j ≠ v)) 64 + 1 = cnt (fun k => decide (u2 (T 10) a b (-nI m) k = 0)) 64 := cnt_del (P := fun k => decide (u2 (T 10) a b (-nI m) k = 0)) 64 hv (by simp [hv1])
      have c2 : cnt (fun k => decide (T 10 k = 0)) 64 ≤ cnt (fun j => decide (u2 (T 10) a b (-nI m) j = 0) && decide (j ≠ v)) 64 := cnt_mono (P := fun k => decide (T 10 k = 0)) (P' := fun j => decide (u2 (T 10) a b (-nI m) j = 0) && decide (j ≠ v)) 64 (fun j hj hz => by
        have hz2 : T 10 j = 0 := by simpa using hz
        have hz3 : j ≠ v := fun y => hv0 (by rw [← y]; exact hz2)
        simp [v10 j hj hz2, hz3])
      have c3 := H.cn
      omega
    rcases ho with z | z
    · refine key a h1 za ?_
      rw [u2_a hab, ea, nI_subN la, z, Nat.sub_self]
      rfl
    · refine key b h2 zb ?_
      rw [u2_b hab, eb, nI_subN lb, z, Nat.sub_self]
      rfl
  have hn : n < 64 := by
    have := cnt_le (fun k => decide (u2 (T 10) a b (-nI m) k = 0)) 64
    omega
  have t12 := take_12 (x := nI a) (y := nI b) hp hn H.c16
  have t13 := take_13 (x := nI a) (y := nI b) hp hn H.c16
  have t14 := take_14 (x := nI a) (y := nI b) hp hn H.c16
  have t16 := take_16 (x := nI a) (y := nI b) hp H.c16
  have tO : ∀ r, r ≠ 9 → r ≠ 10 → r ≠ 12 → r ≠ 13 → r ≠ 14 → r ≠ 16 → g_X1_take T (nI a) (nI b) (nI m) r = T r := fun r x9 x10 x12 x13 x14 x16 => fr_X1_take T _ _ _ r x10 x12 x13 x14 x16 x9
  have yO : ∀ r, r ≠ 9 → r ≠ 10 → r ≠ 11 → g_X7_goes Y a b (nI m) r = Y r := fun r x9 x10 x11 => fr_X7_goes Y _ _ _ r x10 x11 x9
  have y11 : ∀ W : zS, W 4 = C 4 → (∀ k, k < 64 → W 11 k = Y 11 k) → ∀ x y : Nat, M 2 a = nI x → M 2 b = nI y → x < 64 → y < 64 → ∀ k, k < 64 → (g_X1_walk W (nI x) (nI y) (nI m)) 11 k = (g_X7_goes Y a b (nI m)) 11 k := by
    intro W w4 w11 x y ex ey hx hy k hk
    obtain ⟨x', y', l, q1, q2, q3, q4, q5, q6, q7, q8, q9, q10⟩ := mBet_in e2 h1 h2 hu hd
    have i1 := nI_inj (by omega) (by omega) (ex.symm.trans q4)
    have i2 := nI_inj (by omega) (by omega) (ey.symm.trans q5)
    rw [i1, i2]
    exact goes_11 (u := u) (xf := 0) e1 e2 w4 ((H.y 0 (by decide) (by decide) (by decide)).trans e4) (H.y 2 (by decide) (by decide) (by decide)) (H.y 4 (by decide) (by decide) (by decide)) q1 q2 q3 q4 q5 q8 q9 w11 k hk
  obtain ⟨x, y, l, q1, q2, q3, q4, q5, -⟩ := mBet_in e2 h1 h2 hu hd
  generalize g_X1_take T (nI a) (nI b) (nI m) = T' at t9 t10 t12 t13 t14 t16 tO ⊢
  generalize g_X7_goes Y a b (nI m) = Y' at y9 y10 yO y11 ⊢
  refine ⟨fun r x9 x10 x12 x13 x14 x16 => (tO r x9 x10 x12 x13 x14 x16).trans (H.t r x9 x10 x12 x13 x14 x16), fun r x9 x10 x11 => (yO r x9 x10 x11).trans (H.y r x9 x10 x11), fun k hk => ?_, fun k hk => ?_, fun k hk => ?_, t16, by rw [t10]; exact hcn, fun i hi => ?_, fun a' b' ha' hb' hno => ?_, fun S Z z2 z4 zt z11 k hk => ?_, ?_, ?_, fun k hk => ?_⟩
  · rw [t9, y9]
    by_cases k1 : k = a
    · rw [k1, u2_a hab, u2_a hab, H.p9 a h1]
    · by_cases k2 : k = b
      · rw [k2, u2_b hab, u2_b hab, H.p9 b h2]
      · rw [u2_o k1 k2, u2_o k1 k2]
        exact H.p9 k hk
  · rw [t10, y9]
    have e9 : ∀ x y p : Int32, x - y + -p = x - (y + p) := fun x y p => by rw [Int32.sub_eq_add_neg, Int32.sub_eq_add_neg, Int32.neg_add, Int32.add_assoc, Int32.sub_eq_add_neg]
    by_cases k1 : k = a
    · rw [k1, u2_a hab, u2_a hab, H.fr a h1, e9]
    · by_cases k2 : k = b
      · rw [k2, u2_b hab, u2_b hab, H.fr b h2, e9]
      · rw [u2_o k1 k2, u2_o k1 k2]
        exact H.fr k hk
  · rw [t10]
    by_cases k1 : k = a
    · exact ⟨ma - m, by omega, by rw [k1, u2_a hab, ea, nI_subN la]⟩
    · by_cases k2 : k = b
      · exact ⟨mb - m, by omega, by rw [k2, u2_b hab, eb, nI_subN lb]⟩
      · rw [u2_o k1 k2]
        exact H.nn k hk
  · rw [t10, t12, t13, t14, y10]
    by_cases e : i = n
    · simp only [e, if_true]
      refine ⟨h1, h2, ka, kb, pk_us, pk_us, ?_, ?_⟩
      · rcases ho with z | z
        · left
          rw [u2_a hab, ea, nI_subN la, z, Nat.sub_self]
          rfl
        · right
          rw [u2_b hab, eb, nI_subN lb, z, Nat.sub_self]
          rfl
      · rw [pk_us, pk_us]
    · simp only [if_neg e]
      obtain ⟨g1, g2, g3, g4, g5, g6, g7, g8⟩ := H.tr i (by omega)
      refine ⟨g1, g2, g3, g4, (pk_un e).trans g5, (pk_un e).trans g6, ?_, ?_⟩
      · rcases g7 with z | z
        · exact Or.inl (v10 _ g1 z)
        · exact Or.inr (v10 _ g2 z)
      · rw [pk_un e, pk_un]
        · exact g8
        · intro z
          have z1 : ha i = a := by omega
          have z2 : tb i = b := by omega
          rw [z1, z2] at g7
          rcases g7 with g | g
          · exact za g
          · exact zb g
  · have hz := hno n (by omega)
    simp only [if_true] at hz
    rw [y10, pk_un (by omega)]
    refine H.no a' b' ha' hb' (fun i hi => ?_)
    have := hno i (by omega)
    simp only [if_neg (show ¬ i = n by omega)] at this
    exact this
  · have hw := H.w S Z z2 z4 (fun i hi => by
      have := zt i (by omega)
      rw [t12, t13, t14, pk_un (show i ≠ n by omega), pk_un (show i ≠ n by omega), pk_un (show i ≠ n by omega)] at this
      exact this) z11
    show (bd_X1_find_73 S n (lp_X1_find_73 S Z n)) 11 k = Y' 11 k
    have w2 := lp73_r S Z 2 (by decide) n
    have w4 := lp73_r S Z 4 (by decide) n
    have w12 := lp73_r S Z 12 (by decide) n
    have w13 := lp73_r S Z 13 (by decide) n
    have w14 := lp73_r S Z 14 (by decide) n
    generalize lp_X1_find_73 S Z n = W at hw w2 w4 w12 w13 w14 ⊢
    obtain ⟨r1, r2, r3⟩ := zt n (by omega)
    rw [t12, pk_us] at r1
    rw [t13, pk_us] at r2
    rw [t14, pk_us] at r3
    unfold bd_X1_find_73 f_X3_roadOf
    rw [rg_nI hn (by decide), rg_nI hn (by decide), rg_nI hn (by decide), w12, w13, w14, r1, r2, r3, w2, z2, rg_nI h1 (by decide), rg_nI h2 (by decide), e1.1 a h1, e1.1 b h2, ← e2.1 a h1, ← e2.1 b h2, q4, q5]
    exact y11 W (w4.trans z4) hw x y q4 q5 q1 q2 k hk
  · rw [t14, y9, (ks2 ka kb h1 h2 64 rfl).1, ← H.s2]
    show sums (upd (T 14) n (nI m)) n + upd (T 14) n (nI m) n = _
    rw [pk_us, sums_congr n (fun j hj => pk_un (show j ≠ n by omega))]
  · rw [t14, y9, (ks2 ka kb h1 h2 64 rfl).2, ← H.s3]
    show sums (upd (T 14) n (nI m)) n + upd (T 14) n (nI m) n = _
    rw [pk_us, sums_congr n (fun j hj => pk_un (show j ≠ n by omega))]
  · have hle : ∀ x : Nat, x ≤ 6 → ∀ z : Int32, nI x ≤ z → nI (x - m) ≤ z := fun x hx z hz => Int32.le_trans ((nI_leI (by omega) (by omega)).mpr (Nat.sub_le x m)) hz
    rw [t10]
    by_cases k1 : k = a
    · rw [k1, u2_a hab, ea, nI_subN la]
      exact hle ma hma _ (by rw [← ea]; exact H.ub a h1)
    · by_cases k2 : k = b
      · rw [k2, u2_b hab, eb, nI_subN lb]
        exact hle mb hmb _ (by rw [← eb]; exact H.ub b h2)
      · rw [u2_o k1 k2]
        exact H.ub k hk
