/-! THE LAW'S SMALL METHODS AND LOOPS, told by the reference's facts -/
theorem areBeside_f : ∀ a, a < 64 → ∀ b, b < 64 → f_L_areBeside (nI a) (nI b) = if bes a b = true then 1 else 0 := by decide +kernel
theorem bes_of {a b : Nat} (ha : a < 64) (hb : b < 64) (h : ¬ f_L_areBeside (nI a) (nI b) = 0) : bes a b = true := by
  rw [areBeside_f a ha b hb] at h
  by_cases c : bes a b = true
  · exact c
  · rw [if_neg c] at h
    exact absurd rfl h
def lwv (P : Nat → Bool) : Nat → Int32 → Int32
  | 0, old => old
  | q + 1, old => lwv P q (if P q = true then nI q else old)
theorem lwv_none {P : Nat → Bool} : ∀ (q : Nat) (old : Int32), (∀ j, j < q → ¬ P j = true) → lwv P q old = old
  | 0, _, _ => rfl
  | q + 1, old, h => by
    unfold lwv
    rw [if_neg (h q (by omega))]
    exact lwv_none q old (fun j hj => h j (by omega))
theorem lwv_least {P : Nat → Bool} : ∀ (q : Nat) (old : Int32), (∃ j, j < q ∧ P j = true) → ∃ u, u < q ∧ lwv P q old = nI u ∧ P u = true ∧ ∀ j, j < u → ¬ P j = true
  | 0, _, h => by
    obtain ⟨j, hj, _⟩ := h
    omega
  | q + 1, old, h => by
    unfold lwv
    by_cases c : ∃ j, j < q ∧ P j = true
    · obtain ⟨u, h1, h2⟩ := lwv_least q (if P q = true then nI q else old) c
      exact ⟨u, by omega, h2⟩
    · have hn : ∀ j, j < q → ¬ P j = true := fun j hj z => c ⟨j, hj, z⟩
      have hq : P q = true := by
        obtain ⟨j, hj, z⟩ := h
        by_cases e : j = q
        · rw [← e]
          exact z
        · exact absurd z (hn j (by omega))
      rw [if_pos hq]
      exact ⟨q, by omega, lwv_none q _ hn, hq, hn⟩
theorem rv_none {K : Nat → Int32} {i : Nat} : ∀ (q : Nat) (old : Int32), (∀ s, s < q → ¬ (nb i s < 64 ∧ K (nb i s) = 1)) → rv K i q old = old
  | 0, _, _ => rfl
  | q + 1, old, h => by
    unfold rv
    rw [if_neg (h q (by omega))]
    exact rv_none q old (fun j hj => h j (by omega))
theorem rv_least {K : Nat → Int32} {i : Nat} : ∀ (q : Nat) (old : Int32), (∃ s, s < q ∧ (nb i s < 64 ∧ K (nb i s) = 1)) → ∃ s, s < q ∧ rv K i q old = nI (nb i s) ∧ (nb i s < 64 ∧ K (nb i s) = 1) ∧ ∀ t, t < s → ¬ (nb i t < 64 ∧ K (nb i t) = 1)
  | 0, _, h => by
    obtain ⟨j, hj, _⟩ := h
    omega
  | q + 1, old, h => by
    unfold rv
    by_cases c : ∃ s, s < q ∧ (nb i s < 64 ∧ K (nb i s) = 1)
    · obtain ⟨u, h1, h2⟩ := rv_least q (if nb i q < 64 ∧ K (nb i q) = 1 then nI (nb i q) else old) c
      exact ⟨u, by omega, h2⟩
    · have hn : ∀ j, j < q → ¬ (nb i j < 64 ∧ K (nb i j) = 1) := fun j hj z => c ⟨j, hj, z⟩
      have hq : nb i q < 64 ∧ K (nb i q) = 1 := by
        obtain ⟨j, hj, z⟩ := h
        by_cases e : j = q
        · rw [← e]
          exact z
        · exact absurd z (hn j (by omega))
      rw [if_pos hq]
      exact ⟨q, by omega, rv_none q _ hn, hq, hn⟩
theorem road_eq {K : Nat → Int32} {c : Nat} (hc : c < 64) : lwv (fun k => decide (K k = 1) && bes k c) 64 (-1) = rv K c 4 (-1) := by
  by_cases h : ∃ s, s < 4 ∧ (nb c s < 64 ∧ K (nb c s) = 1)
  · obtain ⟨s, hs, e, ⟨g1, g2⟩, g3⟩ := rv_least 4 (-1) h
    have hP : (fun k => decide (K k = 1) && bes k c) (nb c s) = true := by
      simp [g2, bes_nb c hc s hs g1]
    obtain ⟨u, hu, e2, hu2, hu3⟩ := lwv_least (P := fun k => decide (K k = 1) && bes k c) 64 (-1) ⟨nb c s, g1, hP⟩
    simp only [Bool.and_eq_true, decide_eq_true_eq] at hu2
    obtain ⟨t, ht, ett⟩ := bes_ex c hc u hu hu2.2
    have h1 : ¬ nb c s < u := fun z => hu3 _ z hP
    have h2 : ¬ t < s := fun z => g3 t z ⟨by rw [ett]; exact hu, by rw [ett]; exact hu2.1⟩
    have h3 : t = s := by
      by_cases z : t = s
      · exact z
      · have := nb_rise c hc t ht s (by omega) (by rw [ett]; exact hu) g1
        rw [ett] at this
        exact absurd this h1
    rw [e, e2, ← ett, h3]
  · rw [rv_none 4 (-1) (fun s hs z => h ⟨s, hs, z⟩)]
    refine lwv_none 64 (-1) (fun j hj z => ?_)
    simp only [Bool.and_eq_true, decide_eq_true_eq] at z
    obtain ⟨t, ht, ett⟩ := bes_ex c hc j hj z.2
    exact h ⟨t, ht, by rw [ett]; exact hj, by rw [ett]; exact z.1⟩
theorem road_own {S F : zS} {c : Nat} (h : S 20 c = 1) : ∀ (q i : Nat) (ro : Int32), lp_L_road_16 S F c q i ro = ro := by
  intro q i ro
  cases q with
  | zero => rfl
  | succ q => rw [lp_L_road_16, if_pos h]
theorem road_lp {S F : zS} {c : Nat} (hc : c < 64) (h : ¬ S 20 c = 1) : ∀ (q i : Nat) (ro : Int32), i + q = 64 → lp_L_road_16 S F c q i ro = lwv (fun k => decide (S 20 k = 1) && bes k c) q ro := by
  intro q
  induction q with
  | zero => intro i ro _; rfl
  | succ q ih =>
    intro i ro hi
    rw [lp_L_road_16, if_neg h, ih (i + 1) _ (by omega), show 63 - i = q by omega]
    show _ = lwv (fun k => decide (S 20 k = 1) && bes k c) q (if (decide (S 20 q = 1) && bes q c) = true then nI q else ro)
    congr 1
    by_cases c1 : S 20 q = 1
    · rw [if_neg (not_not_intro c1), areBeside_f q (by omega) c hc]
      by_cases c2 : bes q c = true
      · rw [if_pos c2, if_neg (by decide), if_pos (by simp [c1, c2])]
      · rw [if_neg c2, if_pos rfl, if_neg (by simp [c2])]
    · rw [if_pos c1, if_neg (by simp [c1])]
theorem road_f {S F : zS} (H : LF S F) {c : Nat} (hc : c < 64) : lp_L_road_16 S F c 64 0 (if ¬ (S 20 c) = 1 then (-1) else (nI c)) = F 2 c := by
  rw [H.mR.1 c hc]
  unfold rdI
  by_cases h : S 20 c = 1
  · rw [road_own h, if_neg (not_not_intro h), if_pos h]
  · rw [road_lp hc h 64 0 _ rfl, if_pos h, if_neg h, road_eq hc]
/-! nets -/
section NETL
variable {S F : zS}
theorem net_own (H : LF S F) {c w u : Nat} (hc : c < 64) (hw : w < 64) (hr : F 2 c = nI w) (kw : S 20 w = 1) (hu : u < 64) (hn : F 3 c = nI u) : u ≤ w ∧ S 20 u = 1 ∧ F 3 w = nI u ∧ F 3 u = nI u ∧ mBet F c w = 0 ∧ ¬ mBet F w u < 0 := by
  have e1 := H.n1 hc hw hr
  obtain ⟨v, v1, v2, v3, v4, v5, v6⟩ := low_f H.dd hw kw
  rw [hn, v3] at e1
  have e := nI_inj (by omega) (by omega) e1
  subst e
  have rw2 := H.rr hw kw
  have ru2 := H.rr v1 v5
  have l1 : lowD (F 4) w = lowD (F 4) u := low_eq H.dd hw v1 v4
  obtain ⟨l, hl, e2, _, _⟩ := d_nI H.dd hw v1 v4
  refine ⟨v2, v5, (H.n1 hw hw rw2).trans v3, (H.n1 v1 v1 ru2).trans (l1.symm.trans v3), ?_, ?_⟩
  · rw [mBet_1 hw hw hr rw2, d_self H.dd hw kw]
    rfl
  · rw [mBet_1 hw v1 rw2 ru2, e2]
    exact nI_pos (by omega)
theorem net_same (H : LF S F) {c o w u : Nat} (hc : c < 64) (ho : o < 64) (hw : w < 64) (hr : F 2 c = nI w) (kw : S 20 w = 1) (hu : u < 64) (hn : F 3 c = nI u) : (if (mBet F c o) < 0 then (0 : Int32) else 1) = (if ¬ (F 3 o) = (nI u) then 0 else 1) := by
  have e1 := H.n1 hc hw hr
  rw [hn] at e1
  rcases H.rd ho with z | ⟨v, hv, e2, kv⟩
  · rw [mBet_00 z, if_pos (by decide), H.n0 ho z, if_pos (fun y => nI_m1 (n := u) (by omega) y.symm)]
  · rw [mBet_1 hw hv hr e2, H.n1 ho hv e2]
    by_cases hd : rch (F 4) w v
    · obtain ⟨l, hl, e3, _, _⟩ := d_nI H.dd hw hv hd
      rw [e3, if_neg (nI_pos (by omega)), if_neg (not_not_intro (by rw [← low_eq H.dd hw hv hd]; exact e1.symm))]
    · have e3 : F 4 (64 * w + v) = -1 := Classical.byContradiction hd
      rw [e3, if_pos (by decide), if_pos (fun y => hd (low_ne H.dd hw hv kw kv (e1.symm.trans y.symm)))]
theorem mBet_symm (H : LF S F) {a b : Nat} (ha : a < 64) (hb : b < 64) : mBet F a b = mBet F b a := by
  rcases H.rd ha with z | ⟨x, hx, e1, _⟩
  · rw [mBet_0 z, mBet_00 z]
  · rcases H.rd hb with z | ⟨y, hy, e2, _⟩
    · rw [mBet_0 z, mBet_00 z]
    · rw [mBet_1 hx hy e1 e2, mBet_1 hy hx e2 e1, d_symm H.dd hx hy]
theorem net_near (H : LF S F) {c w u i : Nat} (hc : c < 64) (hw : w < 64) (hr : F 2 c = nI w) (kw : S 20 w = 1) (hn : F 3 c = nI u) (hi : i < 64) (ki : S 20 i = 1) (hb : ¬ f_L_areBeside (nI i) (nI w) = 0) : F 3 i = nI u := by
  obtain ⟨t, ht, e⟩ := bes_ex w hw i hi (bes_of hi hw hb)
  have h1 : rch (F 4) w i := by
    rw [← e]
    exact nb_rch H.dd hw ht kw (by rw [e]; exact hi) (by rw [e]; exact ki)
  rw [H.n1 hi hi (H.rr hi ki), ← low_eq H.dd hw hi h1, ← H.n1 hc hw hr]
  exact hn
theorem far_none (H : LF S F) {c o w i : Nat} (ho : o < 64) (hc : c < 64) (hw : w < 64) (hr : F 2 c = nI w) (kw : S 20 w = 1) (hi : i < 64) (ki : S 20 i = 1) (hb : ¬ f_L_areBeside (nI i) (nI w) = 0) (hlt : ¬ 0 ≤ mBet F c o) : mBet F i o = -1 := by
  obtain ⟨t, ht, e⟩ := bes_ex w hw i hi (bes_of hi hw hb)
  have h1 : rch (F 4) w i := by
    rw [← e]
    exact nb_rch H.dd hw ht kw (by rw [e]; exact hi) (by rw [e]; exact ki)
  rcases H.rd ho with z | ⟨v, hv, e2, kv⟩
  · exact mBet_00 z
  · rw [mBet_1 hi hv (H.rr hi ki) e2]
    rw [mBet_1 hw hv hr e2] at hlt
    refine Classical.byContradiction fun z => ?_
    obtain ⟨l, hl, e3, _, _⟩ := d_nI H.dd hw hv (rch_trans H.dd hw hi hv h1 z)
    rw [e3] at hlt
    exact nI_pos (n := l) (by omega) (Int32.not_le.mp hlt)
theorem far_1 (H : LF S F) {c o w i : Nat} (ho : o < 64) (hc : c < 64) (hw : w < 64) (hr : F 2 c = nI w) (kw : S 20 w = 1) (hi : i < 64) (ki : S 20 i = 1) (hb : ¬ f_L_areBeside (nI i) (nI w) = 0) (hge : 0 ≤ mBet F c o) : ¬ 1 < mBet F i o - mBet F c o ∧ ¬ 1 < mBet F c o - mBet F i o := by
  obtain ⟨t, ht, e⟩ := bes_ex w hw i hi (bes_of hi hw hb)
  rcases H.rd ho with z | ⟨v, hv, e2, kv⟩
  · rw [mBet_00 z] at hge
    exact absurd hge (by decide)
  · rw [mBet_1 hw hv hr e2] at hge
    rw [mBet_1 hi hv (H.rr hi ki) e2, mBet_1 hw hv hr e2]
    have hd : rch (F 4) w v := fun z => by
      rw [z] at hge
      exact absurd hge (by decide)
    obtain ⟨l, hl, e3, _, _⟩ := d_nI H.dd hw hv hd
    obtain ⟨k, k1, k2, k3, k4⟩ := nb_near H.dd hw hv ht (by rw [e]; exact hi) (by rw [e]; exact ki) hl e3
    rw [e] at k2
    rw [e3, k2]
    have g0 : ∀ a : Nat, nI a - nI a = 0 := fun a => by grind
    have g1 : ∀ a : Nat, nI (a + 1) - nI a = 1 := fun a => by
      rw [nI_succ]
      grind
    have g2 : ∀ a : Nat, nI a - nI (a + 1) = -1 := fun a => by
      rw [nI_succ]
      grind
    by_cases c1 : k = l
    · rw [c1, g0]
      exact ⟨by decide, by decide⟩
    · by_cases c2 : k = l + 1
      · rw [c2, g1, g2]
        exact ⟨by decide, by decide⟩
      · have c3 : l = k + 1 := by omega
        rw [c3, g1, g2]
        exact ⟨by decide, by decide⟩
def nrG (S F : zS) (c o w : Nat) : Nat → Bool := fun i => decide (S 20 i = 1) && (bes i w && decide (mBet F i o = mBet F c o - 1))
theorem near_lp {c o w u : Nat} (hw : w < 64) : ∀ n, n ≤ 64 → lp_L_isNet_176 S F c o w u 0 n = nI (cnt (nrG S F c o w) n)
  | 0, _ => rfl
  | n + 1, hn => by
    show bd_L_isNet_176 S F c o w u n (lp_L_isNet_176 S F c o w u 0 n) = _
    rw [near_lp hw n (by omega), cnt_s]
    unfold bd_L_isNet_176 nrG
    have h0 : ∀ a : Nat, nI (a + 0) = nI a := fun _ => rfl
    by_cases c1 : S 20 n = 1
    · rw [if_neg (not_not_intro c1), areBeside_f n (by omega) w hw]
      by_cases c2 : bes n w = true
      · rw [if_pos c2, if_neg (by decide)]
        have hh : ∀ x : Int32, (if 0 ≤ mBet F c o then x else x) = x := fun x => by split <;> rfl
        rw [hh]
        by_cases c3 : mBet F n o = mBet F c o - 1
        · rw [if_neg (not_not_intro c3), if_pos (by simp [c1, c2, c3]), nI_succ]
        · rw [if_pos c3, if_neg (by simp [c3]), Int32.add_zero, Nat.add_zero]
      · rw [if_neg c2, if_pos rfl, if_neg (by simp [c2]), Nat.add_zero]
    · rw [if_pos c1, if_neg (by simp [c1]), Nat.add_zero]
theorem near_pos (H : LF S F) {c o w u : Nat} (hc : c < 64) (ho : o < 64) (hw : w < 64) (hr : F 2 c = nI w) (kw : S 20 w = 1) (hst : ¬ mBet F c o < 1) {N1 : Int32} (hN : lp_L_isNet_176 S F c o w u 0 64 = N1) : ¬ N1 ≤ 0 := by
  rw [near_lp hw 64 (Nat.le_refl _)] at hN
  rcases H.rd ho with z | ⟨v, hv, e2, kv⟩
  · rw [mBet_00 z] at hst
    exact absurd (by decide) hst
  · have hst2 := hst
    rw [mBet_1 hw hv hr e2] at hst2
    have hd : rch (F 4) w v := fun z => by
      rw [z] at hst2
      exact absurd (by decide) hst2
    obtain ⟨l, hl, e3, _, _⟩ := d_nI H.dd hw hv hd
    have h0 : 0 < l := by
      refine Nat.pos_of_ne_zero fun z => ?_
      rw [e3, z] at hst2
      exact absurd (by decide) hst2
    obtain ⟨t, t1, t2, t3, t4⟩ := nb_nearer H.dd hw hv hl e3 h0
    have hg : nrG S F c o w (nb w t) = true := by
      unfold nrG
      have e4 : mBet F (nb w t) o = mBet F c o - 1 := by
        rw [mBet_1 t2 hv (H.rr t2 t3) e2, mBet_1 hw hv hr e2, t4, e3]
        obtain ⟨k, rfl⟩ : ∃ k, l = k + 1 := ⟨l - 1, by omega⟩
        rw [nI_succ, Nat.add_sub_cancel]
        grind
      simp [t3, bes_nb w hw t t1 t2, e4]
    have hp := cnt_del (P := nrG S F c o w) 64 t2 hg
    have hle := cnt_le (nrG S F c o w) 64
    generalize cnt (nrG S F c o w) 64 = m at hN hp hle
    rw [← hN]
    intro z
    have := (nI_leI (a := m) (b := 0) (by omega) (by omega)).mp z
    omega
end NETL
