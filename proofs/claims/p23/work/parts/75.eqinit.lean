/-! THE BEGINNING: a new object and a new reference stand alike -/
theorem rv_z (i : Nat) : ∀ (q : Nat), rv (fun _ => 0) i q (-1) = -1
  | 0 => rfl
  | q + 1 => by
    unfold rv
    rw [if_neg (fun h => absurd h.2 (by decide))]
    exact rv_z i q
theorem nvv_z {D : Nat → Int32} : ∀ (q : Nat), (∀ j, j < q → D j = -1) → nvv D q (-1) = -1
  | 0, _ => rfl
  | q + 1, h => by
    unfold nvv
    rw [if_pos (h q (by omega))]
    exact nvv_z q (fun j hj => h j (by omega))
theorem cnt_z : ∀ n, cnt (fun _ => decide ((0 : Int32) = 1)) n = 0
  | 0 => rfl
  | n + 1 => by
    unfold cnt
    rw [cnt_z n, if_neg (by decide)]
theorem rf_in {n j : Nat} {f : Nat → Int32} {v : Int32} (h : j < n) : rf n f v j = v := by
  unfold rf
  rw [if_pos h]
theorem rf_zz (n : Nat) : rf n (fun _ => 0) 0 = fun _ => 0 := by
  funext j
  unfold rf
  split <;> rfl
theorem cRd_0 : cRd (fun _ => 0) C0 := by
  refine ⟨fun k hk => ?_, ?_, fun b hb => Or.inr ⟨(show ¬ (0 : Int32) = 1 by decide), fun j hj => ?_⟩, fun u hu => ?_⟩
  · unfold rdI
    rw [if_neg (show ¬ (0 : Int32) = 1 by decide), rv_z]
    show rf 64 (fun _ => 0) (-1) k = -1
    exact rf_in hk
  · unfold roads
    rw [cnt_z]
    rfl
  · show rf 4096 (fun _ => 0) (-1) (64 * b + j) = -1
    exact rf_in (by omega)
  · rw [nvv_z 64 (fun s hs => by show rf 4096 (fun _ => 0) (-1) (64 * s + u) = -1; exact rf_in (by omega))]
    show rf 64 (fun _ => 0) (-1) u = -1
    exact rf_in hu
theorem give_0 {T : zS} {x : Int32} : g_X5_give T 0 x = T := by
  unfold g_X5_give
  rw [if_pos (show ¬ (0 : Int32) = 5 by decide), if_pos (show ¬ (0 : Int32) = 6 by decide), ite_self]
theorem find26_0 {S T : zS} (h : T 0 = fun _ => 0) : ∀ n, n ≤ 64 → lp_X5_find_26 S T n = T
  | 0, _ => rfl
  | n + 1, hn => by
    show bd_X5_find_26 S n (lp_X5_find_26 S T n) = T
    rw [find26_0 h n (by omega)]
    unfold bd_X5_find_26 f_X0_kindOf
    rw [rg_nI (by omega) (by decide), h]
    exact give_0
theorem find54_0 {S T : zS} (h : T 0 = fun _ => 0) : ∀ n, n ≤ 64 → lp_X5_find_54 S T n = T
  | 0, _ => rfl
  | n + 1, hn => by
    show bd_X5_find_54 S n (lp_X5_find_54 S T n) = T
    rw [find54_0 h n (by omega)]
    unfold bd_X5_find_54 f_X0_isZone
    rw [rg_nI (by omega) (by decide), h, if_neg (show ¬ (0 : Int32) = 2 by decide), if_pos (show ¬ (0 : Int32) = 3 by decide), if_pos rfl]
theorem sup_0 {S : zS} (h : S 0 = fun _ => 0) (n : Nat) (hn : n = 64) (W T : zS) (hW : W = zUp (zUp (zUp S 6 (rf 64 (S 6) 0)) 7 (rf 64 (S 7) 0)) 8 (rf 64 (S 8) 0)) (hT : T = lp_X5_find_54 S (lp_X5_find_26 S W n) n) : T = W := by
  have h0 : W 0 = fun _ => 0 := by
    rw [hW, zUp_n _ _ (by decide), zUp_n _ _ (by decide), zUp_n _ _ (by decide)]
    exact h
  rw [hT, find26_0 h0 n (by omega), find54_0 h0 n (by omega)]
theorem find23_o {S T : zS} {r : Nat} (h : r ≠ 10) : ∀ n, lp_X1_find_23 S T n r = T r
  | 0 => rfl
  | n + 1 => by
    show bd_X1_find_23 S n (lp_X1_find_23 S T n) r = _
    unfold bd_X1_find_23
    rw [zUp_n _ _ h]
    exact find23_o h n
theorem jobs_0 {S T : zS} (h15 : S 15 0 = 0) (n : Nat) (X : zS) (hX : X = zUp (zUp (zUp S 9 (rf 64 (S 9) 0)) 11 (rf 64 (S 11) 0)) 16 (upd (S 16) 0 0)) (Y : zS) (hY : Y = lp_X1_find_50 S (lp_X1_find_23 S X n) ((S 15 0).toNatClampNeg)) (hT : T = lp_X1_find_73 S Y ((Y 16 0).toNatClampNeg)) : T = lp_X1_find_23 S X n := by
  have e15 : (S 15 0).toNatClampNeg = 0 := by
    rw [h15]
    rfl
  rw [e15] at hY
  have e2 : Y = lp_X1_find_23 S X n := hY
  have e16 : (Y 16 0).toNatClampNeg = 0 := by
    rw [e2, find23_o (by decide), hX, zUp_s, pk_us]
    rfl
  rw [e16] at hT
  exact hT.trans e2
theorem lvOK_0 : lvOK (fun _ => 0) := fun _ _ => Or.inl rfl
theorem rows_0 (T : zS) (hT : T = g_X1_find (g_X5_find C0)) : T 16 0 = 0 ∧ ∀ k, k < 64 → T 6 k = 0 ∧ T 8 k = 0 ∧ T 9 k = 0 ∧ T 11 k = 0 := by
  have hS : g_X5_find C0 = zUp (zUp (zUp C0 6 (rf 64 (C0 6) 0)) 7 (rf 64 (C0 7) 0)) 8 (rf 64 (C0 8) 0) := by
    unfold g_X5_find
    exact sup_0 (rf_zz 64) 64 rfl _ _ rfl rfl
  generalize g_X5_find C0 = S at hT hS
  have s15 : S 15 0 = 0 := by
    rw [hS, zUp_n _ _ (by decide), zUp_n _ _ (by decide), zUp_n _ _ (by decide)]
    rfl
  have hT2 : T = lp_X1_find_23 S (zUp (zUp (zUp S 9 (rf 64 (S 9) 0)) 11 (rf 64 (S 11) 0)) 16 (upd (S 16) 0 0)) 64 := by
    rw [hT]
    unfold g_X1_find
    exact jobs_0 s15 64 _ rfl _ rfl rfl
  have fr : ∀ r, r ≠ 10 → T r = zUp (zUp (zUp S 9 (rf 64 (S 9) 0)) 11 (rf 64 (S 11) 0)) 16 (upd (S 16) 0 0) r := fun r h => by rw [hT2, find23_o h]
  refine ⟨?_, fun k hk => ⟨?_, ?_, ?_, ?_⟩⟩
  · rw [fr 16 (by decide), zUp_s, pk_us]
  · rw [fr 6 (by decide), zUp_n _ _ (by decide), zUp_n _ _ (by decide), zUp_n _ _ (by decide), hS, zUp_n _ _ (by decide), zUp_n _ _ (by decide), zUp_s]
    exact rf_in hk
  · rw [fr 8 (by decide), zUp_n _ _ (by decide), zUp_n _ _ (by decide), zUp_n _ _ (by decide), hS, zUp_s]
    exact rf_in hk
  · rw [fr 9 (by decide), zUp_n _ _ (by decide), zUp_n _ _ (by decide), zUp_s]
    exact rf_in hk
  · rw [fr 11 (by decide), zUp_n _ _ (by decide), zUp_s]
    exact rf_in hk
theorem going_0 {C : zS} (h : C 16 0 = 0) (x y : Int32) : f_X1_goingBetween C x y = 0 := by
  unfold f_X1_goingBetween
  rw [h]
  rfl
theorem allp_0 {C : zS} (h : C 16 0 = 0) : f_X1_allPlaced C = 0 := by
  unfold f_X1_allPlaced
  rw [h]
  rfl
theorem Rel_0 : Rel C0 M0 := by
  have c0 : C0 0 = fun _ => 0 := rf_zz 64
  have c1 : C0 1 = fun _ => 0 := rf_zz 64
  have h := sv_again (K := fun _ => 0) (L := fun _ => 0) (C := C0) (M := M0) cRd_0 c0 rfl c1 rfl lvOK_0
  obtain ⟨r16, rk⟩ := rows_0 _ rfl
  generalize g_X1_find (g_X5_find C0) = T at h r16 rk
  obtain ⟨⟨-, e2, -, e4, -, e6⟩, s2, s3, s4, s5, s6⟩ := h
  refine ⟨⟨⟨cRd_0, e2, c0, e4, c1, e6⟩, fun k hk => ?_, fun a b ha hb => ?_, ?_, ?_, s6⟩, lvOK_0, rfl, rfl, rfl, rfl, rfl⟩
  · obtain ⟨a6, ⟨a8, b8⟩, a9, a11⟩ := s2 k hk
    obtain ⟨z6, z8, z9, z11⟩ := rk k hk
    have q : ∀ {x : Int32}, rf 64 (fun _ => 0) 0 k = x ↔ 0 = x := fun {x} => by rw [rf_zz]
    refine ⟨q.mpr (z6.symm.trans a6), ⟨q.mpr (z8.symm.trans a8), b8⟩, q.mpr (z9.symm.trans a9), q.mpr (z11.symm.trans a11)⟩
  · rw [← s3 a b ha hb, going_0 r16]
    exact going_0 rfl _ _
  · exact (allp_0 rfl).trans ((allp_0 r16).symm.trans s4)
  · exact (allp_0 rfl).trans ((allp_0 r16).symm.trans s5)
