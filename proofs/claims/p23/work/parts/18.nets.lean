def lp_X7_findsNets_36 (S : zS) (i : Nat) (T2 : zS) : Nat → Nat → zS → zS
  | 0, j, T36 => T36
  | q + 1, j, T36 => if (T36 0 i) = 1 then (T36) else (if (f_X7_isRoad T36 (f_X7_neighbour (nI i) (nI (3 - j)))) = 0 then (lp_X7_findsNets_36 S i T2 q (j + 1) (zUp T36 2 (upd (T36 2) i (T36 2 i)))) else (lp_X7_findsNets_36 S i T2 q (j + 1) (zUp T36 2 (upd (T36 2) i (f_X7_neighbour (nI i) (nI (3 - j)))))))
def bd_X7_findsNets_2 (S : zS) (i : Nat) (T2 : zS) : zS := if ¬ (((g_X7_walks T2 i) 0) i) = 1 then ((lp_X7_findsNets_36 S i T2 4 0 (zUp (g_X7_walks T2 i) 2 (upd ((g_X7_walks T2 i) 2) i (-1))))) else ((lp_X7_findsNets_36 S i T2 4 0 (zUp (g_X7_walks T2 i) 2 (upd ((g_X7_walks T2 i) 2) i (nI i)))))
def lp_X7_findsNets_2 (S : zS) (T20 : zS) : Nat → zS
  | 0 => (T20)
  | q + 1 => bd_X7_findsNets_2 S q (lp_X7_findsNets_2 S T20 q)
def lp_X7_findsNets_112 (S : zS) (i : Nat) (T96 : zS) : Nat → Nat → zS → zS
  | 0, j, T112 => T112
  | q + 1, j, T112 => if (T112 2 i) = (-1) then (T112) else (if ¬ (T112 4 (64 * (T112 2 i).toNatClampNeg + (63 - j))) = (-1) then (lp_X7_findsNets_112 S i T96 q (j + 1) (zUp T112 3 (upd (T112 3) i (nI (63 - j))))) else (lp_X7_findsNets_112 S i T96 q (j + 1) (zUp T112 3 (upd (T112 3) i (T112 3 i)))))
def bd_X7_findsNets_96 (S : zS) (i : Nat) (T96 : zS) : zS := (lp_X7_findsNets_112 S i T96 64 0 (zUp T96 3 (upd (T96 3) i (-1))))
def lp_X7_findsNets_96 (S : zS) (T960 : zS) : Nat → zS
  | 0 => (T960)
  | q + 1 => bd_X7_findsNets_96 S q (lp_X7_findsNets_96 S T960 q)
def g_X7_findsNets (S : zS)  : zS := (lp_X7_findsNets_96 S (lp_X7_findsNets_2 S S 64) 64)
theorem fr_lp_X7_findsNets_112 (S : zS) (i : Nat) (T96 : zS) (r : Nat) (h2 : r ≠ 2) (h3 : r ≠ 3) (h4 : r ≠ 4) (h5 : r ≠ 5) : ∀ (q j : Nat) (T112 : zS), (lp_X7_findsNets_112 S i T96 q j T112) r = T112 r := by
  intro q
  induction q with
  | zero => intros; rfl
  | succ q ih =>
    intro j T112
    rw [lp_X7_findsNets_112]
    (repeat' split) <;> simp [ih, zUp, h2, h3, h4, h5, fr_X7_walks]
theorem fr_bd_X7_findsNets_96 (S : zS) (i : Nat) (T96 : zS) (r : Nat) (h2 : r ≠ 2) (h3 : r ≠ 3) (h4 : r ≠ 4) (h5 : r ≠ 5) : (bd_X7_findsNets_96 S i T96) r = T96 r := by
  unfold bd_X7_findsNets_96
  (repeat' split) <;> simp [zUp, h2, h3, h4, h5, fr_X7_walks, fr_lp_X7_findsNets_112]
theorem fr_lp_X7_findsNets_96 (S : zS) (T960 : zS) (r : Nat) (h2 : r ≠ 2) (h3 : r ≠ 3) (h4 : r ≠ 4) (h5 : r ≠ 5) : ∀ n, (lp_X7_findsNets_96 S T960 n) r = T960 r
  | 0 => rfl
  | n + 1 => by
    show (bd_X7_findsNets_96 S n (lp_X7_findsNets_96 S T960 n)) r = _
    rw [fr_bd_X7_findsNets_96 _ _ _ r h2 h3 h4 h5]
    exact fr_lp_X7_findsNets_96 S T960 r h2 h3 h4 h5 n
theorem fr_lp_X7_findsNets_36 (S : zS) (i : Nat) (T2 : zS) (r : Nat) (h2 : r ≠ 2) (h3 : r ≠ 3) (h4 : r ≠ 4) (h5 : r ≠ 5) : ∀ (q j : Nat) (T36 : zS), (lp_X7_findsNets_36 S i T2 q j T36) r = T36 r := by
  intro q
  induction q with
  | zero => intros; rfl
  | succ q ih =>
    intro j T36
    rw [lp_X7_findsNets_36]
    (repeat' split) <;> simp [ih, zUp, h2, h3, h4, h5, fr_X7_walks, fr_lp_X7_findsNets_112, fr_lp_X7_findsNets_96]
theorem fr_bd_X7_findsNets_2 (S : zS) (i : Nat) (T2 : zS) (r : Nat) (h2 : r ≠ 2) (h3 : r ≠ 3) (h4 : r ≠ 4) (h5 : r ≠ 5) : (bd_X7_findsNets_2 S i T2) r = T2 r := by
  unfold bd_X7_findsNets_2
  (repeat' split) <;> simp [zUp, h2, h3, h4, h5, fr_X7_walks, fr_lp_X7_findsNets_112, fr_lp_X7_findsNets_96, fr_lp_X7_findsNets_36]
theorem fr_lp_X7_findsNets_2 (S : zS) (T20 : zS) (r : Nat) (h2 : r ≠ 2) (h3 : r ≠ 3) (h4 : r ≠ 4) (h5 : r ≠ 5) : ∀ n, (lp_X7_findsNets_2 S T20 n) r = T20 r
  | 0 => rfl
  | n + 1 => by
    show (bd_X7_findsNets_2 S n (lp_X7_findsNets_2 S T20 n)) r = _
    rw [fr_bd_X7_findsNets_2 _ _ _ r h2 h3 h4 h5]
    exact fr_lp_X7_findsNets_2 S T20 r h2 h3 h4 h5 n
theorem fr_X7_findsNets (S : zS)  (r : Nat) (h2 : r ≠ 2) (h3 : r ≠ 3) (h4 : r ≠ 4) (h5 : r ≠ 5) : g_X7_findsNets S  r = S r := by
  unfold g_X7_findsNets
  (repeat' split) <;> simp [zUp, h2, h3, h4, h5, fr_X7_walks, fr_lp_X7_findsNets_112, fr_lp_X7_findsNets_96, fr_lp_X7_findsNets_36, fr_lp_X7_findsNets_2]
