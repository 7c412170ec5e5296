def bd_X7_walks_7 (S : zS) (nf : Nat) (i : Nat) (T7 : zS) : zS := zUp T7 4 (upd (T7 4) (64 * nf + i) (-1))
def lp_X7_walks_7 (S : zS) (nf : Nat) (T70 : zS) : Nat → zS
  | 0 => (T70)
  | q + 1 => bd_X7_walks_7 S nf q (lp_X7_walks_7 S nf T70 q)
def bd_X7_walks_82 (S : zS) (nf : Nat) (i : Nat) (nq : Nat) (T62 : zS) (j : Nat) (mq : Nat) (T82 : zS) : Nat × zS := if (f_X7_isRoad T82 (f_X7_neighbour (T62 5 i) (nI j))) = 0 then ((mq, T82)) else (if ¬ (T82 4 (64 * nf + (f_X7_neighbour (T62 5 i) (nI j)).toNatClampNeg)) = (-1) then ((mq, T82)) else ((mq + 1, zUp (zUp T82 4 (upd (T82 4) (64 * nf + (f_X7_neighbour (T62 5 i) (nI j)).toNatClampNeg) ((T82 4 (64 * nf + (T62 5 i).toNatClampNeg)) + 1))) 5 (upd (T82 5) mq (f_X7_neighbour (T62 5 i) (nI j))))))
def lp_X7_walks_82 (S : zS) (nf : Nat) (i : Nat) (nq : Nat) (T62 : zS) (mq0 : Nat) (T820 : zS) : Nat → Nat × zS
  | 0 => (mq0, T820)
  | q + 1 => bd_X7_walks_82 S nf i nq T62 q (lp_X7_walks_82 S nf i nq T62 mq0 T820 q).1 (lp_X7_walks_82 S nf i nq T62 mq0 T820 q).2
def lp_X7_walks_62 (S : zS) (nf : Nat) : Nat → Nat → Nat → zS → Nat × zS
  | 0, i, nq, T62 => (nq, T62)
  | q + 1, i, nq, T62 => if (nI nq) ≤ (nI i) then ((nq, T62)) else (lp_X7_walks_62 S nf q (i + 1) ((lp_X7_walks_82 S nf i nq T62 nq T62 4).1) ((lp_X7_walks_82 S nf i nq T62 nq T62 4).2))
def g_X7_walks (S : zS) (nf : Nat) : zS := if ¬ ((lp_X7_walks_7 S nf S 64) 0 nf) = 1 then ((lp_X7_walks_62 S nf 64 0 0 (lp_X7_walks_7 S nf S 64)).2) else (((lp_X7_walks_62 S nf 64 0 1 (zUp (zUp (lp_X7_walks_7 S nf S 64) 4 (upd ((lp_X7_walks_7 S nf S 64) 4) (64 * nf + nf) 0)) 5 (upd ((lp_X7_walks_7 S nf S 64) 5) 0 (nI nf)))).2))
theorem fr_bd_X7_walks_82 (S : zS) (nf : Nat) (i : Nat) (nq : Nat) (T62 : zS) (j : Nat) (mq : Nat) (T82 : zS) (r : Nat) (h4 : r ≠ 4) (h5 : r ≠ 5) : (bd_X7_walks_82 S nf i nq T62 j mq T82).2 r = T82 r := by
  unfold bd_X7_walks_82
  (repeat' split) <;> simp [zUp, h4, h5]
theorem fr_lp_X7_walks_82 (S : zS) (nf : Nat) (i : Nat) (nq : Nat) (T62 : zS) (mq0 : Nat) (T820 : zS) (r : Nat) (h4 : r ≠ 4) (h5 : r ≠ 5) : ∀ n, (lp_X7_walks_82 S nf i nq T62 mq0 T820 n).2 r = T820 r
  | 0 => rfl
  | n + 1 => by
    show (bd_X7_walks_82 S nf i nq T62 n (lp_X7_walks_82 S nf i nq T62 mq0 T820 n).1 (lp_X7_walks_82 S nf i nq T62 mq0 T820 n).2).2 r = _
    rw [fr_bd_X7_walks_82 _ _ _ _ _ _ _ _ r h4 h5]
    exact fr_lp_X7_walks_82 S nf i nq T62 mq0 T820 r h4 h5 n
theorem fr_lp_X7_walks_62 (S : zS) (nf : Nat) (r : Nat) (h4 : r ≠ 4) (h5 : r ≠ 5) : ∀ (q i : Nat) (nq : Nat) (T62 : zS), (lp_X7_walks_62 S nf q i nq T62).2 r = T62 r := by
  intro q
  induction q with
  | zero => intros; rfl
  | succ q ih =>
    intro i nq T62
    rw [lp_X7_walks_62]
    (repeat' split) <;> simp [ih, zUp, h4, h5, fr_lp_X7_walks_82]
theorem fr_bd_X7_walks_7 (S : zS) (nf : Nat) (i : Nat) (T7 : zS) (r : Nat) (h4 : r ≠ 4) (h5 : r ≠ 5) : (bd_X7_walks_7 S nf i T7) r = T7 r := by
  unfold bd_X7_walks_7
  (repeat' split) <;> simp [zUp, h4, h5, fr_lp_X7_walks_82, fr_lp_X7_walks_62]
theorem fr_lp_X7_walks_7 (S : zS) (nf : Nat) (T70 : zS) (r : Nat) (h4 : r ≠ 4) (h5 : r ≠ 5) : ∀ n, (lp_X7_walks_7 S nf T70 n) r = T70 r
  | 0 => rfl
  | n + 1 => by
    show (bd_X7_walks_7 S nf n (lp_X7_walks_7 S nf T70 n)) r = _
    rw [fr_bd_X7_walks_7 _ _ _ _ r h4 h5]
    exact fr_lp_X7_walks_7 S nf T70 r h4 h5 n
theorem fr_X7_walks (S : zS) (nf : Nat) (r : Nat) (h4 : r ≠ 4) (h5 : r ≠ 5) : g_X7_walks S nf r = S r := by
  unfold g_X7_walks
  (repeat' split) <;> simp [zUp, h4, h5, fr_lp_X7_walks_82, fr_lp_X7_walks_62, fr_lp_X7_walks_7]
