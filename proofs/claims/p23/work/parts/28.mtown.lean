def bd_X7_lives_18 (S : zS) (i : Nat) (sm : Int32) : Int32 := if ¬ (((g_X7_finds S) 0) i) = 2 then (if ¬ (((g_X7_finds S) 0) i) = 3 then (if ¬ (((g_X7_finds S) 0) i) = 1 then (if ¬ (((g_X7_finds S) 0) i) = 4 then (if (((g_X7_finds S) 0) i) = 5 then ((sm + 0) - 10) else (if ¬ (((g_X7_finds S) 0) i) = 6 then ((sm + 0) - 0) else ((sm + 0) - 10))) else ((sm + 0) - 2)) else ((sm + 0) - 1)) else (if ¬ (((g_X7_finds S) 0) i) = 1 then (if ¬ (((g_X7_finds S) 0) i) = 4 then (if (((g_X7_finds S) 0) i) = 5 then ((sm + (((g_X7_finds S) 13 4) * (((g_X7_finds S) 9) i))) - 10) else (if ¬ (((g_X7_finds S) 0) i) = 6 then ((sm + (((g_X7_finds S) 13 4) * (((g_X7_finds S) 9) i))) - 0) else ((sm + (((g_X7_finds S) 13 4) * (((g_X7_finds S) 9) i))) - 10))) else ((sm + (((g_X7_finds S) 13 4) * (((g_X7_finds S) 9) i))) - 2)) else ((sm + (((g_X7_finds S) 13 4) * (((g_X7_finds S) 9) i))) - 1))) else (if ¬ (((g_X7_finds S) 0) i) = 1 then (if ¬ (((g_X7_finds S) 0) i) = 4 then (if (((g_X7_finds S) 0) i) = 5 then ((sm + (((g_X7_finds S) 13 3) * (((g_X7_finds S) 9) i))) - 10) else (if ¬ (((g_X7_finds S) 0) i) = 6 then ((sm + (((g_X7_finds S) 13 3) * (((g_X7_finds S) 9) i))) - 0) else ((sm + (((g_X7_finds S) 13 3) * (((g_X7_finds S) 9) i))) - 10))) else ((sm + (((g_X7_finds S) 13 3) * (((g_X7_finds S) 9) i))) - 2)) else ((sm + (((g_X7_finds S) 13 3) * (((g_X7_finds S) 9) i))) - 1))
def lp_X7_lives_18 (S : zS) (sm0 : Int32) : Nat → Int32
  | 0 => (sm0)
  | q + 1 => bd_X7_lives_18 S q (lp_X7_lives_18 S sm0 q)
def bd_X7_lives_162 (S : zS) (i : Nat) (T162 : zS) : zS := if (f_X7_isZone T162 i) = 0 then (zUp T162 12 (upd (T162 12) i 0)) else (zUp T162 12 (upd (T162 12) i (f_X7_changeOf T162 i)))
def lp_X7_lives_162 (S : zS) (T1620 : zS) : Nat → zS
  | 0 => (T1620)
  | q + 1 => bd_X7_lives_162 S q (lp_X7_lives_162 S T1620 q)
def bd_X7_lives_199 (S : zS) (i : Nat) (T199 : zS) : zS := zUp T199 1 (upd (T199 1) i ((T199 1 i) + (T199 12 i)))
def lp_X7_lives_199 (S : zS) (T1990 : zS) : Nat → zS
  | 0 => (T1990)
  | q + 1 => bd_X7_lives_199 S q (lp_X7_lives_199 S T1990 q)
def g_X7_lives (S : zS)  : zS := (lp_X7_lives_199 S (lp_X7_lives_162 S (zUp (zUp (g_X7_finds S) 13 (upd ((g_X7_finds S) 13) 0 (((g_X7_finds S) 13 0) + (lp_X7_lives_18 S (-((((g_X7_finds S) 13 1) + 99) / 100)) 64)))) 13 (upd (upd ((g_X7_finds S) 13) 0 (((g_X7_finds S) 13 0) + (lp_X7_lives_18 S (-((((g_X7_finds S) 13 1) + 99) / 100)) 64))) 2 ((upd ((g_X7_finds S) 13) 0 (((g_X7_finds S) 13 0) + (lp_X7_lives_18 S (-((((g_X7_finds S) 13 1) + 99) / 100)) 64)) 2) + (lp_X7_lives_18 S (-((((g_X7_finds S) 13 1) + 99) / 100)) 64)))) 64) 64)
theorem fr_bd_X7_lives_199 (S : zS) (i : Nat) (T199 : zS) (r : Nat) (h1 : r ≠ 1) (h10 : r ≠ 10) (h11 : r ≠ 11) (h12 : r ≠ 12) (h13 : r ≠ 13) (h2 : r ≠ 2) (h3 : r ≠ 3) (h4 : r ≠ 4) (h5 : r ≠ 5) (h6 : r ≠ 6) (h7 : r ≠ 7) (h8 : r ≠ 8) (h9 : r ≠ 9) : (bd_X7_lives_199 S i T199) r = T199 r := by
  unfold bd_X7_lives_199
  (repeat' split) <;> simp [zUp, h1, h10, h11, h12, h13, h2, h3, h4, h5, h6, h7, h8, h9, fr_X7_finds]
theorem fr_lp_X7_lives_199 (S : zS) (T1990 : zS) (r : Nat) (h1 : r ≠ 1) (h10 : r ≠ 10) (h11 : r ≠ 11) (h12 : r ≠ 12) (h13 : r ≠ 13) (h2 : r ≠ 2) (h3 : r ≠ 3) (h4 : r ≠ 4) (h5 : r ≠ 5) (h6 : r ≠ 6) (h7 : r ≠ 7) (h8 : r ≠ 8) (h9 : r ≠ 9) : ∀ n, (lp_X7_lives_199 S T1990 n) r = T1990 r
  | 0 => rfl
  | n + 1 => by
    show (bd_X7_lives_199 S n (lp_X7_lives_199 S T1990 n)) r = _
    rw [fr_bd_X7_lives_199 _ _ _ r h1 h10 h11 h12 h13 h2 h3 h4 h5 h6 h7 h8 h9]
    exact fr_lp_X7_lives_199 S T1990 r h1 h10 h11 h12 h13 h2 h3 h4 h5 h6 h7 h8 h9 n
theorem fr_bd_X7_lives_162 (S : zS) (i : Nat) (T162 : zS) (r : Nat) (h1 : r ≠ 1) (h10 : r ≠ 10) (h11 : r ≠ 11) (h12 : r ≠ 12) (h13 : r ≠ 13) (h2 : r ≠ 2) (h3 : r ≠ 3) (h4 : r ≠ 4) (h5 : r ≠ 5) (h6 : r ≠ 6) (h7 : r ≠ 7) (h8 : r ≠ 8) (h9 : r ≠ 9) : (bd_X7_lives_162 S i T162) r = T162 r := by
  unfold bd_X7_lives_162
  (repeat' split) <;> simp [zUp, h1, h10, h11, h12, h13, h2, h3, h4, h5, h6, h7, h8, h9, fr_X7_finds, fr_lp_X7_lives_199]
theorem fr_lp_X7_lives_162 (S : zS) (T1620 : zS) (r : Nat) (h1 : r ≠ 1) (h10 : r ≠ 10) (h11 : r ≠ 11) (h12 : r ≠ 12) (h13 : r ≠ 13) (h2 : r ≠ 2) (h3 : r ≠ 3) (h4 : r ≠ 4) (h5 : r ≠ 5) (h6 : r ≠ 6) (h7 : r ≠ 7) (h8 : r ≠ 8) (h9 : r ≠ 9) : ∀ n, (lp_X7_lives_162 S T1620 n) r = T1620 r
  | 0 => rfl
  | n + 1 => by
    show (bd_X7_lives_162 S n (lp_X7_lives_162 S T1620 n)) r = _
    rw [fr_bd_X7_lives_162 _ _ _ r h1 h10 h11 h12 h13 h2 h3 h4 h5 h6 h7 h8 h9]
    exact fr_lp_X7_lives_162 S T1620 r h1 h10 h11 h12 h13 h2 h3 h4 h5 h6 h7 h8 h9 n
theorem fr_X7_lives (S : zS)  (r : Nat) (h1 : r ≠ 1) (h10 : r ≠ 10) (h11 : r ≠ 11) (h12 : r ≠ 12) (h13 : r ≠ 13) (h2 : r ≠ 2) (h3 : r ≠ 3) (h4 : r ≠ 4) (h5 : r ≠ 5) (h6 : r ≠ 6) (h7 : r ≠ 7) (h8 : r ≠ 8) (h9 : r ≠ 9) : g_X7_lives S  r = S r := by
  unfold g_X7_lives
  (repeat' split) <;> simp [zUp, h1, h10, h11, h12, h13, h2, h3, h4, h5, h6, h7, h8, h9, fr_X7_finds, fr_lp_X7_lives_199, fr_lp_X7_lives_162]

def bd_X7_pass_31 (S : zS) (xm : Int32) (i : Nat) (T31 : zS) : zS := (g_X7_lives T31)
def lp_X7_pass_31 (S : zS) (xm : Int32) (T310 : zS) : Nat → zS
  | 0 => (T310)
  | q + 1 => bd_X7_pass_31 S xm q (lp_X7_pass_31 S xm T310 q)
def f_X7_pass (S : zS) (xm : Int32) : Int32 := if (f_X7_isIn xm 1 12) = 0 then 0 else (((lp_X7_pass_31 S xm (zUp S 13 (upd (S 13) 5 0)) xm.toNatClampNeg) 13 0) - (upd (S 13) 5 0 0))
def g_X7_pass (S : zS) (xm : Int32) : zS := if (f_X7_isIn xm 1 12) = 0 then zUp S 13 (upd (S 13) 5 1) else ((lp_X7_pass_31 S xm (zUp S 13 (upd (S 13) 5 0)) xm.toNatClampNeg))
theorem fr_bd_X7_pass_31 (S : zS) (xm : Int32) (i : Nat) (T31 : zS) (r : Nat) (h1 : r ≠ 1) (h10 : r ≠ 10) (h11 : r ≠ 11) (h12 : r ≠ 12) (h13 : r ≠ 13) (h2 : r ≠ 2) (h3 : r ≠ 3) (h4 : r ≠ 4) (h5 : r ≠ 5) (h6 : r ≠ 6) (h7 : r ≠ 7) (h8 : r ≠ 8) (h9 : r ≠ 9) : (bd_X7_pass_31 S xm i T31) r = T31 r := by
  unfold bd_X7_pass_31
  (repeat' split) <;> simp [zUp, h1, h10, h11, h12, h13, h2, h3, h4, h5, h6, h7, h8, h9, fr_X7_lives]
theorem fr_lp_X7_pass_31 (S : zS) (xm : Int32) (T310 : zS) (r : Nat) (h1 : r ≠ 1) (h10 : r ≠ 10) (h11 : r ≠ 11) (h12 : r ≠ 12) (h13 : r ≠ 13) (h2 : r ≠ 2) (h3 : r ≠ 3) (h4 : r ≠ 4) (h5 : r ≠ 5) (h6 : r ≠ 6) (h7 : r ≠ 7) (h8 : r ≠ 8) (h9 : r ≠ 9) : ∀ n, (lp_X7_pass_31 S xm T310 n) r = T310 r
  | 0 => rfl
  | n + 1 => by
    show (bd_X7_pass_31 S xm n (lp_X7_pass_31 S xm T310 n)) r = _
    rw [fr_bd_X7_pass_31 _ _ _ _ r h1 h10 h11 h12 h13 h2 h3 h4 h5 h6 h7 h8 h9]
    exact fr_lp_X7_pass_31 S xm T310 r h1 h10 h11 h12 h13 h2 h3 h4 h5 h6 h7 h8 h9 n
theorem fr_X7_pass (S : zS) (xm : Int32) (r : Nat) (h1 : r ≠ 1) (h10 : r ≠ 10) (h11 : r ≠ 11) (h12 : r ≠ 12) (h13 : r ≠ 13) (h2 : r ≠ 2) (h3 : r ≠ 3) (h4 : r ≠ 4) (h5 : r ≠ 5) (h6 : r ≠ 6) (h7 : r ≠ 7) (h8 : r ≠ 8) (h9 : r ≠ 9) : g_X7_pass S xm r = S r := by
  unfold g_X7_pass
  (repeat' split) <;> simp [zUp, h1, h10, h11, h12, h13, h2, h3, h4, h5, h6, h7, h8, h9, fr_X7_lives, fr_lp_X7_pass_31]

def f_X7_misses (S : zS) (xi : Int32) : Int32 := if (f_X7_isCell xi) = 0 then (if (f_X7_isCell xi) = 0 then 1 else (0)) else (if (f_X7_isCell xi) = 0 then 1 else (0))
def g_X7_misses (S : zS) (xi : Int32) : zS := if (f_X7_isCell xi) = 0 then (if (f_X7_isCell xi) = 0 then zUp S 13 (upd (S 13) 5 1) else (zUp S 13 (upd (S 13) 5 0))) else (if (f_X7_isCell xi) = 0 then zUp (g_X7_finds S) 13 (upd ((g_X7_finds S) 13) 5 1) else (zUp (g_X7_finds S) 13 (upd ((g_X7_finds S) 13) 5 0)))
theorem fr_X7_misses (S : zS) (xi : Int32) (r : Nat) (h10 : r ≠ 10) (h11 : r ≠ 11) (h13 : r ≠ 13) (h2 : r ≠ 2) (h3 : r ≠ 3) (h4 : r ≠ 4) (h5 : r ≠ 5) (h6 : r ≠ 6) (h7 : r ≠ 7) (h8 : r ≠ 8) (h9 : r ≠ 9) : g_X7_misses S xi r = S r := by
  unfold g_X7_misses
  (repeat' split) <;> simp [zUp, h10, h11, h13, h2, h3, h4, h5, h6, h7, h8, h9, fr_X7_finds]

def f_X7_build (S : zS) (xi : Int32) (xw : Int32) : Int32 := if ¬ (f_X7_isCell xi) = 0 then (if ¬ (f_X7_isIn xw 1 6) = 0 then (if ¬ (S 0 xi.toNatClampNeg) = 0 then 0 else (if (f_X7_costOf xw) ≤ (S 13 0) then upd ((zUp (zUp (zUp S 13 (upd (S 13) 5 0)) 0 (upd (S 0) xi.toNatClampNeg xw)) 1 (upd (S 1) xi.toNatClampNeg 0)) 13) 0 (((zUp (zUp (zUp S 13 (upd (S 13) 5 0)) 0 (upd (S 0) xi.toNatClampNeg xw)) 1 (upd (S 1) xi.toNatClampNeg 0)) 13 0) - (f_X7_costOf xw)) 0 else (0))) else (0)) else (0)
def g_X7_build (S : zS) (xi : Int32) (xw : Int32) : zS := if ¬ (f_X7_isCell xi) = 0 then (if ¬ (f_X7_isIn xw 1 6) = 0 then (if ¬ (S 0 xi.toNatClampNeg) = 0 then zUp S 13 (upd (S 13) 5 3) else (if (f_X7_costOf xw) ≤ (S 13 0) then zUp (zUp (zUp (zUp S 13 (upd (S 13) 5 0)) 0 (upd (S 0) xi.toNatClampNeg xw)) 1 (upd (S 1) xi.toNatClampNeg 0)) 13 (upd ((zUp (zUp (zUp S 13 (upd (S 13) 5 0)) 0 (upd (S 0) xi.toNatClampNeg xw)) 1 (upd (S 1) xi.toNatClampNeg 0)) 13) 0 (((zUp (zUp (zUp S 13 (upd (S 13) 5 0)) 0 (upd (S 0) xi.toNatClampNeg xw)) 1 (upd (S 1) xi.toNatClampNeg 0)) 13 0) - (f_X7_costOf xw))) else (zUp S 13 (upd (S 13) 5 3)))) else (zUp S 13 (upd (S 13) 5 2))) else (zUp S 13 (upd (S 13) 5 1))
theorem fr_X7_build (S : zS) (xi : Int32) (xw : Int32) (r : Nat) (h0 : r ≠ 0) (h1 : r ≠ 1) (h13 : r ≠ 13) : g_X7_build S xi xw r = S r := by
  unfold g_X7_build
  (repeat' split) <;> simp [zUp, h0, h1, h13]

def f_X7_tear (S : zS) (xi : Int32) : Int32 := if ¬ (f_X7_isCell xi) = 0 then (if (S 0 xi.toNatClampNeg) = 0 then 0 else (if 5 ≤ (S 13 0) then S 0 xi.toNatClampNeg else (0))) else (0)
def g_X7_tear (S : zS) (xi : Int32) : zS := if ¬ (f_X7_isCell xi) = 0 then (if (S 0 xi.toNatClampNeg) = 0 then zUp S 13 (upd (S 13) 5 2) else (if 5 ≤ (S 13 0) then zUp (zUp (zUp (zUp S 13 (upd (S 13) 5 0)) 0 (upd (S 0) xi.toNatClampNeg 0)) 1 (upd (S 1) xi.toNatClampNeg 0)) 13 (upd ((zUp (zUp (zUp S 13 (upd (S 13) 5 0)) 0 (upd (S 0) xi.toNatClampNeg 0)) 1 (upd (S 1) xi.toNatClampNeg 0)) 13) 0 (((zUp (zUp (zUp S 13 (upd (S 13) 5 0)) 0 (upd (S 0) xi.toNatClampNeg 0)) 1 (upd (S 1) xi.toNatClampNeg 0)) 13 0) - 5)) else (zUp S 13 (upd (S 13) 5 2)))) else (zUp S 13 (upd (S 13) 5 1))
theorem fr_X7_tear (S : zS) (xi : Int32) (r : Nat) (h0 : r ≠ 0) (h1 : r ≠ 1) (h13 : r ≠ 13) : g_X7_tear S xi r = S r := by
  unfold g_X7_tear
  (repeat' split) <;> simp [zUp, h0, h1, h13]

def f_X7_setTax (S : zS) (xt : Int32) (xv : Int32) : Int32 := if (f_X7_isIn xv 0 20) = 0 then 0 else (if xt = 0 then (if xt = 0 then upd (S 13) 5 0 3 else (upd (S 13) 5 0 3)) else (if xt = 0 then upd (S 13) 5 0 4 else (upd (S 13) 5 0 4)))
def g_X7_setTax (S : zS) (xt : Int32) (xv : Int32) : zS := if (f_X7_isIn xv 0 20) = 0 then zUp S 13 (upd (S 13) 5 1) else (if xt = 0 then (if xt = 0 then zUp (zUp S 13 (upd (S 13) 5 0)) 13 (upd (upd (S 13) 5 0) 3 xv) else (zUp (zUp S 13 (upd (S 13) 5 0)) 13 (upd (upd (S 13) 5 0) 4 xv))) else (if xt = 0 then zUp (zUp S 13 (upd (S 13) 5 0)) 13 (upd (upd (S 13) 5 0) 3 xv) else (zUp (zUp S 13 (upd (S 13) 5 0)) 13 (upd (upd (S 13) 5 0) 4 xv))))
theorem fr_X7_setTax (S : zS) (xt : Int32) (xv : Int32) (r : Nat) (h13 : r ≠ 13) : g_X7_setTax S xt xv r = S r := by
  unfold g_X7_setTax
  (repeat' split) <;> simp [zUp, h13]

def f_X7_borrow (S : zS) (xa : Int32) : Int32 := if ¬ (f_X7_isIn xa 1 1000) = 0 then (if ((S 13 1) + xa) ≤ 5000 then (zUp (zUp (zUp S 13 (upd (S 13) 5 0)) 13 (upd (upd (S 13) 5 0) 1 ((upd (S 13) 5 0 1) + xa))) 13 (upd (upd (upd (S 13) 5 0) 1 ((upd (S 13) 5 0 1) + xa)) 0 ((upd (upd (S 13) 5 0) 1 ((upd (S 13) 5 0 1) + xa) 0) + xa))) 13 1 else (0)) else (0)
def g_X7_borrow (S : zS) (xa : Int32) : zS := if ¬ (f_X7_isIn xa 1 1000) = 0 then (if ((S 13 1) + xa) ≤ 5000 then (zUp (zUp (zUp S 13 (upd (S 13) 5 0)) 13 (upd (upd (S 13) 5 0) 1 ((upd (S 13) 5 0 1) + xa))) 13 (upd (upd (upd (S 13) 5 0) 1 ((upd (S 13) 5 0 1) + xa)) 0 ((upd (upd (S 13) 5 0) 1 ((upd (S 13) 5 0 1) + xa) 0) + xa))) else (zUp S 13 (upd (S 13) 5 2))) else (zUp S 13 (upd (S 13) 5 1))
theorem fr_X7_borrow (S : zS) (xa : Int32) (r : Nat) (h13 : r ≠ 13) : g_X7_borrow S xa r = S r := by
  unfold g_X7_borrow
  (repeat' split) <;> simp [zUp, h13]

def f_X7_repay (S : zS) (xa : Int32) : Int32 := if ¬ (f_X7_isIn xa 1 5000) = 0 then (if (S 13 1) < xa then 0 else (if xa ≤ (S 13 0) then (zUp (zUp (zUp S 13 (upd (S 13) 5 0)) 13 (upd (upd (S 13) 5 0) 1 ((upd (S 13) 5 0 1) - xa))) 13 (upd (upd (upd (S 13) 5 0) 1 ((upd (S 13) 5 0 1) - xa)) 0 ((upd (upd (S 13) 5 0) 1 ((upd (S 13) 5 0 1) - xa) 0) - xa))) 13 1 else (0))) else (0)
def g_X7_repay (S : zS) (xa : Int32) : zS := if ¬ (f_X7_isIn xa 1 5000) = 0 then (if (S 13 1) < xa then zUp S 13 (upd (S 13) 5 2) else (if xa ≤ (S 13 0) then (zUp (zUp (zUp S 13 (upd (S 13) 5 0)) 13 (upd (upd (S 13) 5 0) 1 ((upd (S 13) 5 0 1) - xa))) 13 (upd (upd (upd (S 13) 5 0) 1 ((upd (S 13) 5 0 1) - xa)) 0 ((upd (upd (S 13) 5 0) 1 ((upd (S 13) 5 0 1) - xa) 0) - xa))) else (zUp S 13 (upd (S 13) 5 2)))) else (zUp S 13 (upd (S 13) 5 1))
theorem fr_X7_repay (S : zS) (xa : Int32) (r : Nat) (h13 : r ≠ 13) : g_X7_repay S xa r = S r := by
  unfold g_X7_repay
  (repeat' split) <;> simp [zUp, h13]

def f_X7_kind (S : zS) (xi : Int32) : Int32 := if (f_X7_isCell xi) = 0 then 0 else (S 0 xi.toNatClampNeg)
def g_X7_kind (S : zS) (xi : Int32) : zS := if (f_X7_isCell xi) = 0 then zUp S 13 (upd (S 13) 5 1) else (zUp S 13 (upd (S 13) 5 0))
theorem fr_X7_kind (S : zS) (xi : Int32) (r : Nat) (h13 : r ≠ 13) : g_X7_kind S xi r = S r := by
  unfold g_X7_kind
  (repeat' split) <;> simp [zUp, h13]

def f_X7_level (S : zS) (xi : Int32) : Int32 := if (f_X7_isCell xi) = 0 then 0 else (S 1 xi.toNatClampNeg)
def g_X7_level (S : zS) (xi : Int32) : zS := if (f_X7_isCell xi) = 0 then zUp S 13 (upd (S 13) 5 1) else (zUp S 13 (upd (S 13) 5 0))
theorem fr_X7_level (S : zS) (xi : Int32) (r : Nat) (h13 : r ≠ 13) : g_X7_level S xi r = S r := by
  unfold g_X7_level
  (repeat' split) <;> simp [zUp, h13]

def f_X7_signOf (S : zS) (ni : Nat) (xp : Int32) : Int32 := if (S 0 ni) = 0 then (if xp = 0 then (if ¬ (S 0 ni) = 1 then 46 else (35)) else (32)) else (if ¬ (S 0 ni) = 1 then (if (S 0 ni) = 2 then (if ¬ xp = 0 then (if ¬ xp = 1 then 32 else (((48 + (S 1 ni)).toUInt32 % 65536).toInt32)) else (if ¬ (S 0 ni) = 2 then 84 else (72))) else (if ¬ (S 0 ni) = 3 then f_X7_letter (S 0 ni) xp else (if ¬ xp = 0 then (if ¬ xp = 1 then 32 else (((48 + (S 1 ni)).toUInt32 % 65536).toInt32)) else (if ¬ (S 0 ni) = 2 then 84 else (72))))) else (if xp = 0 then (if ¬ (S 0 ni) = 1 then 46 else (35)) else (32)))
