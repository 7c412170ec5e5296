def f_X7_net (S : zS) (xi : Int32) : Int32 := if (f_X7_misses S xi) = 0 then (g_X7_misses S xi) 3 xi.toNatClampNeg else (0)
def g_X7_net (S : zS) (xi : Int32) : zS := if (f_X7_misses S xi) = 0 then (g_X7_misses S xi) else ((g_X7_misses S xi))
theorem fr_X7_net (S : zS) (xi : Int32) (r : Nat) (h10 : r ≠ 10) (h11 : r ≠ 11) (h13 : r ≠ 13) (h2 : r ≠ 2) (h3 : r ≠ 3) (h4 : r ≠ 4) (h5 : r ≠ 5) (h6 : r ≠ 6) (h7 : r ≠ 7) (h8 : r ≠ 8) (h9 : r ≠ 9) : g_X7_net S xi r = S r := by
  unfold g_X7_net
  (repeat' split) <;> simp [zUp, h10, h11, h13, h2, h3, h4, h5, h6, h7, h8, h9, fr_X7_misses]

def f_X7_placed (S : zS) (xi : Int32) : Int32 := if (f_X7_misses S xi) = 0 then (g_X7_misses S xi) 9 xi.toNatClampNeg else (0)
def g_X7_placed (S : zS) (xi : Int32) : zS := if (f_X7_misses S xi) = 0 then (g_X7_misses S xi) else ((g_X7_misses S xi))
theorem fr_X7_placed (S : zS) (xi : Int32) (r : Nat) (h10 : r ≠ 10) (h11 : r ≠ 11) (h13 : r ≠ 13) (h2 : r ≠ 2) (h3 : r ≠ 3) (h4 : r ≠ 4) (h5 : r ≠ 5) (h6 : r ≠ 6) (h7 : r ≠ 7) (h8 : r ≠ 8) (h9 : r ≠ 9) : g_X7_placed S xi r = S r := by
  unfold g_X7_placed
  (repeat' split) <;> simp [zUp, h10, h11, h13, h2, h3, h4, h5, h6, h7, h8, h9, fr_X7_misses]

def f_X7_traffic (S : zS) (xi : Int32) : Int32 := if (f_X7_misses S xi) = 0 then (g_X7_misses S xi) 11 xi.toNatClampNeg else (0)
def g_X7_traffic (S : zS) (xi : Int32) : zS := if (f_X7_misses S xi) = 0 then (g_X7_misses S xi) else ((g_X7_misses S xi))
theorem fr_X7_traffic (S : zS) (xi : Int32) (r : Nat) (h10 : r ≠ 10) (h11 : r ≠ 11) (h13 : r ≠ 13) (h2 : r ≠ 2) (h3 : r ≠ 3) (h4 : r ≠ 4) (h5 : r ≠ 5) (h6 : r ≠ 6) (h7 : r ≠ 7) (h8 : r ≠ 8) (h9 : r ≠ 9) : g_X7_traffic S xi r = S r := by
  unfold g_X7_traffic
  (repeat' split) <;> simp [zUp, h10, h11, h13, h2, h3, h4, h5, h6, h7, h8, h9, fr_X7_misses]

def f_X7_isServed (S : zS) (xi : Int32) : Int32 := if ¬ (f_X7_misses S xi) = 0 then 0 else (if ((g_X7_misses S xi) 8 xi.toNatClampNeg) = 0 then 0 else (1))
def g_X7_isServed (S : zS) (xi : Int32) : zS := if ¬ (f_X7_misses S xi) = 0 then (g_X7_misses S xi) else (if ((g_X7_misses S xi) 8 xi.toNatClampNeg) = 0 then (g_X7_misses S xi) else ((g_X7_misses S xi)))
theorem fr_X7_isServed (S : zS) (xi : Int32) (r : Nat) (h10 : r ≠ 10) (h11 : r ≠ 11) (h13 : r ≠ 13) (h2 : r ≠ 2) (h3 : r ≠ 3) (h4 : r ≠ 4) (h5 : r ≠ 5) (h6 : r ≠ 6) (h7 : r ≠ 7) (h8 : r ≠ 8) (h9 : r ≠ 9) : g_X7_isServed S xi r = S r := by
  unfold g_X7_isServed
  (repeat' split) <;> simp [zUp, h10, h11, h13, h2, h3, h4, h5, h6, h7, h8, h9, fr_X7_misses]

def f_X7_value (S : zS) (xi : Int32) : Int32 := if (f_X7_misses S xi) = 0 then f_X7_valueOf (g_X7_misses S xi) xi.toNatClampNeg else (0)
def g_X7_value (S : zS) (xi : Int32) : zS := if (f_X7_misses S xi) = 0 then (g_X7_misses S xi) else ((g_X7_misses S xi))
theorem fr_X7_value (S : zS) (xi : Int32) (r : Nat) (h10 : r ≠ 10) (h11 : r ≠ 11) (h13 : r ≠ 13) (h2 : r ≠ 2) (h3 : r ≠ 3) (h4 : r ≠ 4) (h5 : r ≠ 5) (h6 : r ≠ 6) (h7 : r ≠ 7) (h8 : r ≠ 8) (h9 : r ≠ 9) : g_X7_value S xi r = S r := by
  unfold g_X7_value
  (repeat' split) <;> simp [zUp, h10, h11, h13, h2, h3, h4, h5, h6, h7, h8, h9, fr_X7_misses]

def f_X7_powerLeft (S : zS) (xi : Int32) : Int32 := if ¬ (f_X7_misses S xi) = 0 then 0 else (if ¬ ((g_X7_misses S xi) 3 xi.toNatClampNeg) = (-1) then (g_X7_misses S xi) 6 ((g_X7_misses S xi) 3 xi.toNatClampNeg).toNatClampNeg else (0))
def g_X7_powerLeft (S : zS) (xi : Int32) : zS := if ¬ (f_X7_misses S xi) = 0 then (g_X7_misses S xi) else (if ¬ ((g_X7_misses S xi) 3 xi.toNatClampNeg) = (-1) then (g_X7_misses S xi) else ((g_X7_misses S xi)))
theorem fr_X7_powerLeft (S : zS) (xi : Int32) (r : Nat) (h10 : r ≠ 10) (h11 : r ≠ 11) (h13 : r ≠ 13) (h2 : r ≠ 2) (h3 : r ≠ 3) (h4 : r ≠ 4) (h5 : r ≠ 5) (h6 : r ≠ 6) (h7 : r ≠ 7) (h8 : r ≠ 8) (h9 : r ≠ 9) : g_X7_powerLeft S xi r = S r := by
  unfold g_X7_powerLeft
  (repeat' split) <;> simp [zUp, h10, h11, h13, h2, h3, h4, h5, h6, h7, h8, h9, fr_X7_misses]

def f_X7_steps (S : zS) (xa : Int32) (xb : Int32) : Int32 := if (f_X7_isCell xa) = 0 then 0 else (if (f_X7_isCell xb) = 0 then 0 else (if ((g_X7_finds (zUp S 13 (upd (S 13) 5 0))) 2 xa.toNatClampNeg) = (-1) then (-1) else (if ¬ ((g_X7_finds (zUp S 13 (upd (S 13) 5 0))) 2 xb.toNatClampNeg) = (-1) then (g_X7_finds (zUp S 13 (upd (S 13) 5 0))) 4 (64 * ((g_X7_finds (zUp S 13 (upd (S 13) 5 0))) 2 xa.toNatClampNeg).toNatClampNeg + ((g_X7_finds (zUp S 13 (upd (S 13) 5 0))) 2 xb.toNatClampNeg).toNatClampNeg) else ((-1)))))
def g_X7_steps (S : zS) (xa : Int32) (xb : Int32) : zS := if (f_X7_isCell xa) = 0 then zUp S 13 (upd (S 13) 5 1) else (if (f_X7_isCell xb) = 0 then zUp S 13 (upd (S 13) 5 1) else (if ((g_X7_finds (zUp S 13 (upd (S 13) 5 0))) 2 xa.toNatClampNeg) = (-1) then (g_X7_finds (zUp S 13 (upd (S 13) 5 0))) else (if ¬ ((g_X7_finds (zUp S 13 (upd (S 13) 5 0))) 2 xb.toNatClampNeg) = (-1) then (g_X7_finds (zUp S 13 (upd (S 13) 5 0))) else ((g_X7_finds (zUp S 13 (upd (S 13) 5 0)))))))
theorem fr_X7_steps (S : zS) (xa : Int32) (xb : Int32) (r : Nat) (h10 : r ≠ 10) (h11 : r ≠ 11) (h13 : r ≠ 13) (h2 : r ≠ 2) (h3 : r ≠ 3) (h4 : r ≠ 4) (h5 : r ≠ 5) (h6 : r ≠ 6) (h7 : r ≠ 7) (h8 : r ≠ 8) (h9 : r ≠ 9) : g_X7_steps S xa xb r = S r := by
  unfold g_X7_steps
  (repeat' split) <;> simp [zUp, h10, h11, h13, h2, h3, h4, h5, h6, h7, h8, h9, fr_X7_finds]

def f_X7_going (S : zS) (xh : Int32) (xt : Int32) : Int32 := if (f_X7_isCell xh) = 0 then 0 else (if (f_X7_isCell xt) = 0 then 0 else ((g_X7_finds (zUp S 13 (upd (S 13) 5 0))) 10 (64 * xh.toNatClampNeg + xt.toNatClampNeg)))
def g_X7_going (S : zS) (xh : Int32) (xt : Int32) : zS := if (f_X7_isCell xh) = 0 then zUp S 13 (upd (S 13) 5 1) else (if (f_X7_isCell xt) = 0 then zUp S 13 (upd (S 13) 5 1) else ((g_X7_finds (zUp S 13 (upd (S 13) 5 0)))))
theorem fr_X7_going (S : zS) (xh : Int32) (xt : Int32) (r : Nat) (h10 : r ≠ 10) (h11 : r ≠ 11) (h13 : r ≠ 13) (h2 : r ≠ 2) (h3 : r ≠ 3) (h4 : r ≠ 4) (h5 : r ≠ 5) (h6 : r ≠ 6) (h7 : r ≠ 7) (h8 : r ≠ 8) (h9 : r ≠ 9) : g_X7_going S xh xt r = S r := by
  unfold g_X7_going
  (repeat' split) <;> simp [zUp, h10, h11, h13, h2, h3, h4, h5, h6, h7, h8, h9, fr_X7_finds]

def f_X7_sign (S : zS) (xi : Int32) (xp : Int32) : Int32 := if (f_X7_isCell xi) = 0 then 32 else (if (f_X7_signOf S xi.toNatClampNeg xp) = 32 then 32 else (f_X7_signOf (zUp S 13 (upd (S 13) 5 0)) xi.toNatClampNeg xp))
def g_X7_sign (S : zS) (xi : Int32) (xp : Int32) : zS := if (f_X7_isCell xi) = 0 then zUp S 13 (upd (S 13) 5 1) else (if (f_X7_signOf S xi.toNatClampNeg xp) = 32 then zUp S 13 (upd (S 13) 5 1) else (zUp S 13 (upd (S 13) 5 0)))
theorem fr_X7_sign (S : zS) (xi : Int32) (xp : Int32) (r : Nat) (h13 : r ≠ 13) : g_X7_sign S xi xp r = S r := by
  unfold g_X7_sign
  (repeat' split) <;> simp [zUp, h13]
