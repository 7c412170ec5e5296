def f_X7_isIn  (xv : Int32) (xa : Int32) (xb : Int32) : Int32 := if xv < xa then 0 else (if xb < xv then 0 else (1))

def f_X7_isCell  (xi : Int32) : Int32 := f_X7_isIn xi 0 63

def f_X7_isZone (S : zS) (ni : Nat) : Int32 := if (S 0 ni) = 2 then 1 else (if ¬ (S 0 ni) = 3 then 0 else (1))

def f_X7_neighbour  (xa : Int32) (xb : Int32) : Int32 := if ¬ xb = 0 then (if ¬ xb = 1 then (if ¬ xb = 2 then (if ¬ (xa / 8) = 7 then xa + 8 else ((-1))) else (if ¬ (xa - xa / 8 * 8) = 7 then xa + 1 else ((-1)))) else (if ¬ (xa - xa / 8 * 8) = 0 then xa - 1 else ((-1)))) else (if ¬ (xa / 8) = 0 then xa - 8 else ((-1)))

def f_X7_isRoad (S : zS) (xi : Int32) : Int32 := if xi = (-1) then 0 else (if ¬ (S 0 xi.toNatClampNeg) = 1 then 0 else (1))

def f_X7_least  (xa : Int32) (xb : Int32) : Int32 := if xb ≤ xa then xb else (xa)

def f_X7_apart  (xa : Int32) (xb : Int32) : Int32 := if 0 ≤ ((xa / 8) - (xb / 8)) then (if 0 ≤ ((xa - xa / 8 * 8) - (xb - xb / 8 * 8)) then ((xa / 8) - (xb / 8)) + ((xa - xa / 8 * 8) - (xb - xb / 8 * 8)) else (((xa / 8) - (xb / 8)) + (-((xa - xa / 8 * 8) - (xb - xb / 8 * 8))))) else (if 0 ≤ ((xa - xa / 8 * 8) - (xb - xb / 8 * 8)) then (-((xa / 8) - (xb / 8))) + ((xa - xa / 8 * 8) - (xb - xb / 8 * 8)) else ((-((xa / 8) - (xb / 8))) + (-((xa - xa / 8 * 8) - (xb - xb / 8 * 8)))))

def f_X7_costOf  (xk : Int32) : Int32 := if ¬ xk = 1 then (if ¬ xk = 4 then (if ¬ xk = 5 then (if ¬ xk = 6 then 20 else (150)) else (200)) else (30)) else (10)

def f_X7_fails (S : zS) (xw : Int32) : Int32 := if xw ≤ 0 then 0 else (1)
def g_X7_fails (S : zS) (xw : Int32) : zS := if xw ≤ 0 then zUp S 13 (upd (S 13) 5 xw) else (zUp S 13 (upd (S 13) 5 xw))
theorem fr_X7_fails (S : zS) (xw : Int32) (r : Nat) (h13 : r ≠ 13) : g_X7_fails S xw r = S r := by
  unfold g_X7_fails
  (repeat' split) <;> simp [zUp, h13]

def f_X7_letter  (xw : Int32) (xp : Int32) : Int32 := if xp = 0 then (if ¬ xw = 6 then 112 else (119)) else (if xp = 1 then (if ¬ xw = 5 then 97 else (111)) else (if xp = 2 then (if ¬ xw = 4 then (if ¬ xw = 5 then 116 else (119)) else (114)) else (if xp = 3 then (if ¬ xw = 4 then 101 else (107)) else (if xp = 4 then (if ¬ xw = 4 then 114 else (32)) else (32)))))

def f_X7_thrown (S : zS)  : Int32 := S 13 5

def f_X7_cash (S : zS)  : Int32 := upd (S 13) 5 0 0
def g_X7_cash (S : zS)  : zS := zUp S 13 (upd (S 13) 5 0)
theorem fr_X7_cash (S : zS)  (r : Nat) (h13 : r ≠ 13) : g_X7_cash S  r = S r := by
  unfold g_X7_cash
  (repeat' split) <;> simp [zUp, h13]

def f_X7_debt (S : zS)  : Int32 := upd (S 13) 5 0 1
def g_X7_debt (S : zS)  : zS := zUp S 13 (upd (S 13) 5 0)
theorem fr_X7_debt (S : zS)  (r : Nat) (h13 : r ≠ 13) : g_X7_debt S  r = S r := by
  unfold g_X7_debt
  (repeat' split) <;> simp [zUp, h13]

def f_X7_earned (S : zS)  : Int32 := upd (S 13) 5 0 2
def g_X7_earned (S : zS)  : zS := zUp S 13 (upd (S 13) 5 0)
theorem fr_X7_earned (S : zS)  (r : Nat) (h13 : r ≠ 13) : g_X7_earned S  r = S r := by
  unfold g_X7_earned
  (repeat' split) <;> simp [zUp, h13]
