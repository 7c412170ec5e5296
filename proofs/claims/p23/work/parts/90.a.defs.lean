/-! THE LAW'S LOOPS as functions -/
def f_L_areBeside (xa : Int32) (xb : Int32) : Int32 := if ((if xb ≤ xa then xa else xb : Int32) - (if xb ≤ xa then xb else xa : Int32)) = 8 then 1 else (if ¬ ((if xb ≤ xa then xa else xb : Int32) - (if xb ≤ xa then xb else xa : Int32)) = 1 then 0 else (if ¬ ((if xb ≤ xa then xb else xa : Int32) / 8) = ((if xb ≤ xa then xa else xb : Int32) / 8) then 0 else (1)))

def f_L_costOf (xk : Int32) : Int32 := if ¬ xk = 1 then (if 4 ≤ xk then (if ¬ xk = 4 then (if ¬ xk = 5 then 150 else (200)) else (30)) else (20)) else (10)

def lp_L_road_16 (S : zS) (F : zS) (nc : Nat) : Nat → Nat → Int32 → Int32
  | 0, i, ro => ro
  | q + 1, i, ro => if (S 20 nc) = 1 then (ro) else (lp_L_road_16 S F nc q (i + 1) (if ¬ (S 20 (63 - i)) = 1 then ro else (if (f_L_areBeside (nI (63 - i)) (nI nc)) = 0 then ro else (nI (63 - i))) : Int32))

def bd_L_isNet_176 (S : zS) (F : zS) (nc : Nat) (no : Nat) (w : Nat) (u : Nat) (i : Nat) (near : Int32) : Int32 := if ¬ (S 20 i) = 1 then (near) else (if (f_L_areBeside (nI i) (nI w)) = 0 then (near) else (if 0 ≤ (mBet F nc no) then (near + (if ¬ (mBet F i no) = ((mBet F nc no) - 1) then 0 else 1 : Int32)) else (near + (if ¬ (mBet F i no) = ((mBet F nc no) - 1) then 0 else 1 : Int32))))
def lp_L_isNet_176 (S : zS) (F : zS) (nc : Nat) (no : Nat) (w : Nat) (u : Nat) (near0 : Int32) : Nat → Int32
  | 0 => (near0)
  | q + 1 => bd_L_isNet_176 S F nc no w u q (lp_L_isNet_176 S F nc no w u near0 q)

def bd_L_isSupplied_19 (S : zS) (F : zS) (nc : Nat) (u : Nat) (i : Nat) (pw : Int32) (wa : Int32) : Int32 × Int32 := (pw + (if (if (S 20 i) ≤ 4 then 0 else (if ¬ (F 3 i) = (nI u) then 0 else 1) : Int32) = 0 then 0 else (if ¬ (S 20 i) = 5 then 0 else 20) : Int32), wa + (if (if (S 20 i) ≤ 4 then 0 else (if ¬ (F 3 i) = (nI u) then 0 else 1) : Int32) = 0 then 0 else (if ¬ (S 20 i) = 6 then 0 else 20) : Int32))
def lp_L_isSupplied_19 (S : zS) (F : zS) (nc : Nat) (u : Nat) (pw0 : Int32) (wa0 : Int32) : Nat → Int32 × Int32
  | 0 => (pw0, wa0)
  | q + 1 => bd_L_isSupplied_19 S F nc u q (lp_L_isSupplied_19 S F nc u pw0 wa0 q).1 (lp_L_isSupplied_19 S F nc u pw0 wa0 q).2
def bd_L_isSupplied_115 (S : zS) (F : zS) (nc : Nat) (u : Nat) (i : Nat) (p2 : Int32) (w2 : Int32) : Int32 × Int32 := if (S 20 i) = 2 then (if ¬ (F 3 i) = (nI u) then ((p2, w2)) else ((p2 - (if (if p2 < (if ¬ (S 21 i) = 0 then (S 21 i) else 1 : Int32) then 0 else (if w2 < (if ¬ (S 21 i) = 0 then (S 21 i) else 1 : Int32) then 0 else 1) : Int32) = 0 then 0 else (if ¬ (S 21 i) = 0 then (S 21 i) else 1 : Int32) : Int32), w2 - (if (if p2 < (if ¬ (S 21 i) = 0 then (S 21 i) else 1 : Int32) then 0 else (if w2 < (if ¬ (S 21 i) = 0 then (S 21 i) else 1 : Int32) then 0 else 1) : Int32) = 0 then 0 else (if ¬ (S 21 i) = 0 then (S 21 i) else 1 : Int32) : Int32)))) else (if ¬ (S 20 i) = 3 then ((p2, w2)) else (if ¬ (F 3 i) = (nI u) then ((p2, w2)) else ((p2 - (if (if p2 < (if ¬ (S 21 i) = 0 then (S 21 i) else 1 : Int32) then 0 else (if w2 < (if ¬ (S 21 i) = 0 then (S 21 i) else 1 : Int32) then 0 else 1) : Int32) = 0 then 0 else (if ¬ (S 21 i) = 0 then (S 21 i) else 1 : Int32) : Int32), w2 - (if (if p2 < (if ¬ (S 21 i) = 0 then (S 21 i) else 1 : Int32) then 0 else (if w2 < (if ¬ (S 21 i) = 0 then (S 21 i) else 1 : Int32) then 0 else 1) : Int32) = 0 then 0 else (if ¬ (S 21 i) = 0 then (S 21 i) else 1 : Int32) : Int32)))))
def lp_L_isSupplied_115 (S : zS) (F : zS) (nc : Nat) (u : Nat) (p20 : Int32) (w20 : Int32) : Nat → Int32 × Int32
  | 0 => (p20, w20)
  | q + 1 => bd_L_isSupplied_115 S F nc u q (lp_L_isSupplied_115 S F nc u p20 w20 q).1 (lp_L_isSupplied_115 S F nc u p20 w20 q).2

def bd_L_isCell_7 (S : zS) (F : zS) (nc : Nat) (i : Nat) (va : Int32) : Int32 := va + (if ((if ((nI i) / 8) ≤ ((nI nc) / 8) then (((nI nc) / 8) - ((nI i) / 8)) else (((nI i) / 8) - ((nI nc) / 8)) : Int32) + (if ((nI i) - (nI i) / 8 * 8) ≤ ((nI nc) - (nI nc) / 8 * 8) then (((nI nc) - (nI nc) / 8 * 8) - ((nI i) - (nI i) / 8 * 8)) else (((nI i) - (nI i) / 8 * 8) - ((nI nc) - (nI nc) / 8 * 8)) : Int32)) ≤ 2 then (if ¬ (S 20 i) = 4 then (if ¬ (S 20 i) = 5 then 0 else (-10)) else 5) else 0 : Int32)
def lp_L_isCell_7 (S : zS) (F : zS) (nc : Nat) (va0 : Int32) : Nat → Int32
  | 0 => (va0)
  | q + 1 => bd_L_isCell_7 S F nc q (lp_L_isCell_7 S F nc va0 q)
def bd_L_isCell_178 (S : zS) (F : zS) (nc : Nat) (i : Nat) (go : Int32) : Int32 := go + (if ¬ (S 20 nc) = 2 then (if ¬ (S 20 nc) = 3 then 0 else (if ¬ (S 20 i) = 2 then 0 else (F 10 (64 * i + nc)))) else (if ¬ (S 20 i) = 3 then (if ¬ (S 20 nc) = 3 then 0 else (if ¬ (S 20 i) = 2 then 0 else (F 10 (64 * i + nc)))) else (F 10 (64 * nc + i))) : Int32)
def lp_L_isCell_178 (S : zS) (F : zS) (nc : Nat) (go0 : Int32) : Nat → Int32
  | 0 => (go0)
  | q + 1 => bd_L_isCell_178 S F nc q (lp_L_isCell_178 S F nc go0 q)
