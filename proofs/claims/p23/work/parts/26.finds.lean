def g_X7_finds (S : zS)  : zS := g_X7_works (g_X7_supplies (g_X7_findsNets S))
theorem fr_X7_finds (S : zS)  (r : Nat) (h10 : r ≠ 10) (h11 : r ≠ 11) (h2 : r ≠ 2) (h3 : r ≠ 3) (h4 : r ≠ 4) (h5 : r ≠ 5) (h6 : r ≠ 6) (h7 : r ≠ 7) (h8 : r ≠ 8) (h9 : r ≠ 9) : g_X7_finds S  r = S r := by
  unfold g_X7_finds
  (repeat' split) <;> simp [zUp, h10, h11, h2, h3, h4, h5, h6, h7, h8, h9, fr_X7_findsNets, fr_X7_supplies, fr_X7_works]

def bd_X7_valueOf_5 (S : zS) (ni : Nat) (i : Nat) (sm : Int32) : Int32 := if 2 < (f_X7_apart (nI ni) (nI i)) then ((sm + 0) - 0) else (if ¬ (S 0 i) = 4 then (if ¬ (S 0 i) = 5 then ((sm + 0) - 0) else ((sm + 0) - 10)) else (if ¬ (S 0 i) = 5 then ((sm + 5) - 0) else ((sm + 5) - 10)))
def lp_X7_valueOf_5 (S : zS) (ni : Nat) (sm0 : Int32) : Nat → Int32
  | 0 => (sm0)
  | q + 1 => bd_X7_valueOf_5 S ni q (lp_X7_valueOf_5 S ni sm0 q)
def f_X7_valueOf (S : zS) (ni : Nat) : Int32 := if (S 0 ni) = 1 then (if 0 ≤ ((lp_X7_valueOf_5 S ni 10 64) - 0) then (lp_X7_valueOf_5 S ni 10 64) - 0 else (0)) else (if (S 2 ni) = (-1) then (if 0 ≤ ((lp_X7_valueOf_5 S ni 10 64) - 0) then (lp_X7_valueOf_5 S ni 10 64) - 0 else (0)) else (if 0 ≤ ((lp_X7_valueOf_5 S ni 10 64) - (S 11 (S 2 ni).toNatClampNeg)) then (lp_X7_valueOf_5 S ni 10 64) - (S 11 (S 2 ni).toNatClampNeg) else (0)))

def f_X7_changeOf (S : zS) (ni : Nat) : Int32 := if ¬ (S 8 ni) = 0 then (if ¬ (S 0 ni) = 2 then (if (S 1 ni) ≤ 0 then (if (S 13 0) < 0 then 0 else (if 3 ≤ (S 1 ni) then 0 else (if (f_X7_valueOf S ni) < (5 * ((S 1 ni) + 1)) then 0 else (if ¬ (S 9 ni) = (2 * (S 1 ni)) then 0 else (1))))) else (if ¬ (S 9 ni) = 0 then (if (S 13 0) < 0 then 0 else (if 3 ≤ (S 1 ni) then 0 else (if (f_X7_valueOf S ni) < (5 * ((S 1 ni) + 1)) then 0 else (if ¬ (S 9 ni) = (2 * (S 1 ni)) then 0 else (1))))) else ((-1)))) else (if (2 * ((2 * (S 1 ni)) - (S 9 ni))) ≤ (2 * (S 1 ni)) then (if (S 13 0) < 0 then 0 else (if 3 ≤ (S 1 ni) then 0 else (if (f_X7_valueOf S ni) < (5 * ((S 1 ni) + 1)) then 0 else (if ¬ (S 9 ni) = (2 * (S 1 ni)) then 0 else (1))))) else ((-1)))) else (if (S 1 ni) ≤ 0 then 0 else ((-1)))
