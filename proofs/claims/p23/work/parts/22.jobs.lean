def bd_X7_supplies_2 (S : zS) (i : Nat) (T2 : zS) : zS := zUp (zUp T2 6 (upd (T2 6) i 0)) 7 (upd (T2 7) i 0)
def lp_X7_supplies_2 (S : zS) (T20 : zS) : Nat → zS
  | 0 => (T20)
  | q + 1 => bd_X7_supplies_2 S q (lp_X7_supplies_2 S T20 q)
def bd_X7_supplies_30 (S : zS) (i : Nat) (T30 : zS) : zS := if (T30 3 i) = (-1) then (T30) else (if ¬ (T30 0 i) = 5 then (if ¬ (T30 0 i) = 6 then (zUp (zUp T30 6 (upd (T30 6) (T30 3 i).toNatClampNeg ((T30 6 (T30 3 i).toNatClampNeg) + 0))) 7 (upd (T30 7) (T30 3 i).toNatClampNeg ((T30 7 (T30 3 i).toNatClampNeg) + 0))) else (zUp (zUp T30 6 (upd (T30 6) (T30 3 i).toNatClampNeg ((T30 6 (T30 3 i).toNatClampNeg) + 0))) 7 (upd (T30 7) (T30 3 i).toNatClampNeg ((T30 7 (T30 3 i).toNatClampNeg) + 20)))) else (if ¬ (T30 0 i) = 6 then (zUp (zUp T30 6 (upd (T30 6) (T30 3 i).toNatClampNeg ((T30 6 (T30 3 i).toNatClampNeg) + 20))) 7 (upd (T30 7) (T30 3 i).toNatClampNeg ((T30 7 (T30 3 i).toNatClampNeg) + 0))) else (zUp (zUp T30 6 (upd (T30 6) (T30 3 i).toNatClampNeg ((T30 6 (T30 3 i).toNatClampNeg) + 20))) 7 (upd (T30 7) (T30 3 i).toNatClampNeg ((T30 7 (T30 3 i).toNatClampNeg) + 20)))))
def lp_X7_supplies_30 (S : zS) (T300 : zS) : Nat → zS
  | 0 => (T300)
  | q + 1 => bd_X7_supplies_30 S q (lp_X7_supplies_30 S T300 q)
def bd_X7_supplies_115 (S : zS) (i : Nat) (T115 : zS) : zS := if ¬ (T115 1 i) = 0 then (if (f_X7_isZone T115 i) = 0 then (zUp T115 8 (upd (T115 8) i 0)) else (if (T115 3 i) = (-1) then (zUp T115 8 (upd (T115 8) i 0)) else (if (T115 6 (T115 3 i).toNatClampNeg) < (T115 1 i) then (zUp T115 8 (upd (T115 8) i 0)) else (if (T115 7 (T115 3 i).toNatClampNeg) < (T115 1 i) then (zUp T115 8 (upd (T115 8) i 0)) else (zUp (zUp (zUp T115 8 (upd (T115 8) i 1)) 6 (upd (T115 6) (T115 3 i).toNatClampNeg ((T115 6 (T115 3 i).toNatClampNeg) - (T115 1 i)))) 7 (upd (T115 7) (T115 3 i).toNatClampNeg ((T115 7 (T115 3 i).toNatClampNeg) - (T115 1 i)))))))) else (if (f_X7_isZone T115 i) = 0 then (zUp T115 8 (upd (T115 8) i 0)) else (if (T115 3 i) = (-1) then (zUp T115 8 (upd (T115 8) i 0)) else (if (T115 6 (T115 3 i).toNatClampNeg) < 1 then (zUp T115 8 (upd (T115 8) i 0)) else (if (T115 7 (T115 3 i).toNatClampNeg) < 1 then (zUp T115 8 (upd (T115 8) i 0)) else (zUp (zUp (zUp T115 8 (upd (T115 8) i 1)) 6 (upd (T115 6) (T115 3 i).toNatClampNeg ((T115 6 (T115 3 i).toNatClampNeg) - 1))) 7 (upd (T115 7) (T115 3 i).toNatClampNeg ((T115 7 (T115 3 i).toNatClampNeg) - 1)))))))
def lp_X7_supplies_115 (S : zS) (T1150 : zS) : Nat → zS
  | 0 => (T1150)
  | q + 1 => bd_X7_supplies_115 S q (lp_X7_supplies_115 S T1150 q)
def g_X7_supplies (S : zS)  : zS := (lp_X7_supplies_115 S (lp_X7_supplies_30 S (lp_X7_supplies_2 S S 64) 64) 64)
theorem fr_bd_X7_supplies_115 (S : zS) (i : Nat) (T115 : zS) (r : Nat) (h6 : r ≠ 6) (h7 : r ≠ 7) (h8 : r ≠ 8) : (bd_X7_supplies_115 S i T115) r = T115 r := by
  unfold bd_X7_supplies_115
  (repeat' split) <;> simp [zUp, h6, h7, h8]
theorem fr_lp_X7_supplies_115 (S : zS) (T1150 : zS) (r : Nat) (h6 : r ≠ 6) (h7 : r ≠ 7) (h8 : r ≠ 8) : ∀ n, (lp_X7_supplies_115 S T1150 n) r = T1150 r
  | 0 => rfl
  | n + 1 => by
    show (bd_X7_supplies_115 S n (lp_X7_supplies_115 S T1150 n)) r = _
    rw [fr_bd_X7_supplies_115 _ _ _ r h6 h7 h8]
    exact fr_lp_X7_supplies_115 S T1150 r h6 h7 h8 n
theorem fr_bd_X7_supplies_30 (S : zS) (i : Nat) (T30 : zS) (r : Nat) (h6 : r ≠ 6) (h7 : r ≠ 7) (h8 : r ≠ 8) : (bd_X7_supplies_30 S i T30) r = T30 r := by
  unfold bd_X7_supplies_30
  (repeat' split) <;> simp [zUp, h6, h7, h8, fr_lp_X7_supplies_115]
theorem fr_lp_X7_supplies_30 (S : zS) (T300 : zS) (r : Nat) (h6 : r ≠ 6) (h7 : r ≠ 7) (h8 : r ≠ 8) : ∀ n, (lp_X7_supplies_30 S T300 n) r = T300 r
  | 0 => rfl
  | n + 1 => by
    show (bd_X7_supplies_30 S n (lp_X7_supplies_30 S T300 n)) r = _
    rw [fr_bd_X7_supplies_30 _ _ _ r h6 h7 h8]
    exact fr_lp_X7_supplies_30 S T300 r h6 h7 h8 n
theorem fr_bd_X7_supplies_2 (S : zS) (i : Nat) (T2 : zS) (r : Nat) (h6 : r ≠ 6) (h7 : r ≠ 7) (h8 : r ≠ 8) : (bd_X7_supplies_2 S i T2) r = T2 r := by
  unfold bd_X7_supplies_2
  (repeat' split) <;> simp [zUp, h6, h7, h8, fr_lp_X7_supplies_115, fr_lp_X7_supplies_30]
theorem fr_lp_X7_supplies_2 (S : zS) (T20 : zS) (r : Nat) (h6 : r ≠ 6) (h7 : r ≠ 7) (h8 : r ≠ 8) : ∀ n, (lp_X7_supplies_2 S T20 n) r = T20 r
  | 0 => rfl
  | n + 1 => by
    show (bd_X7_supplies_2 S n (lp_X7_supplies_2 S T20 n)) r = _
    rw [fr_bd_X7_supplies_2 _ _ _ r h6 h7 h8]
    exact fr_lp_X7_supplies_2 S T20 r h6 h7 h8 n
theorem fr_X7_supplies (S : zS)  (r : Nat) (h6 : r ≠ 6) (h7 : r ≠ 7) (h8 : r ≠ 8) : g_X7_supplies S  r = S r := by
  unfold g_X7_supplies
  (repeat' split) <;> simp [zUp, h6, h7, h8, fr_lp_X7_supplies_115, fr_lp_X7_supplies_30, fr_lp_X7_supplies_2]

def bd_X7_goes_72 (S : zS) (nh : Nat) (nt : Nat) (xm : Int32) (gi : Nat) (h : Int32) (T59 : zS) (j : Nat) (nx : Int32) : Int32 := if (f_X7_isRoad T59 (f_X7_neighbour h (nI (3 - j)))) = 0 then (nx) else (if (T59 4 (64 * (S 2 nt).toNatClampNeg + h.toNatClampNeg)) ≤ (T59 4 (64 * (S 2 nt).toNatClampNeg + (f_X7_neighbour h (nI (3 - j))).toNatClampNeg)) then (nx) else (f_X7_neighbour h (nI (3 - j))))
def lp_X7_goes_72 (S : zS) (nh : Nat) (nt : Nat) (xm : Int32) (gi : Nat) (h : Int32) (T59 : zS) (nx0 : Int32) : Nat → Int32
  | 0 => (nx0)
  | q + 1 => bd_X7_goes_72 S nh nt xm gi h T59 q (lp_X7_goes_72 S nh nt xm gi h T59 nx0 q)
def lp_X7_goes_59 (S : zS) (nh : Nat) (nt : Nat) (xm : Int32) : Nat → Nat → Int32 → zS → Int32 × zS
  | 0, gi, h, T59 => (h, T59)
  | q + 1, gi, h, T59 => if h = (S 2 nt) then ((h, T59)) else (lp_X7_goes_59 S nh nt xm q (gi + 1) (lp_X7_goes_72 S nh nt xm gi h T59 (-1) 4) (zUp T59 11 (upd (T59 11) (lp_X7_goes_72 S nh nt xm gi h T59 (-1) 4).toNatClampNeg ((T59 11 (lp_X7_goes_72 S nh nt xm gi h T59 (-1) 4).toNatClampNeg) + xm))))
def g_X7_goes (S : zS) (nh : Nat) (nt : Nat) (xm : Int32) : zS := ((lp_X7_goes_59 S nh nt xm 64 0 (S 2 nh) (zUp (zUp (zUp (zUp S 10 (upd (S 10) (64 * nh + nt) xm)) 9 (upd (S 9) nh ((S 9 nh) + xm))) 9 (upd (upd (S 9) nh ((S 9 nh) + xm)) nt (((upd (S 9) nh ((S 9 nh) + xm)) nt) + xm))) 11 (upd (S 11) (S 2 nh).toNatClampNeg ((S 11 (S 2 nh).toNatClampNeg) + xm)))).2)
theorem fr_lp_X7_goes_59 (S : zS) (nh : Nat) (nt : Nat) (xm : Int32) (r : Nat) (h10 : r ≠ 10) (h11 : r ≠ 11) (h9 : r ≠ 9) : ∀ (q gi : Nat) (h : Int32) (T59 : zS), (lp_X7_goes_59 S nh nt xm q gi h T59).2 r = T59 r := by
  intro q
  induction q with
  | zero => intros; rfl
  | succ q ih =>
    intro gi h T59
    rw [lp_X7_goes_59]
    (repeat' split) <;> simp [ih, zUp, h10, h11, h9]
theorem fr_X7_goes (S : zS) (nh : Nat) (nt : Nat) (xm : Int32) (r : Nat) (h10 : r ≠ 10) (h11 : r ≠ 11) (h9 : r ≠ 9) : g_X7_goes S nh nt xm r = S r := by
  unfold g_X7_goes
  (repeat' split) <;> simp [zUp, h10, h11, h9, fr_lp_X7_goes_59]

def bd_X7_works_2 (S : zS) (i : Nat) (T2 : zS) : zS := zUp (zUp T2 9 (upd (T2 9) i 0)) 11 (upd (T2 11) i 0)
def lp_X7_works_2 (S : zS) (T20 : zS) : Nat → zS
  | 0 => (T20)
  | q + 1 => bd_X7_works_2 S q (lp_X7_works_2 S T20 q)
def bd_X7_works_30 (S : zS) (i : Nat) (T30 : zS) : zS := zUp T30 10 (upd (T30 10) i 0)
def lp_X7_works_30 (S : zS) (T300 : zS) : Nat → zS
  | 0 => (T300)
  | q + 1 => bd_X7_works_30 S q (lp_X7_works_30 S T300 q)
def lp_X7_works_68 (S : zS) (u : Nat) (T52 : zS) (a : Nat) (T60 : zS) : Nat → Nat → zS → zS
  | 0, b, T68 => T68
  | q + 1, b, T68 => if ¬ (T68 0 a) = 2 then (T68) else (if (T68 2 a) = (-1) then (T68) else (if ¬ (T68 0 b) = 3 then (lp_X7_works_68 S u T52 a T60 q (b + 1) T68) else (if (T68 2 b) = (-1) then (lp_X7_works_68 S u T52 a T60 q (b + 1) T68) else (if ¬ (T68 4 (64 * (T68 2 a).toNatClampNeg + (T68 2 b).toNatClampNeg)) = (nI u) then (lp_X7_works_68 S u T52 a T60 q (b + 1) T68) else (if (f_X7_least ((2 * (T68 1 a)) - (T68 9 a)) ((2 * (T68 1 b)) - (T68 9 b))) ≤ 0 then (lp_X7_works_68 S u T52 a T60 q (b + 1) T68) else (lp_X7_works_68 S u T52 a T60 q (b + 1) (g_X7_goes T68 a b (f_X7_least ((2 * (T68 1 a)) - (T68 9 a)) ((2 * (T68 1 b)) - (T68 9 b))))))))))
def bd_X7_works_60 (S : zS) (u : Nat) (T52 : zS) (a : Nat) (T60 : zS) : zS := (lp_X7_works_68 S u T52 a T60 64 0 T60)
def lp_X7_works_60 (S : zS) (u : Nat) (T52 : zS) (T600 : zS) : Nat → zS
  | 0 => (T600)
  | q + 1 => bd_X7_works_60 S u T52 q (lp_X7_works_60 S u T52 T600 q)
def bd_X7_works_52 (S : zS) (u : Nat) (T52 : zS) : zS := (lp_X7_works_60 S u T52 T52 64)
def lp_X7_works_52 (S : zS) (T520 : zS) : Nat → zS
  | 0 => (T520)
  | q + 1 => bd_X7_works_52 S q (lp_X7_works_52 S T520 q)
def g_X7_works (S : zS)  : zS := (lp_X7_works_52 S (lp_X7_works_30 S (lp_X7_works_2 S S 64) 4096) 64)
theorem fr_lp_X7_works_68 (S : zS) (u : Nat) (T52 : zS) (a : Nat) (T60 : zS) (r : Nat) (h10 : r ≠ 10) (h11 : r ≠ 11) (h9 : r ≠ 9) : ∀ (q b : Nat) (T68 : zS), (lp_X7_works_68 S u T52 a T60 q b T68) r = T68 r := by
  intro q
  induction q with
  | zero => intros; rfl
  | succ q ih =>
    intro b T68
    rw [lp_X7_works_68]
    (repeat' split) <;> simp [ih, zUp, h10, h11, h9, fr_X7_goes]
theorem fr_bd_X7_works_60 (S : zS) (u : Nat) (T52 : zS) (a : Nat) (T60 : zS) (r : Nat) (h10 : r ≠ 10) (h11 : r ≠ 11) (h9 : r ≠ 9) : (bd_X7_works_60 S u T52 a T60) r = T60 r := by
  unfold bd_X7_works_60
  (repeat' split) <;> simp [zUp, h10, h11, h9, fr_X7_goes, fr_lp_X7_works_68]
theorem fr_lp_X7_works_60 (S : zS) (u : Nat) (T52 : zS) (T600 : zS) (r : Nat) (h10 : r ≠ 10) (h11 : r ≠ 11) (h9 : r ≠ 9) : ∀ n, (lp_X7_works_60 S u T52 T600 n) r = T600 r
  | 0 => rfl
  | n + 1 => by
    show (bd_X7_works_60 S u T52 n (lp_X7_works_60 S u T52 T600 n)) r = _
    rw [fr_bd_X7_works_60 _ _ _ _ _ r h10 h11 h9]
    exact fr_lp_X7_works_60 S u T52 T600 r h10 h11 h9 n
theorem fr_bd_X7_works_52 (S : zS) (u : Nat) (T52 : zS) (r : Nat) (h10 : r ≠ 10) (h11 : r ≠ 11) (h9 : r ≠ 9) : (bd_X7_works_52 S u T52) r = T52 r := by
  unfold bd_X7_works_52
  (repeat' split) <;> simp [zUp, h10, h11, h9, fr_X7_goes, fr_lp_X7_works_68, fr_lp_X7_works_60]
theorem fr_lp_X7_works_52 (S : zS) (T520 : zS) (r : Nat) (h10 : r ≠ 10) (h11 : r ≠ 11) (h9 : r ≠ 9) : ∀ n, (lp_X7_works_52 S T520 n) r = T520 r
  | 0 => rfl
  | n + 1 => by
    show (bd_X7_works_52 S n (lp_X7_works_52 S T520 n)) r = _
    rw [fr_bd_X7_works_52 _ _ _ r h10 h11 h9]
    exact fr_lp_X7_works_52 S T520 r h10 h11 h9 n
theorem fr_bd_X7_works_30 (S : zS) (i : Nat) (T30 : zS) (r : Nat) (h10 : r ≠ 10) (h11 : r ≠ 11) (h9 : r ≠ 9) : (bd_X7_works_30 S i T30) r = T30 r := by
  unfold bd_X7_works_30
  (repeat' split) <;> simp [zUp, h10, h11, h9, fr_X7_goes, fr_lp_X7_works_68, fr_lp_X7_works_60, fr_lp_X7_works_52]
theorem fr_lp_X7_works_30 (S : zS) (T300 : zS) (r : Nat) (h10 : r ≠ 10) (h11 : r ≠ 11) (h9 : r ≠ 9) : ∀ n, (lp_X7_works_30 S T300 n) r = T300 r
  | 0 => rfl
  | n + 1 => by
    show (bd_X7_works_30 S n (lp_X7_works_30 S T300 n)) r = _
    rw [fr_bd_X7_works_30 _ _ _ r h10 h11 h9]
    exact fr_lp_X7_works_30 S T300 r h10 h11 h9 n
theorem fr_bd_X7_works_2 (S : zS) (i : Nat) (T2 : zS) (r : Nat) (h10 : r ≠ 10) (h11 : r ≠ 11) (h9 : r ≠ 9) : (bd_X7_works_2 S i T2) r = T2 r := by
  unfold bd_X7_works_2
  (repeat' split) <;> simp [zUp, h10, h11, h9, fr_X7_goes, fr_lp_X7_works_68, fr_lp_X7_works_60, fr_lp_X7_works_52, fr_lp_X7_works_30]
theorem fr_lp_X7_works_2 (S : zS) (T20 : zS) (r : Nat) (h10 : r ≠ 10) (h11 : r ≠ 11) (h9 : r ≠ 9) : ∀ n, (lp_X7_works_2 S T20 n) r = T20 r
  | 0 => rfl
  | n + 1 => by
    show (bd_X7_works_2 S n (lp_X7_works_2 S T20 n)) r = _
    rw [fr_bd_X7_works_2 _ _ _ r h10 h11 h9]
    exact fr_lp_X7_works_2 S T20 r h10 h11 h9 n
theorem fr_X7_works (S : zS)  (r : Nat) (h10 : r ≠ 10) (h11 : r ≠ 11) (h9 : r ≠ 9) : g_X7_works S  r = S r := by
  unfold g_X7_works
  (repeat' split) <;> simp [zUp, h10, h11, h9, fr_X7_goes, fr_lp_X7_works_68, fr_lp_X7_works_60, fr_lp_X7_works_52, fr_lp_X7_works_30, fr_lp_X7_works_2]
