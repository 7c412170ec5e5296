/-! THE STATE of MillbrookBorough: row 0 kinds, 1 levels, 2 cellRoads, 3 roadNets, 4 distances, 5 queue, 6 power, 7 water, 8 served, 9 placedPeople, 10 freePeople, 11 roadTraffic, 12 tripHomes, 13 tripTrades, 14 tripPeople; 15 0 roads.number, 16 0 jobs.trips, 17 0..4 cash, debt, homesTax, tradesTax, earned -/
def ln (r : Nat) : Nat := if r = 4 then 4096 else 64
def cw (cyI : ClassId) (ad : Nat → Nat) (S : zS) : va_W :=
  [(ad 0, .inr (8, [.ref (ad 1), .ref (ad 2), .ref (ad 3), .ref (ad 4), .ref (ad 5)])),
   (ad 1, .inr (2, [.ref (ad 6), .ref (ad 8)])),
   (ad 2, .inr (5, [.ref (ad 10), .ref (ad 12), .ref (ad 14), .ref (ad 16), .int (S 15 0)])),
   (ad 3, .inr (7, [.ref (ad 18), .ref (ad 20), .ref (ad 22)])),
   (ad 4, .inr (3, [.ref (ad 24), .ref (ad 26), .ref (ad 28), .ref (ad 30), .ref (ad 32), .ref (ad 34), .int (S 16 0)])),
   (ad 5, .inr (4, [.int (S 17 0), .int (S 17 1), .int (S 17 2), .int (S 17 3), .int (S 17 4)])),
   (ad 6, .inr (6, [.ref (ad 7)])), (ad 7, .inl (cyI, 64, .inl (S 0))),
   (ad 8, .inr (6, [.ref (ad 9)])), (ad 9, .inl (cyI, 64, .inl (S 1))),
   (ad 10, .inr (6, [.ref (ad 11)])), (ad 11, .inl (cyI, 64, .inl (S 2))),
   (ad 12, .inr (6, [.ref (ad 13)])), (ad 13, .inl (cyI, 64, .inl (S 3))),
   (ad 14, .inr (6, [.ref (ad 15)])), (ad 15, .inl (cyI, 4096, .inl (S 4))),
   (ad 16, .inr (6, [.ref (ad 17)])), (ad 17, .inl (cyI, 64, .inl (S 5))),
   (ad 18, .inr (6, [.ref (ad 19)])), (ad 19, .inl (cyI, 64, .inl (S 6))),
   (ad 20, .inr (6, [.ref (ad 21)])), (ad 21, .inl (cyI, 64, .inl (S 7))),
   (ad 22, .inr (6, [.ref (ad 23)])), (ad 23, .inl (cyI, 64, .inl (S 8))),
   (ad 24, .inr (6, [.ref (ad 25)])), (ad 25, .inl (cyI, 64, .inl (S 9))),
   (ad 26, .inr (6, [.ref (ad 27)])), (ad 27, .inl (cyI, 64, .inl (S 10))),
   (ad 28, .inr (6, [.ref (ad 29)])), (ad 29, .inl (cyI, 64, .inl (S 11))),
   (ad 30, .inr (6, [.ref (ad 31)])), (ad 31, .inl (cyI, 64, .inl (S 12))),
   (ad 32, .inr (6, [.ref (ad 33)])), (ad 33, .inl (cyI, 64, .inl (S 13))),
   (ad 34, .inr (6, [.ref (ad 35)])), (ad 35, .inl (cyI, 64, .inl (S 14)))]
theorem cw_W (cyI : ClassId) (ad : Nat → Nat) : zW ad 36 (cw cyI ad) := fun _ => rfl
theorem lt15 {r : Nat} (h : r < 15) : r = 0 ∨ r = 1 ∨ r = 2 ∨ r = 3 ∨ r = 4 ∨ r = 5 ∨ r = 6 ∨ r = 7 ∨ r = 8 ∨ r = 9 ∨ r = 10 ∨ r = 11 ∨ r = 12 ∨ r = 13 ∨ r = 14 := by omega
theorem cw_row (cyI : ClassId) (ad : Nat → Nat) (S : zS) {r : Nat} (hr : r < 15) : (cw cyI ad S)[6 + 2 * r]? = some (ad (6 + 2 * r), .inr (6, [.ref (ad (7 + 2 * r))])) := by
  rcases lt15 hr with rfl | rfl | rfl | rfl | rfl | rfl | rfl | rfl | rfl | rfl | rfl | rfl | rfl | rfl | rfl <;> rfl
theorem cw_arr (cyI : ClassId) (ad : Nat → Nat) (S : zS) {r : Nat} (hr : r < 15) : (cw cyI ad S)[7 + 2 * r]? = some (ad (7 + 2 * r), .inl (cyI, ln r, .inl (S r))) := by
  rcases lt15 hr with rfl | rfl | rfl | rfl | rfl | rfl | rfl | rfl | rfl | rfl | rfl | rfl | rfl | rfl | rfl <;> rfl
theorem cw_set (cyI : ClassId) (ad : Nat → Nat) (S : zS) {r : Nat} (hr : r < 15) (f : Nat → Int32) : (cw cyI ad S).set (7 + 2 * r) (ad (7 + 2 * r), .inl (cyI, ln r, .inl f)) = cw cyI ad (zUp S r f) := by
  rcases lt15 hr with rfl | rfl | rfl | rfl | rfl | rfl | rfl | rfl | rfl | rfl | rfl | rfl | rfl | rfl | rfl <;> rfl
theorem ln_31 (r : Nat) : ln r < 2 ^ 31 := by unfold ln; split <;> decide
/-- rows that test each index -/
def rg (n : Nat) (f : Nat → Int32) (i : Int32) : Int32 := if i < 0 then -1 else if nI n ≤ i then -1 else f i.toNatClampNeg
def rs (n : Nat) (f : Nat → Int32) (i v : Int32) : Nat → Int32 := if i < 0 then f else if nI n ≤ i then f else upd f i.toNatClampNeg v
def ra (n : Nat) (f : Nat → Int32) (i v : Int32) : Nat → Int32 := if i < 0 then f else if nI n ≤ i then f else upd f i.toNatClampNeg (f i.toNatClampNeg + v)
def rf (n : Nat) (f : Nat → Int32) (v : Int32) : Nat → Int32 := fun j => if j < n then v else f j
theorem zUp_self (S : zS) (r : Nat) : zUp S r (S r) = S := by
  funext a
  unfold zUp
  split
  · next h => rw [h]
  · rfl
theorem zUp_zUp (S : zS) (r : Nat) (f g : Nat → Int32) : zUp (zUp S r f) r g = zUp S r g := by
  funext a
  unfold zUp
  split <;> rfl
theorem rf_0 (f : Nat → Int32) (v : Int32) : rf 0 f v = f := by
  funext j
  simp [rf]
theorem rf_s (i : Nat) (f : Nat → Int32) (v : Int32) : upd (rf i f v) i v = rf (i + 1) f v := by
  funext j
  unfold upd rf
  by_cases h : j = i
  · subst h; simp
  · by_cases h2 : j < i
    · rw [if_neg h, if_pos h2, if_pos (by omega)]
    · rw [if_neg h, if_neg h2, if_neg (by omega)]
theorem vp_in_of2 {i : Int32} {n : Nat} (hn : n < 2 ^ 31) (h1 : ¬ i < 0) (h2 : ¬ nI n ≤ i) : vp_in i n := by
  rcases pk_ix i hn with h | h | ⟨j, hj, rfl⟩
  · exact absurd h h1
  · exact absurd h h2
  · exact vp_in_nI hj hn
/-- what the methods of all nested classes take as given beside the world: two links of nest mates -/
def xN : (Nat → Prop) → State → Prop := fun _ U => va_Nw (.methodLinkNest RX0 30 yX6_distanceOf "MillbrookBorough") U ∧ va_Nw (.methodLinkNest RX3 54 yX6_neighbourOf "MillbrookBorough") U
theorem xN_X (ad : Nat → Nat) (n : Nat) : zX xN ad n :=
  ⟨fun _ _ _ _ h _ hW _ => ⟨va_Nw.warmM hW h.1, va_Nw.warmM hW h.2⟩, fun _ _ _ _ _ h => ⟨va_Nw.same rfl rfl h.1, va_Nw.same rfl rfl h.2⟩⟩
section ZN
variable {p : Program} {l : Launch} {e : Env} {R : Room} {s : State} {m : MethodId} {args : Array Value} {below : List Frame} {meth : Method} {c : Code} {H : Heap} {locs : List Loc} {cells slots : Nat} {Q : State → Prop} {cc : ByteArray} {pc : Nat} {ls : Array Slot} {rest : List Value}
theorem zAddN {a b : Nat} (hx : p.tables.exec = Jvm.exec) (hb : c.code = cc) (hdg : decode cc pc = .ok (.iadd, 1)) (k : W p l e R s m args below meth c H locs cells slots Q (F0 m (pc + 1) ls (.int (nI (a + b)) :: rest))) : W p l e R s m args below meth c H locs cells slots Q (F0 m pc ls (.int (nI b) :: .int (nI a) :: rest)) := by
  refine lv_iadd hx hb hdg ?_
  rw [nI_add]
  exact k
theorem zMulN {a b : Nat} (hx : p.tables.exec = Jvm.exec) (hb : c.code = cc) (hdg : decode cc pc = .ok (.imul, 1)) (k : W p l e R s m args below meth c H locs cells slots Q (F0 m (pc + 1) ls (.int (nI (a * b)) :: rest))) : W p l e R s m args below meth c H locs cells slots Q (F0 m pc ls (.int (nI b) :: .int (nI a) :: rest)) := by
  refine lv_imul hx hb hdg ?_
  rw [pk_mul]
  exact k
end ZN
theorem clamp_lt (x : Int32) : x.toNatClampNeg < 2 ^ 31 := by
  have := x.toInt_lt
  simp only [Int32.toNatClampNeg]
  omega
theorem nI_leC {x : Int32} {i : Nat} (hi : i < 2 ^ 31) : x ≤ nI i ↔ x.toNatClampNeg ≤ i := by
  rw [Int32.le_iff_toInt_le, nI_toInt hi]
  simp only [Int32.toNatClampNeg]
  omega
theorem zdn_lt {M i : Nat} (hM : M < 1000) (hi : i ≤ M + 1) : nI M - nI i < 0 ↔ M + 1 ≤ i := by
  constructor
  · intro h
    rcases Nat.lt_or_ge M i with h2 | h2
    · omega
    · rw [pk_sub h2] at h
      exact absurd h (nI_pos (by omega))
  · intro h
    exact pk_sneg (by omega) (by omega)
theorem zdn_s {M i : Nat} (h : i ≤ M) : nI (M - i) + (-1) = nI M - nI (i + 1) := by
  rw [← pk_sub h, nI_succ, Int32.sub_eq_add_neg, Int32.sub_eq_add_neg, Int32.neg_add, Int32.add_assoc, Int32.sub_eq_add_neg (-nI i)]
/-- the reference's cells: row 0 kind, 1 level, 2 road, 3 net, 4 steps, 5 queue, 6 power, 7 water, 8 isServed, 9 placed, 10 going, 11 traffic, 12 change; 13 0..5 cash, debt, earned, homeTax, tradeTax, thrown -/
def mw (cyI cyZ : ClassId) (ad : Nat → Nat) (S : zS) : va_W :=
  [(ad 0, .inr (9, [.int (S 13 0), .int (S 13 1), .int (S 13 2), .int (S 13 3), .int (S 13 4), .ref (ad 1), .ref (ad 2), .ref (ad 3), .ref (ad 4), .ref (ad 5), .ref (ad 6), .ref (ad 7), .ref (ad 8), .ref (ad 9), .ref (ad 10), .ref (ad 11), .ref (ad 12), .ref (ad 13), .int (S 13 5)])),
   (ad 1, .inl (cyI, 64, .inl (S 0))), (ad 2, .inl (cyI, 64, .inl (S 1))), (ad 3, .inl (cyI, 64, .inl (S 2))), (ad 4, .inl (cyI, 64, .inl (S 3))), (ad 5, .inl (cyI, 4096, .inl (S 4))), (ad 6, .inl (cyI, 64, .inl (S 5))), (ad 7, .inl (cyI, 64, .inl (S 6))), (ad 8, .inl (cyI, 64, .inl (S 7))), (ad 9, .inl (cyZ, 64, .inl (S 8))), (ad 10, .inl (cyI, 64, .inl (S 9))), (ad 11, .inl (cyI, 4096, .inl (S 10))), (ad 12, .inl (cyI, 64, .inl (S 11))), (ad 13, .inl (cyI, 64, .inl (S 12)))]
theorem mw_W (cyI cyZ : ClassId) (ad : Nat → Nat) : zW ad 14 (mw cyI cyZ ad) := fun _ => rfl
