theorem and31 (z : Int32) : ∃ n, n < 32 ∧ z &&& nI 31 = nI n := by
  refine ⟨(z.toBitVec &&& 31#32).toNat, ?_, ?_⟩
  · rw [BitVec.toNat_and]
    exact Nat.lt_of_le_of_lt Nat.and_le_right (by decide)
  · apply Int32.toBitVec_inj.1
    show z.toBitVec &&& 31#32 = BitVec.ofNat 32 (z.toBitVec &&& 31#32).toNat
    simp
set_option maxHeartbeats 4000000 in
set_option maxRecDepth 100000 in
/-- the law's loop, with i ints read -/
theorem law_loop {p : Program} {l : Launch} {e : Env} {s : State} {m : MethodId} {below : List Frame} {meth : Method} {c : Code} {dC : Nat → ClassId} {dI : Nat → Nat → Nat} {cyI cyZ cyJ cyB : ClassId} {aC aM : Nat → Nat} {b L : Nat} {xs : Nat → Int32} (hlf : l.stackTraces = false) (cx : CallFix p m c cL_law 7 s #[Value.ref b] wsL_law RL) (hr : meth.sig.returnType = ret) (hlocks : meth.locks = false) (hX : va_X b L xs s s.heap) (hbl : b < s.heap.size) (hL : LC (dC, dI) cyI cyZ cyJ cyB aC aM s) (hLb : L ≤ 1536) :
    ∀ (n i : Nat) (_ : i ≤ L) (_ : L + 1 ≤ i + n) (C M : zS) (H : Heap) (locs : List Loc) (ls : Array Slot) (cells slots : Nat), RK C M → LI (dC, dI) cyI cyZ cyJ aC aM C M H → va_S (lA s) s.heap H locs → lv_has ls 7 [(0, .ref b), (1, .ref (aC 0)), (2, .ref (aM 0)), (3, .ref (aC 36)), (4, .int (nI i))] → cells + 8 * (L + 1 - i) ≤ 601024 → slots + 64 * (L + 1 - i) ≤ 7293034 → W p l e room_1 s m #[Value.ref b] below meth c H locs cells slots (lw_Z below #[Value.ref b] s) (F0 m 23 ls []) := by
  obtain ⟨hx, hb, hml, hown, hts⟩ := id cx
  have hbA : ¬ lA s b := Nat.not_le.mpr hbl
  intro n
  induction n with
  | zero =>
    intro i h1 h2
    exact absurd h2 (by omega)
  | succ n ih =>
    intro i hiL hin C M H locs ls cells slots hRel hI hS hl hcl hsl
    refine lv_iload hx hb dL_law_23 (lv_at hl 4 rfl) ?_
    refine lv_aload_n hx hb dL_law_25 rfl (lv_at hl 0 rfl) ?_
    refine va_slen hx hb hX hbl hbA hS dL_law_26 ?_
    refine lv_iconst (v := nI 3) hx hb dL_law_27 (by decide) ?_
    refine lv_isub hx hb dL_law_28 ?_
    have e3 : (nI L - nI 3).toInt = (L : Int) - (3 : Nat) := pk_sub_toInt (by omega) (by omega)
    refine lv_icmp_gt (tgt := 1212) hx hb dL_law_29 (by decide) (fun c1 => ?_) (fun c1 => ?_)
    · refine lv_iconst (v := 1) hx hb dL_law_1212 (by decide) ?_
      refine va_forget (fun q hq => hS.2.2 q hq) ?_
      refine W.widen (k := 601024) (n := 7293034) (by omega) (by omega) ?_
      exact lw_ret hx hb hr hlocks dL_law_1213
    · have hi : i + 3 ≤ L := by
        have c2 : ¬ (nI L - nI 3) < nI i := c1
        rw [Int32.lt_iff_toInt_lt, e3, nI_toInt (by omega)] at c2
        omega
      have hcl2 : cells + 8 ≤ room_1.cells := by
        show cells + 8 ≤ 601024
        omega
      have hsl2 : slots + 64 ≤ room_1.slots := by
        show slots + 64 ≤ 7293034
        omega
      have KK : law_KK p l e s m below meth c (lw_Z below #[Value.ref b] s) dC dI cyI cyZ cyJ aC aM b i cells slots := by
        intro C M H locs ls hRel hI hS hl
        refine lv_iinc (v := nI (i + 3)) (lv' := [(4, .int (nI (i + 3))), (0, .ref b), (1, .ref (aC 0)), (2, .ref (aM 0)), (3, .ref (aC 36))]) hx hb dL_law_1206 hl (k := 4) rfl (nI_add i 3) (by decide) rfl (fun ls hl => ?_)
        refine lv_goto (tgt := 23) hx hb dL_law_1209 (by decide) ?_
        exact ih (i + 3) hi (by omega) C M H locs ls _ _ hRel hI hS (lv_sub hl [1, 2, 3, 4, 0] rfl) (by omega) (by omega)
      refine lv_aload_n hx hb dL_law_32 rfl (lv_at hl 0 rfl) ?_
      refine lv_iload hx hb dL_law_33 (lv_at hl 4 rfl) ?_
      refine va_sld hx hb hX hbl hbA hS (vp_in_nI (by omega) (by omega)) dL_law_35 ?_
      refine lv_bipush (v := nI 31) hx hb dL_law_36 (by decide) ?_
      refine lv_iand hx hb dL_law_38 ?_
      refine lv_topi (fun z hz => ?_)
      obtain ⟨k, hk, e⟩ := and31 (xs (nI i).toNatClampNeg)
      rw [e] at hz
      subst hz
      by_cases h20 : k < 20
      · rcases (show k = 0 ∨ k = 1 ∨ k = 2 ∨ k = 3 ∨ k = 4 ∨ k = 5 ∨ k = 6 ∨ k = 7 ∨ k = 8 ∨ k = 9 ∨ k = 10 ∨ k = 11 ∨ k = 12 ∨ k = 13 ∨ k = 14 ∨ k = 15 ∨ k = 16 ∨ k = 17 ∨ k = 18 ∨ k = 19 by omega) with rfl | rfl | rfl | rfl | rfl | rfl | rfl | rfl | rfl | rfl | rfl | rfl | rfl | rfl | rfl | rfl | rfl | rfl | rfl | rfl
        · refine lv_tableIn (tgt := 132) (off := 93) hx hb dL_law_39 (by decide) (by decide) rfl (by decide) ?_
          exact law_build hlf cx hX hbl hL hi hLb hRel hI hS hl hcl2 hsl2 KK
        · refine lv_tableIn (tgt := 200) (off := 161) hx hb dL_law_39 (by decide) (by decide) rfl (by decide) ?_
          exact law_tear hlf cx hX hbl hL hi hLb hRel hI hS hl hcl2 hsl2 KK
        · refine lv_tableIn (tgt := 256) (off := 217) hx hb dL_law_39 (by decide) (by decide) rfl (by decide) ?_
          exact law_setTax hlf cx hX hbl hL hi hLb hRel hI hS hl hcl2 hsl2 KK
        · refine lv_tableIn (tgt := 340) (off := 301) hx hb dL_law_39 (by decide) (by decide) rfl (by decide) ?_
          exact law_borrow hlf cx hX hbl hL hi hLb hRel hI hS hl hcl2 hsl2 KK
        · refine lv_tableIn (tgt := 396) (off := 357) hx hb dL_law_39 (by decide) (by decide) rfl (by decide) ?_
          exact law_repay hlf cx hX hbl hL hi hLb hRel hI hS hl hcl2 hsl2 KK
        · refine lv_tableIn (tgt := 452) (off := 413) hx hb dL_law_39 (by decide) (by decide) rfl (by decide) ?_
          exact law_pass hlf cx hX hbl hL hi hLb hRel hI hS hl hcl2 hsl2 KK
        · refine lv_tableIn (tgt := 508) (off := 469) hx hb dL_law_39 (by decide) (by decide) rfl (by decide) ?_
          exact law_cash hlf cx hX hbl hL hi hLb hRel hI hS hl hcl2 hsl2 KK
        · refine lv_tableIn (tgt := 521) (off := 482) hx hb dL_law_39 (by decide) (by decide) rfl (by decide) ?_
          exact law_debt hlf cx hX hbl hL hi hLb hRel hI hS hl hcl2 hsl2 KK
        · refine lv_tableIn (tgt := 534) (off := 495) hx hb dL_law_39 (by decide) (by decide) rfl (by decide) ?_
          exact law_earned hlf cx hX hbl hL hi hLb hRel hI hS hl hcl2 hsl2 KK
        · refine lv_tableIn (tgt := 547) (off := 508) hx hb dL_law_39 (by decide) (by decide) rfl (by decide) ?_
          exact law_kind hlf cx hX hbl hL hi hLb hRel hI hS hl hcl2 hsl2 KK
        · refine lv_tableIn (tgt := 603) (off := 564) hx hb dL_law_39 (by decide) (by decide) rfl (by decide) ?_
          exact law_level hlf cx hX hbl hL hi hLb hRel hI hS hl hcl2 hsl2 KK
        · refine lv_tableIn (tgt := 659) (off := 620) hx hb dL_law_39 (by decide) (by decide) rfl (by decide) ?_
          exact law_sign hlf cx hX hbl hL hi hLb hRel hI hS hl hcl2 hsl2 KK
        · refine lv_tableIn (tgt := 727) (off := 688) hx hb dL_law_39 (by decide) (by decide) rfl (by decide) ?_
          exact law_net hlf cx hX hbl hL hi hLb hRel hI hS hl hcl2 hsl2 KK
        · refine lv_tableIn (tgt := 783) (off := 744) hx hb dL_law_39 (by decide) (by decide) rfl (by decide) ?_
          exact law_steps hlf cx hX hbl hL hi hLb hRel hI hS hl hcl2 hsl2 KK
        · refine lv_tableIn (tgt := 851) (off := 812) hx hb dL_law_39 (by decide) (by decide) rfl (by decide) ?_
          exact law_isServed hlf cx hX hbl hL hi hLb hRel hI hS hl hcl2 hsl2 KK
        · refine lv_tableIn (tgt := 914) (off := 875) hx hb dL_law_39 (by decide) (by decide) rfl (by decide) ?_
          exact law_placed hlf cx hX hbl hL hi hLb hRel hI hS hl hcl2 hsl2 KK
        · refine lv_tableIn (tgt := 970) (off := 931) hx hb dL_law_39 (by decide) (by decide) rfl (by decide) ?_
          exact law_traffic hlf cx hX hbl hL hi hLb hRel hI hS hl hcl2 hsl2 KK
        · refine lv_tableIn (tgt := 1026) (off := 987) hx hb dL_law_39 (by decide) (by decide) rfl (by decide) ?_
          exact law_value hlf cx hX hbl hL hi hLb hRel hI hS hl hcl2 hsl2 KK
        · refine lv_tableIn (tgt := 1082) (off := 1043) hx hb dL_law_39 (by decide) (by decide) rfl (by decide) ?_
          exact law_powerLeft hlf cx hX hbl hL hi hLb hRel hI hS hl hcl2 hsl2 KK
        · refine lv_tableIn (tgt := 1138) (off := 1099) hx hb dL_law_39 (by decide) (by decide) rfl (by decide) ?_
          exact law_going hlf cx hX hbl hL hi hLb hRel hI hS hl hcl2 hsl2 KK
      · refine lv_tableOut (tgt := 1206) hx hb dL_law_39 (Or.inr (by rw [nI_toInt (by omega)]; omega)) (by decide) ?_
        exact W.widen (by omega) (by omega) (KK C M H locs ls hRel hI hS hl)
