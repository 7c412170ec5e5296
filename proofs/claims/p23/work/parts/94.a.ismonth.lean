/-! A MONTH of the law's, walked -/
theorem nr_X6_level (l : Launch) (dC : Nat → ClassId) (dI : Nat → Nat → Nat) (cyI cyB : ClassId) (ad : Nat → Nat) (hI : zI ad 41) (S : zS) (nc : Nat) (hnc : nc < 64) : zMi l (dC, dI) (lTys cyI cyB) ad 41 xL (nw cyI ad) yX6_level wsX6_level ({ frames := 7, cells := 0, slots := 0, locals := 110 } : Room) [.ref (ad 0), .int (nI nc)] S (fun v T => v = S 1 nc ∧ T = S) :=
  zLiftR (nE_OK cyI ad) hI (fun U h => lTys_I U h) xL_N (cv_X6_level l dC dI cyI ad (fun i j hi hj => hI i j (by omega) (by omega)) S nc hnc) (by
    unfold f_X6_level f_X0_levelOf
    rw [rg_nI hnc (by decide)])
theorem zI_of {A : Nat → Prop} {ad : Nat → Nat} {n : Nat} {w : zS → va_W} (hW : zW ad n w) {S : zS} (hD : va_D A (w S)) : zI ad n ∧ ∀ i, i < n → A (ad i) := by
  have hlen : (w S).length = n := by
    have h := congrArg List.length (hW S)
    rw [List.length_map, List.length_map, List.length_range] at h
    exact h
  have hat : ∀ i, i < n → ∃ q, (w S)[i]? = some q ∧ q.1 = ad i := fun i hi => by
    have hq : (w S)[i]? = some ((w S)[i]'(by omega)) := List.getElem?_eq_getElem _
    exact ⟨_, hq, (zW_at hW hq).2⟩
  refine ⟨fun i j hi hj e => ?_, fun i hi => ?_⟩
  · obtain ⟨q, h1, h2⟩ := hat i hi
    obtain ⟨q', h1', h2'⟩ := hat j hj
    exact hD.1 i j q q' h1 h1' (by rw [h2, h2', e])
  · obtain ⟨q, h1, h2⟩ := hat i hi
    rw [← h2]
    exact hD.2 i q h1
def adN (ad : Nat → Nat) (q1 q2 : Nat) : Nat → Nat := fun k => if k < 39 then ad k else if k = 39 then q1 else q2
theorem zA_N {ad : Nat → Nat} {q1 q2 sz : Nat} (hI : zI (adN ad q1 q2) 41) (h1 : zA ad 39 sz q1) (h2 : zA ad 39 sz q2) : zA (adN ad q1 q2) 41 sz = zA ad 39 sz := by
  have lo : ∀ k, k < 39 → adN ad q1 q2 k = ad k := fun k hk => by
    unfold adN
    rw [if_pos hk]
  have e1 : adN ad q1 q2 39 = q1 := rfl
  have e2 : adN ad q1 q2 40 = q2 := rfl
  funext q
  apply propext
  constructor
  · rintro (⟨k, hk, e⟩ | h)
    · by_cases c : k < 39
      · exact Or.inl ⟨k, c, by rw [e, lo k c]⟩
      · rcases (show k = 39 ∨ k = 40 by omega) with z | z
        · rw [e, z, e1]
          exact h1
        · rw [e, z, e2]
          exact h2
    · exact Or.inr h
  · rintro (⟨k, hk, e⟩ | h)
    · exact Or.inl ⟨k, by omega, by rw [e, lo k hk]⟩
    · exact Or.inr h
theorem ew_c39 {D : va_G} {cyI : ClassId} {ad : Nat → Nat} {S : zS} {H : Heap} (hP : va_P D vwCl (nw cyI ad S) H) : va_P D vwCl (qw cyI ad S) H := hP.sub (List.range 39) rfl
set_option maxHeartbeats 3000000 in
set_option maxRecDepth 100000 in
theorem c_L_isMonth (l : Launch) (dC : Nat → ClassId) (dI : Nat → Nat → Nat) (cyI cyB : ClassId) (ad : Nat → Nat) (hI : zI ad 39) (hlf : l.stackTraces = false) (S F : zS) (hF : LF S F) (d : Nat) (hdb : d ≤ 5000) (hd : S 22 1 = nI d) : bMet l (dC, dI) (lTys cyI cyB) ad 39 xL (qw cyI ad) yL_isMonth wsB_isMonth ({ frames := 9, cells := 6, slots := 152, locals := 203 } : Room) [.ref (ad 0), .ref (ad 36), .ref (ad 37), .ref (ad 38)] S 6 152 (fun v T => v = 1 ∧ LBd T) := by
  refine bStart (by decide) rfl (Nat.le_of_ble_eq_true rfl) ?_
  intro p e s m args below meth c ls cx hrt hlk hP hK hXs hl
  have hl : lv_has ls 12 [(0, .ref (ad 0)), (1, .ref (ad 36)), (2, .ref (ad 37)), (3, .ref (ad 38))] := hl
  have hS : va_S (zA ad 39 s.heap.size) s.heap s.heap [] := va_S.rf
  have hD : va_D (zA ad 39 s.heap.size) (qw cyI ad S) := zD (qw_W cyI ad) hI S (fun k hk => zA_ad hk)
  have hA : ∀ q : Nat, s.heap.size ≤ q → zA ad 39 s.heap.size q := fun q h => zA_ge h
  refine lv_bipush (v := 64) cx.1 cx.2.1 dL_isMonth_0 (by decide) ?_
  refine va_newa (atype := .int) (a0 := (64, .inl (fun _ => 0))) (N' := 64) cx.1 cx.2.1 (cx.2.2.2.2 (.arrayClass .int) (by decide +kernel)) rfl hK hP hD hS hA (fun _ => rfl) (by decide) (by decide) (Nat.le_of_ble_eq_true rfl) (Nat.le_of_ble_eq_true rfl) (Nat.le_of_ble_eq_true rfl) dL_isMonth_2 (fun q1 cA H hK2 hP hD hS => ?_)
  obtain rfl : cyI = cA := Option.some.inj ((va_nm_int (hK2.2 0 _ rfl).2).symm.trans (va_nm_int (hK2.2 2 _ rfl).2))
  refine lv_astore (lv' := [(4, .ref q1), (0, .ref (ad 0)), (1, .ref (ad 36)), (2, .ref (ad 37)), (3, .ref (ad 38))]) cx.1 cx.2.1 dL_isMonth_4 hl (by decide) rfl (fun ls hl => ?_)
  refine lv_bipush (v := 64) cx.1 cx.2.1 dL_isMonth_6 (by decide) ?_
  refine va_newa (atype := .int) (a0 := (64, .inl (fun _ => 0))) (N' := 64) cx.1 cx.2.1 (cx.2.2.2.2 (.arrayClass .int) (by decide +kernel)) rfl hK hP hD hS hA (fun _ => rfl) (by decide) (by decide) (Nat.le_of_ble_eq_true rfl) (Nat.le_of_ble_eq_true rfl) (Nat.le_of_ble_eq_true rfl) dL_isMonth_8 (fun q2 cA H hK3 hP hD hS => ?_)
  obtain rfl : cyI = cA := Option.some.inj ((va_nm_int (hK3.2 0 _ rfl).2).symm.trans (va_nm_int (hK3.2 2 _ rfl).2))
  refine lv_astore (lv' := [(5, .ref q2), (4, .ref q1), (0, .ref (ad 0)), (1, .ref (ad 36)), (2, .ref (ad 37)), (3, .ref (ad 38))]) cx.1 cx.2.1 dL_isMonth_10 hl (by decide) rfl (fun ls hl => ?_)
  obtain ⟨ad2, had2⟩ : ∃ ad2, ad2 = adN ad q1 q2 := ⟨_, rfl⟩
  obtain ⟨S2, hS2⟩ : ∃ S2, S2 = zUp (zUp S 23 (fun _ => 0)) 24 (fun _ => 0) := ⟨_, rfl⟩
  have hF0 : LF S2 F := by
    rw [hS2]
    exact LF_u24 (LF_u23 hF _) _
  have hF : LF S2 F := hF0
  have hd : S2 22 1 = nI d := by
    rw [hS2]
    exact hd
  have hD : va_D (zA ad 39 s.heap.size) (nw cyI ad2 S2) := by
    rw [had2, hS2]
    exact hD
  have hP : va_P (dC, dI) vwCl (nw cyI ad2 S2) H := by
    rw [had2, hS2]
    exact hP
  obtain ⟨hI2, hAd⟩ := zI_of (nw_W cyI ad2) hD
  have hA2 : zA ad2 41 s.heap.size = zA ad 39 s.heap.size := by
    rw [had2] at hI2 hAd ⊢
    exact zA_N hI2 (hAd 39 (by decide)) (hAd 40 (by decide))
  have hl : lv_has ls 12 [(5, .ref (ad2 40)), (4, .ref (ad2 39)), (0, .ref (ad2 0)), (1, .ref (ad2 36)), (2, .ref (ad2 37)), (3, .ref (ad2 38))] := by
    rw [had2]
    exact hl
  have hqw : ∀ T, qw cyI ad2 T = qw cyI ad T := fun T => by
    rw [had2]
    rfl
  rw [← hA2] at hS hXs
  obtain ⟨Q, hQ⟩ : ∃ Q, Q = MQ below (zQi (dC, dI) (qw cyI ad) (fun v T => v = 1 ∧ LBd T) (zA ad 39 s.heap.size)) args s 6 152 (zA ad 39 s.heap.size) := ⟨_, rfl⟩
  rw [← hQ]
  refine lv_aload_n cx.1 cx.2.1 dL_isMonth_12 rfl (lv_at hl 5 rfl) ?_
  refine lv_iconst (v := 1) cx.1 cx.2.1 dL_isMonth_13 (by decide) ?_
  refine zIldN cx hK hP 38 0 rfl rfl (1) (by omega) (by decide) rfl dL_isMonth_14 ?_
  rw [hd]
  refine lv_bipush (v := 100) cx.1 cx.2.1 dL_isMonth_15 (by decide) ?_
  refine lv_idiv cx.1 cx.2.1 dL_isMonth_17 (by decide) ?_
  have j32 : ∀ (v : Int32) (H : Heap) (locs : List Loc), v = (if ((nI d) - (nI d) / 100 * 100) ≤ 0 then 0 else 1 : Int32) → va_P (dC, dI) vwCl (nw cyI ad2 S2) H → va_S (zA ad2 41 s.heap.size) s.heap H locs → W p l e (headSpec wsB_isMonth ({ frames := 9, cells := 6, slots := 152, locals := 203 } : Room)).room s m args below meth c H locs 2 128 Q (F0 m 32 ls (.int v :: [.int ((nI d) / 100)])) := by
    intro v H locs hv hP hS
    subst hv
    refine lv_iadd cx.1 cx.2.1 dL_isMonth_32 ?_
    refine lv_ineg cx.1 cx.2.1 dL_isMonth_33 ?_
    refine lv_istore (lv' := [(6, .int (-(((nI d) / 100) + (if ((nI d) - (nI d) / 100 * 100) ≤ 0 then 0 else 1 : Int32)))), (5, .ref (ad2 40)), (4, .ref (ad2 39)), (0, .ref (ad2 0)), (1, .ref (ad2 36)), (2, .ref (ad2 37)), (3, .ref (ad2 38))]) cx.1 cx.2.1 dL_isMonth_34 hl (by decide) rfl (fun ls hl => ?_)
    refine lv_iconst (v := 0) cx.1 cx.2.1 dL_isMonth_36 (by decide) ?_
    refine lv_istore (lv' := [(7, .int 0), (6, .int (-(((nI d) / 100) + (if ((nI d) - (nI d) / 100 * 100) ≤ 0 then 0 else 1 : Int32)))), (5, .ref (ad2 40)), (4, .ref (ad2 39)), (0, .ref (ad2 0)), (1, .ref (ad2 36)), (2, .ref (ad2 37)), (3, .ref (ad2 38))]) cx.1 cx.2.1 dL_isMonth_37 hl (by decide) rfl (fun ls hl => ?_)
    have lp39 : ∀ (fu i : Nat) (sm : Int32) (T39 : zS) (hi39 : i ≤ 64) (hacc39 : lp_L_isMonth_39 S2 F (-(((nI d) / 100) + (if ((nI d) - (nI d) / 100 * 100) ≤ 0 then 0 else 1 : Int32))) S2 i = (sm, T39)) (hF : LF T39 F) (_ : 64 - i < fu) (H : Heap) (locs : List Loc) (ls : Array Slot), va_P (dC, dI) vwCl (nw cyI ad2 T39) H → va_S (zA ad2 41 s.heap.size) s.heap H locs → lv_has ls 12 [(7, .int (nI i)), (6, .int sm), (5, .ref (ad2 40)), (4, .ref (ad2 39)), (0, .ref (ad2 0)), (1, .ref (ad2 36)), (2, .ref (ad2 37)), (3, .ref (ad2 38))] → W p l e (headSpec wsB_isMonth ({ frames := 9, cells := 6, slots := 152, locals := 203 } : Room)).room s m args below meth c H locs 2 128 Q (F0 m 39 ls []) := by
      intro fu
      induction fu with
      | zero => intro i sm T39 hi39 hacc39 hF hm; exact absurd hm (Nat.not_lt_zero _)
      | succ fu ih39 =>
        intro i sm T39 hi39 hacc39 hF hm H locs ls hP hS hl
        refine lv_iload cx.1 cx.2.1 dL_isMonth_39 (lv_at hl 0 rfl) ?_
        refine lv_bipush (v := 64) cx.1 cx.2.1 dL_isMonth_41 (by decide) ?_
        refine lv_icmp_ge (tgt := 208) cx.1 cx.2.1 dL_isMonth_43 (by decide) (fun c2 => ?_) (fun c2 => ?_)
        · have nc2 : 64 ≤ i := (nI_leI (a := 64) (b := i) (by first | decide | omega) (by first | decide | omega)).mp c2
          obtain rfl : i = 64 := by omega
          have hz0 : (lp_L_isMonth_39 S2 F (-(((nI d) / 100) + (if ((nI d) - (nI d) / 100 * 100) ≤ 0 then 0 else 1 : Int32))) S2 64).1 = sm := (congrArg Prod.fst hacc39)
          have hz1 : (lp_L_isMonth_39 S2 F (-(((nI d) / 100) + (if ((nI d) - (nI d) / 100 * 100) ≤ 0 then 0 else 1 : Int32))) S2 64).2 = T39 := (congrArg Prod.snd hacc39)
          obtain ⟨N1, hN1⟩ : ∃ Z : Int32, (lp_L_isMonth_39 S2 F (-(((nI d) / 100) + (if ((nI d) - (nI d) / 100 * 100) ≤ 0 then 0 else 1 : Int32))) S2 64).1 = Z := ⟨_, rfl⟩
          rw [hN1] at hz0
          obtain ⟨NT, hNT⟩ : ∃ Z : zS, (lp_L_isMonth_39 S2 F (-(((nI d) / 100) + (if ((nI d) - (nI d) / 100 * 100) ≤ 0 then 0 else 1 : Int32))) S2 64).2 = Z := ⟨_, rfl⟩
          rw [hNT] at hz1
          subst hz0
          subst hz1
          refine lv_aload_n cx.1 cx.2.1 dL_isMonth_208 rfl (lv_at hl 7 rfl) ?_
          refine lv_iconst (v := 0) cx.1 cx.2.1 dL_isMonth_209 (by decide) ?_
          refine lv_dup2_11 cx.1 cx.2.1 dL_isMonth_210 rfl rfl ?_
          refine zIldN cx hK hP 38 0 rfl rfl (0) (by omega) (by decide) rfl dL_isMonth_211 ?_
          refine lv_iload cx.1 cx.2.1 dL_isMonth_212 (lv_at hl 1 rfl) ?_
          refine lv_iadd cx.1 cx.2.1 dL_isMonth_214 ?_
          refine zIstN cx (nw_W cyI ad2) hI2 hK hP hS 38 0 rfl rfl (0) (by omega) (by decide) rfl (zUp NT 22 (upd (NT 22) 0 ((NT 22 0) + N1))) rfl dL_isMonth_215 (fun H locs hP hS => ?_)
          refine lv_aload_n cx.1 cx.2.1 dL_isMonth_216 rfl (lv_at hl 7 rfl) ?_
          refine lv_iconst (v := 2) cx.1 cx.2.1 dL_isMonth_217 (by decide) ?_
          refine lv_dup2_11 cx.1 cx.2.1 dL_isMonth_218 rfl rfl ?_
          refine zIldN cx hK hP 38 0 rfl rfl (2) (by omega) (by decide) rfl dL_isMonth_219 ?_
          refine lv_iload cx.1 cx.2.1 dL_isMonth_220 (lv_at hl 1 rfl) ?_
          refine lv_iadd cx.1 cx.2.1 dL_isMonth_222 ?_
          refine zIstN cx (nw_W cyI ad2) hI2 hK hP hS 38 0 rfl rfl (2) (by omega) (by decide) rfl (zUp (zUp NT 22 (upd (NT 22) 0 ((NT 22 0) + N1))) 22 (upd (upd (NT 22) 0 ((NT 22 0) + N1)) 2 (((upd (NT 22) 0 ((NT 22 0) + N1)) 2) + N1))) rfl dL_isMonth_223 (fun H locs hP hS => ?_)
          refine lv_aload_n cx.1 cx.2.1 dL_isMonth_224 rfl (lv_at hl 4 rfl) ?_
          refine lv_iconst (v := 5) cx.1 cx.2.1 dL_isMonth_225 (by decide) ?_
          refine lv_iconst (v := 1) cx.1 cx.2.1 dL_isMonth_226 (by decide) ?_
          refine lv_iconst (v := 0) cx.1 cx.2.1 dL_isMonth_227 (by decide) ?_
          refine bCallW (As := [.ref (ad2 0), .int 5, .int 1, .int 0]) (rest := []) 4 cx (c_L_does5N l dC dI cyI cyB ad2 hI2 hlf (zUp (zUp NT 22 (upd (NT 22) 0 ((NT 22 0) + N1))) 22 (upd (upd (NT 22) 0 ((NT 22 0) + N1)) 2 (((upd (NT 22) 0 ((NT 22 0) + N1)) 2) + N1))) 1 0) gL_isMonth_L_does rfl ⟨rfl, rfl⟩ (by decide +kernel) ⟨Nat.le_of_ble_eq_true rfl, Nat.le_of_ble_eq_true rfl⟩ (xL_X ad2 41) hXs hK hP hS rfl hl.1 rfl (Nat.le_of_ble_eq_true rfl) dL_isMonth_228 ⟨Nat.le_of_ble_eq_true rfl, Nat.le_of_ble_eq_true rfl⟩ (fun rD TD H locs hp hP hS => ?_)
          obtain ⟨hv, hMF⟩ := month_does hF0 hd hdb hN1 hNT (debt_c hdb) rfl hp
          refine lv_iload cx.1 cx.2.1 dL_isMonth_231 (lv_at hl 1 rfl) ?_
          refine lv_icmp_ne (tgt := 240) cx.1 cx.2.1 dL_isMonth_233 (by decide) (fun c13 => ?_) (fun c13 => ?_)
          · exact absurd hv c13
          · refine lv_iconst (v := 1) cx.1 cx.2.1 dL_isMonth_236 (by decide) ?_
            refine lv_goto (tgt := 241) cx.1 cx.2.1 dL_isMonth_237 (by decide) ?_
            refine lv_istore (lv' := [(7, .int 1), (6, .int N1), (5, .ref (ad2 40)), (4, .ref (ad2 39)), (0, .ref (ad2 0)), (1, .ref (ad2 36)), (2, .ref (ad2 37)), (3, .ref (ad2 38))]) cx.1 cx.2.1 dL_isMonth_241 hl (by decide) rfl (fun ls hl => ?_)
            refine lv_iconst (v := 0) cx.1 cx.2.1 dL_isMonth_243 (by decide) ?_
            refine lv_istore (lv' := [(8, .int 0), (7, .int 1), (6, .int N1), (5, .ref (ad2 40)), (4, .ref (ad2 39)), (0, .ref (ad2 0)), (1, .ref (ad2 36)), (2, .ref (ad2 37)), (3, .ref (ad2 38))]) cx.1 cx.2.1 dL_isMonth_244 hl (by decide) rfl (fun ls hl => ?_)
            have lp246 : ∀ (fu i : Nat) (T246 : zS) (hi246 : i ≤ 64) (hacc246 : lp_L_isMonth_246 S2 F TD i = T246) (hM : MI TD i T246) (_ : 64 - i < fu) (H : Heap) (locs : List Loc) (ls : Array Slot), va_P (dC, dI) vwCl (nw cyI ad2 T246) H → va_S (zA ad2 41 s.heap.size) s.heap H locs → lv_has ls 12 [(8, .int (nI i)), (7, .int 1), (6, .int N1), (5, .ref (ad2 40)), (4, .ref (ad2 39)), (0, .ref (ad2 0)), (1, .ref (ad2 36)), (2, .ref (ad2 37)), (3, .ref (ad2 38))] → W p l e (headSpec wsB_isMonth ({ frames := 9, cells := 6, slots := 152, locals := 203 } : Room)).room s m args below meth c H locs 6 152 Q (F0 m 246 ls []) := by
              intro fu
              induction fu with
              | zero => intro i T246 hi246 hacc246 hM hm; exact absurd hm (Nat.not_lt_zero _)
              | succ fu ih246 =>
                intro i T246 hi246 hacc246 hM hm H locs ls hP hS hl
                refine lv_iload cx.1 cx.2.1 dL_isMonth_246 (lv_at hl 0 rfl) ?_
                refine lv_bipush (v := 64) cx.1 cx.2.1 dL_isMonth_248 (by decide) ?_
                refine lv_icmp_ge (tgt := 465) cx.1 cx.2.1 dL_isMonth_250 (by decide) (fun c14 => ?_) (fun c14 => ?_)
                · have nc14 : 64 ≤ i := (nI_leI (a := 64) (b := i) (by first | decide | omega) (by first | decide | omega)).mp c14
                  obtain rfl : i = 64 := by omega
                  have hz0 : (lp_L_isMonth_246 S2 F TD 64) = T246 := hacc246
                  obtain ⟨NT2, hNT2⟩ : ∃ Z : zS, (lp_L_isMonth_246 S2 F TD 64) = Z := ⟨_, rfl⟩
                  rw [hNT2] at hz0
                  subst hz0
                  refine lv_iload cx.1 cx.2.1 dL_isMonth_465 (lv_at hl 1 rfl) ?_
                  rw [hQ]
                  rw [hA2] at hS
                  have hP : va_P (dC, dI) vwCl (qw cyI ad NT2) H := by
                    rw [← hqw]
                    exact ew_c39 hP
                  exact bRet (T := NT2) (v := 1) cx hrt hlk (by first | rfl | decide) hS hP ⟨rfl, hMF.2.2 _ hM⟩ (Nat.le_of_ble_eq_true rfl) (Nat.le_of_ble_eq_true rfl) dL_isMonth_467
                · have nc14 : ¬ 64 ≤ i := fun z => c14 ((nI_leI (a := 64) (b := i) (by first | decide | omega) (by first | decide | omega)).mpr z)
                  refine lv_iload cx.1 cx.2.1 dL_isMonth_253 (lv_at hl 1 rfl) ?_
                  refine lv_if_eq (tgt := 465) cx.1 cx.2.1 dL_isMonth_255 (by decide) (fun c15 => ?_) (fun c15 => ?_)
                  · exact absurd c15 (by decide)
                  refine lv_aload_n cx.1 cx.2.1 dL_isMonth_258 rfl (lv_at hl 6 rfl) ?_
                  refine lv_iload cx.1 cx.2.1 dL_isMonth_259 (lv_at hl 0 rfl) ?_
                  refine zIldN cx hK hP 36 0 rfl rfl (i) (by omega) (by decide) rfl dL_isMonth_261 ?_
                  refine lv_iconst (v := 2) cx.1 cx.2.1 dL_isMonth_262 (by decide) ?_
                  refine lv_icmp_eq (tgt := 274) cx.1 cx.2.1 dL_isMonth_263 (by decide) (fun c16 => ?_) (fun c16 => ?_)
                  · have hz2 : T246 20 i = 2 := c16
                    have hi : i < 64 := by omega
                    refine lv_iconst (v := 2) cx.1 cx.2.1 dL_isMonth_274 (by decide) ?_
                    refine lv_aload_n cx.1 cx.2.1 dL_isMonth_275 rfl (lv_at hl 7 rfl) ?_
                    refine lv_iload cx.1 cx.2.1 dL_isMonth_276 (lv_at hl 0 rfl) ?_
                    refine zIldN cx hK hP 37 0 rfl rfl (i) (by omega) (by decide) rfl dL_isMonth_278 ?_
                    refine lv_imul cx.1 cx.2.1 dL_isMonth_279 ?_
                    refine lv_aload cx.1 cx.2.1 dL_isMonth_280 (lv_at hl 4 rfl) ?_
                    refine lv_iload cx.1 cx.2.1 dL_isMonth_282 (lv_at hl 0 rfl) ?_
                    refine zIldN cx hK hP 39 0 rfl rfl (i) (by omega) (by decide) rfl dL_isMonth_284 ?_
                    refine lv_isub cx.1 cx.2.1 dL_isMonth_285 ?_
                    refine lv_istore (lv' := [(9, .int ((2 * (T246 21 i)) - (T246 23 i))), (8, .int (nI i)), (7, .int 1), (6, .int N1), (5, .ref (ad2 40)), (4, .ref (ad2 39)), (0, .ref (ad2 0)), (1, .ref (ad2 36)), (2, .ref (ad2 37)), (3, .ref (ad2 38))]) cx.1 cx.2.1 dL_isMonth_286 hl (by decide) rfl (fun ls hl => ?_)
                    have j356 : ∀ (v : Int32) (H : Heap) (locs : List Loc), v = (if 0 ≤ (T246 24 i) then (if ¬ (T246 20 i) = 2 then (if (T246 21 i) ≤ 0 then 0 else (if ¬ (T246 23 i) = 0 then 0 else 1)) else (if ((2 * (T246 21 i)) - (T246 23 i)) ≤ (T246 21 i) then 0 else 1)) else (if (T246 21 i) ≤ 0 then 0 else 1) : Int32) → va_P (dC, dI) vwCl (nw cyI ad2 T246) H → va_S (zA ad2 41 s.heap.size) s.heap H locs → W p l e (headSpec wsB_isMonth ({ frames := 9, cells := 6, slots := 152, locals := 203 } : Room)).room s m args below meth c H locs 6 152 Q (F0 m 356 ls (.int v :: [])) := by
                      intro v H locs hv hP hS
                      subst hv
                      refine lv_istore (lv' := [(10, .int (if 0 ≤ (T246 24 i) then (if ¬ (T246 20 i) = 2 then (if (T246 21 i) ≤ 0 then 0 else (if ¬ (T246 23 i) = 0 then 0 else 1)) else (if ((2 * (T246 21 i)) - (T246 23 i)) ≤ (T246 21 i) then 0 else 1)) else (if (T246 21 i) ≤ 0 then 0 else 1) : Int32)), (9, .int ((2 * (T246 21 i)) - (T246 23 i))), (8, .int (nI i)), (7, .int 1), (6, .int N1), (5, .ref (ad2 40)), (4, .ref (ad2 39)), (0, .ref (ad2 0)), (1, .ref (ad2 36)), (2, .ref (ad2 37)), (3, .ref (ad2 38))]) cx.1 cx.2.1 dL_isMonth_356 hl (by decide) rfl (fun ls hl => ?_)
                      have j411 : ∀ (v : Int32) (H : Heap) (locs : List Loc), v = (if ¬ (if 0 ≤ (T246 24 i) then (if ¬ (T246 20 i) = 2 then (if (T246 21 i) ≤ 0 then 0 else (if ¬ (T246 23 i) = 0 then 0 else 1)) else (if ((2 * (T246 21 i)) - (T246 23 i)) ≤ (T246 21 i) then 0 else 1)) else (if (T246 21 i) ≤ 0 then 0 else 1) : Int32) = 0 then 0 else (if (T246 24 i) < 0 then 0 else (if (T246 22 0) < 0 then 0 else (if 3 ≤ (T246 21 i) then 0 else (if (T246 24 i) < ((5 * (T246 21 i)) + 5) then 0 else (if ¬ ((2 * (T246 21 i)) - (T246 23 i)) = 0 then 0 else 1))))) : Int32) → va_P (dC, dI) vwCl (nw cyI ad2 T246) H → va_S (zA ad2 41 s.heap.size) s.heap H locs → W p l e (headSpec wsB_isMonth ({ frames := 9, cells := 6, slots := 152, locals := 203 } : Room)).room s m args below meth c H locs 6 152 Q (F0 m 411 ls (.int v :: [])) := by
                        intro v H locs hv hP hS
                        subst hv
                        refine lv_istore (lv' := [(11, .int (if ¬ (if 0 ≤ (T246 24 i) then (if ¬ (T246 20 i) = 2 then (if (T246 21 i) ≤ 0 then 0 else (if ¬ (T246 23 i) = 0 then 0 else 1)) else (if ((2 * (T246 21 i)) - (T246 23 i)) ≤ (T246 21 i) then 0 else 1)) else (if (T246 21 i) ≤ 0 then 0 else 1) : Int32) = 0 then 0 else (if (T246 24 i) < 0 then 0 else (if (T246 22 0) < 0 then 0 else (if 3 ≤ (T246 21 i) then 0 else (if (T246 24 i) < ((5 * (T246 21 i)) + 5) then 0 else (if ¬ ((2 * (T246 21 i)) - (T246 23 i)) = 0 then 0 else 1))))) : Int32)), (10, .int (if 0 ≤ (T246 24 i) then (if ¬ (T246 20 i) = 2 then (if (T246 21 i) ≤ 0 then 0 else (if ¬ (T246 23 i) = 0 then 0 else 1)) else (if ((2 * (T246 21 i)) - (T246 23 i)) ≤ (T246 21 i) then 0 else 1)) else (if (T246 21 i) ≤ 0 then 0 else 1) : Int32)), (9, .int ((2 * (T246 21 i)) - (T246 23 i))), (8, .int (nI i)), (7, .int 1), (6, .int N1), (5, .ref (ad2 40)), (4, .ref (ad2 39)), (0, .ref (ad2 0)), (1, .ref (ad2 36)), (2, .ref (ad2 37)), (3, .ref (ad2 38))]) cx.1 cx.2.1 dL_isMonth_411 hl (by decide) rfl (fun ls hl => ?_)
                        refine lv_aload_n cx.1 cx.2.1 dL_isMonth_413 rfl (lv_at hl 10 rfl) ?_
                        refine lv_iload cx.1 cx.2.1 dL_isMonth_414 (lv_at hl 3 rfl) ?_
                        refine lv_dup2_11 cx.1 cx.2.1 dL_isMonth_416 rfl rfl ?_
                        refine zIldN cx hK hP 37 0 rfl rfl (i) (by omega) (by decide) rfl dL_isMonth_417 ?_
                        have j437 : ∀ (v : Int32) (H : Heap) (locs : List Loc), v = (if (if 0 ≤ (T246 24 i) then (if ¬ (T246 20 i) = 2 then (if (T246 21 i) ≤ 0 then 0 else (if ¬ (T246 23 i) = 0 then 0 else 1)) else (if ((2 * (T246 21 i)) - (T246 23 i)) ≤ (T246 21 i) then 0 else 1)) else (if (T246 21 i) ≤ 0 then 0 else 1) : Int32) = 0 then (if (if ¬ (if 0 ≤ (T246 24 i) then (if ¬ (T246 20 i) = 2 then (if (T246 21 i) ≤ 0 then 0 else (if ¬ (T246 23 i) = 0 then 0 else 1)) else (if ((2 * (T246 21 i)) - (T246 23 i)) ≤ (T246 21 i) then 0 else 1)) else (if (T246 21 i) ≤ 0 then 0 else 1) : Int32) = 0 then 0 else (if (T246 24 i) < 0 then 0 else (if (T246 22 0) < 0 then 0 else (if 3 ≤ (T246 21 i) then 0 else (if (T246 24 i) < ((5 * (T246 21 i)) + 5) then 0 else (if ¬ ((2 * (T246 21 i)) - (T246 23 i)) = 0 then 0 else 1))))) : Int32) = 0 then 0 else 1) else (-1) : Int32) → va_P (dC, dI) vwCl (nw cyI ad2 T246) H → va_S (zA ad2 41 s.heap.size) s.heap H locs → W p l e (headSpec wsB_isMonth ({ frames := 9, cells := 6, slots := 152, locals := 203 } : Room)).room s m args below meth c H locs 6 152 Q (F0 m 437 ls (.int v :: [.int (T246 21 i), .int (nI i), .ref (ad2 37)])) := by
                          intro v H locs hv hP hS
                          subst hv
                          refine lv_iadd cx.1 cx.2.1 dL_isMonth_437 ?_
                          refine zIstN cx (nw_W cyI ad2) hI2 hK hP hS 37 0 rfl rfl (i) (by omega) (by decide) rfl (zUp T246 21 (upd (T246 21) i ((T246 21 i) + (if (if 0 ≤ (T246 24 i) then (if ¬ (T246 20 i) = 2 then (if (T246 21 i) ≤ 0 then 0 else (if ¬ (T246 23 i) = 0 then 0 else 1)) else (if ((2 * (T246 21 i)) - (T246 23 i)) ≤ (T246 21 i) then 0 else 1)) else (if (T246 21 i) ≤ 0 then 0 else 1) : Int32) = 0 then (if (if ¬ (if 0 ≤ (T246 24 i) then (if ¬ (T246 20 i) = 2 then (if (T246 21 i) ≤ 0 then 0 else (if ¬ (T246 23 i) = 0 then 0 else 1)) else (if ((2 * (T246 21 i)) - (T246 23 i)) ≤ (T246 21 i) then 0 else 1)) else (if (T246 21 i) ≤ 0 then 0 else 1) : Int32) = 0 then 0 else (if (T246 24 i) < 0 then 0 else (if (T246 22 0) < 0 then 0 else (if 3 ≤ (T246 21 i) then 0 else (if (T246 24 i) < ((5 * (T246 21 i)) + 5) then 0 else (if ¬ ((2 * (T246 21 i)) - (T246 23 i)) = 0 then 0 else 1))))) : Int32) = 0 then 0 else 1) else (-1) : Int32)))) rfl dL_isMonth_438 (fun H locs hP hS => ?_)
                          refine lv_aload_n cx.1 cx.2.1 dL_isMonth_439 rfl (lv_at hl 8 rfl) ?_
                          refine lv_iload cx.1 cx.2.1 dL_isMonth_440 (lv_at hl 3 rfl) ?_
                          refine zThenIx (v := T246 1 i) (S' := zUp T246 21 (upd (T246 21) i ((T246 21 i) + (if (if 0 ≤ (T246 24 i) then (if ¬ (T246 20 i) = 2 then (if (T246 21 i) ≤ 0 then 0 else (if ¬ (T246 23 i) = 0 then 0 else 1)) else (if ((2 * (T246 21 i)) - (T246 23 i)) ≤ (T246 21 i) then 0 else 1)) else (if (T246 21 i) ≤ 0 then 0 else 1) : Int32) = 0 then (if (if ¬ (if 0 ≤ (T246 24 i) then (if ¬ (T246 20 i) = 2 then (if (T246 21 i) ≤ 0 then 0 else (if ¬ (T246 23 i) = 0 then 0 else 1)) else (if ((2 * (T246 21 i)) - (T246 23 i)) ≤ (T246 21 i) then 0 else 1)) else (if (T246 21 i) ≤ 0 then 0 else 1) : Int32) = 0 then 0 else (if (T246 24 i) < 0 then 0 else (if (T246 22 0) < 0 then 0 else (if 3 ≤ (T246 21 i) then 0 else (if (T246 24 i) < ((5 * (T246 21 i)) + 5) then 0 else (if ¬ ((2 * (T246 21 i)) - (T246 23 i)) = 0 then 0 else 1))))) : Int32) = 0 then 0 else 1) else (-1) : Int32)))) hS (zRunV (As := [.int (nI i)]) (rest := []) _ 1 cx (nr_X6_level l dC dI cyI cyB ad2 hI2 (zUp T246 21 (upd (T246 21) i ((T246 21 i) + (if (if 0 ≤ (T246 24 i) then (if ¬ (T246 20 i) = 2 then (if (T246 21 i) ≤ 0 then 0 else (if ¬ (T246 23 i) = 0 then 0 else 1)) else (if ((2 * (T246 21 i)) - (T246 23 i)) ≤ (T246 21 i) then 0 else 1)) else (if (T246 21 i) ≤ 0 then 0 else 1) : Int32) = 0 then (if (if ¬ (if 0 ≤ (T246 24 i) then (if ¬ (T246 20 i) = 2 then (if (T246 21 i) ≤ 0 then 0 else (if ¬ (T246 23 i) = 0 then 0 else 1)) else (if ((2 * (T246 21 i)) - (T246 23 i)) ≤ (T246 21 i) then 0 else 1)) else (if (T246 21 i) ≤ 0 then 0 else 1) : Int32) = 0 then 0 else (if (T246 24 i) < 0 then 0 else (if (T246 22 0) < 0 then 0 else (if 3 ≤ (T246 21 i) then 0 else (if (T246 24 i) < ((5 * (T246 21 i)) + 5) then 0 else (if ¬ ((2 * (T246 21 i)) - (T246 23 i)) = 0 then 0 else 1))))) : Int32) = 0 then 0 else 1) else (-1) : Int32)))) i (by omega)) gL_isMonth_X6_level rfl ⟨rfl, rfl⟩ (by decide +kernel) ⟨Nat.le_of_ble_eq_true rfl, Nat.le_of_ble_eq_true rfl⟩ (xL_X ad2 41) hXs hK hP hS 0 rfl rfl rfl rfl hl.1 rfl (Nat.le_of_ble_eq_true rfl) dL_isMonth_442 ⟨Nat.le_of_ble_eq_true rfl, Nat.le_of_ble_eq_true rfl⟩) (fun H locs hP hS => ?_)
                          refine lv_aload_n cx.1 cx.2.1 dL_isMonth_445 rfl (lv_at hl 10 rfl) ?_
                          refine lv_iload cx.1 cx.2.1 dL_isMonth_446 (lv_at hl 3 rfl) ?_
                          refine zIldN cx hK hP 37 0 rfl rfl (i) (by omega) (by decide) rfl dL_isMonth_448 ?_
                          rw [show (zUp T246 21 (upd (T246 21) i ((T246 21 i) + (if (if 0 ≤ (T246 24 i) then (if ¬ (T246 20 i) = 2 then (if (T246 21 i) ≤ 0 then 0 else (if ¬ (T246 23 i) = 0 then 0 else 1)) else (if ((2 * (T246 21 i)) - (T246 23 i)) ≤ (T246 21 i) then 0 else 1)) else (if (T246 21 i) ≤ 0 then 0 else 1) : Int32) = 0 then (if (if ¬ (if 0 ≤ (T246 24 i) then (if ¬ (T246 20 i) = 2 then (if (T246 21 i) ≤ 0 then 0 else (if ¬ (T246 23 i) = 0 then 0 else 1)) else (if ((2 * (T246 21 i)) - (T246 23 i)) ≤ (T246 21 i) then 0 else 1)) else (if (T246 21 i) ≤ 0 then 0 else 1) : Int32) = 0 then 0 else (if (T246 24 i) < 0 then 0 else (if (T246 22 0) < 0 then 0 else (if 3 ≤ (T246 21 i) then 0 else (if (T246 24 i) < ((5 * (T246 21 i)) + 5) then 0 else (if ¬ ((2 * (T246 21 i)) - (T246 23 i)) = 0 then 0 else 1))))) : Int32) = 0 then 0 else 1) else (-1) : Int32)))) 21 i = (T246 21 i) + (if (if 0 ≤ (T246 24 i) then (if ¬ (T246 20 i) = 2 then (if (T246 21 i) ≤ 0 then 0 else (if ¬ (T246 23 i) = 0 then 0 else 1)) else (if ((2 * (T246 21 i)) - (T246 23 i)) ≤ (T246 21 i) then 0 else 1)) else (if (T246 21 i) ≤ 0 then 0 else 1) : Int32) = 0 then (if (if ¬ (if 0 ≤ (T246 24 i) then (if ¬ (T246 20 i) = 2 then (if (T246 21 i) ≤ 0 then 0 else (if ¬ (T246 23 i) = 0 then 0 else 1)) else (if ((2 * (T246 21 i)) - (T246 23 i)) ≤ (T246 21 i) then 0 else 1)) else (if (T246 21 i) ≤ 0 then 0 else 1) : Int32) = 0 then 0 else (if (T246 24 i) < 0 then 0 else (if (T246 22 0) < 0 then 0 else (if 3 ≤ (T246 21 i) then 0 else (if (T246 24 i) < ((5 * (T246 21 i)) + 5) then 0 else (if ¬ ((2 * (T246 21 i)) - (T246 23 i)) = 0 then 0 else 1))))) : Int32) = 0 then 0 else 1) else (-1) : Int32) from pk_us]
                          refine lv_icmp_ne (tgt := 456) cx.1 cx.2.1 dL_isMonth_449 (by decide) (fun c31 => ?_) (fun c31 => ?_)
                          · have c31 : ¬ (T246 1 i) = ((T246 21 i) + (if (if 0 ≤ (T246 24 i) then (if ¬ (T246 20 i) = 2 then (if (T246 21 i) ≤ 0 then 0 else (if ¬ (T246 23 i) = 0 then 0 else 1)) else (if ((2 * (T246 21 i)) - (T246 23 i)) ≤ (T246 21 i) then 0 else 1)) else (if (T246 21 i) ≤ 0 then 0 else 1) : Int32) = 0 then (if (if ¬ (if 0 ≤ (T246 24 i) then (if ¬ (T246 20 i) = 2 then (if (T246 21 i) ≤ 0 then 0 else (if ¬ (T246 23 i) = 0 then 0 else 1)) else (if ((2 * (T246 21 i)) - (T246 23 i)) ≤ (T246 21 i) then 0 else 1)) else (if (T246 21 i) ≤ 0 then 0 else 1) : Int32) = 0 then 0 else (if (T246 24 i) < 0 then 0 else (if (T246 22 0) < 0 then 0 else (if 3 ≤ (T246 21 i) then 0 else (if (T246 24 i) < ((5 * (T246 21 i)) + 5) then 0 else (if ¬ ((2 * (T246 21 i)) - (T246 23 i)) = 0 then 0 else 1))))) : Int32) = 0 then 0 else 1) else (-1) : Int32)) := c31
                            exact absurd (by first | exact lev_z hMF hM hi (Or.inl hz2) | exact lev_z hMF hM hi (Or.inr hz3) | exact lev_n hMF hM hi hz2 hz3) c31
                          · have c31 : (T246 1 i) = ((T246 21 i) + (if (if 0 ≤ (T246 24 i) then (if ¬ (T246 20 i) = 2 then (if (T246 21 i) ≤ 0 then 0 else (if ¬ (T246 23 i) = 0 then 0 else 1)) else (if ((2 * (T246 21 i)) - (T246 23 i)) ≤ (T246 21 i) then 0 else 1)) else (if (T246 21 i) ≤ 0 then 0 else 1) : Int32) = 0 then (if (if ¬ (if 0 ≤ (T246 24 i) then (if ¬ (T246 20 i) = 2 then (if (T246 21 i) ≤ 0 then 0 else (if ¬ (T246 23 i) = 0 then 0 else 1)) else (if ((2 * (T246 21 i)) - (T246 23 i)) ≤ (T246 21 i) then 0 else 1)) else (if (T246 21 i) ≤ 0 then 0 else 1) : Int32) = 0 then 0 else (if (T246 24 i) < 0 then 0 else (if (T246 22 0) < 0 then 0 else (if 3 ≤ (T246 21 i) then 0 else (if (T246 24 i) < ((5 * (T246 21 i)) + 5) then 0 else (if ¬ ((2 * (T246 21 i)) - (T246 23 i)) = 0 then 0 else 1))))) : Int32) = 0 then 0 else 1) else (-1) : Int32)) := c31
                            refine lv_iconst (v := 1) cx.1 cx.2.1 dL_isMonth_452 (by decide) ?_
                            refine lv_goto (tgt := 457) cx.1 cx.2.1 dL_isMonth_453 (by decide) ?_
                            refine lv_istore (lv' := [(7, .int 1), (11, .int (if ¬ (if 0 ≤ (T246 24 i) then (if ¬ (T246 20 i) = 2 then (if (T246 21 i) ≤ 0 then 0 else (if ¬ (T246 23 i) = 0 then 0 else 1)) else (if ((2 * (T246 21 i)) - (T246 23 i)) ≤ (T246 21 i) then 0 else 1)) else (if (T246 21 i) ≤ 0 then 0 else 1) : Int32) = 0 then 0 else (if (T246 24 i) < 0 then 0 else (if (T246 22 0) < 0 then 0 else (if 3 ≤ (T246 21 i) then 0 else (if (T246 24 i) < ((5 * (T246 21 i)) + 5) then 0 else (if ¬ ((2 * (T246 21 i)) - (T246 23 i)) = 0 then 0 else 1))))) : Int32)), (10, .int (if 0 ≤ (T246 24 i) then (if ¬ (T246 20 i) = 2 then (if (T246 21 i) ≤ 0 then 0 else (if ¬ (T246 23 i) = 0 then 0 else 1)) else (if ((2 * (T246 21 i)) - (T246 23 i)) ≤ (T246 21 i) then 0 else 1)) else (if (T246 21 i) ≤ 0 then 0 else 1) : Int32)), (9, .int ((2 * (T246 21 i)) - (T246 23 i))), (8, .int (nI i)), (6, .int N1), (5, .ref (ad2 40)), (4, .ref (ad2 39)), (0, .ref (ad2 0)), (1, .ref (ad2 36)), (2, .ref (ad2 37)), (3, .ref (ad2 38))]) cx.1 cx.2.1 dL_isMonth_457 hl (by decide) rfl (fun ls hl => ?_)
                            refine lv_iinc (v := nI (i + 1)) (lv' := [(8, .int (nI (i + 1))), (7, .int 1), (11, .int (if ¬ (if 0 ≤ (T246 24 i) then (if ¬ (T246 20 i) = 2 then (if (T246 21 i) ≤ 0 then 0 else (if ¬ (T246 23 i) = 0 then 0 else 1)) else (if ((2 * (T246 21 i)) - (T246 23 i)) ≤ (T246 21 i) then 0 else 1)) else (if (T246 21 i) ≤ 0 then 0 else 1) : Int32) = 0 then 0 else (if (T246 24 i) < 0 then 0 else (if (T246 22 0) < 0 then 0 else (if 3 ≤ (T246 21 i) then 0 else (if (T246 24 i) < ((5 * (T246 21 i)) + 5) then 0 else (if ¬ ((2 * (T246 21 i)) - (T246 23 i)) = 0 then 0 else 1))))) : Int32)), (10, .int (if 0 ≤ (T246 24 i) then (if ¬ (T246 20 i) = 2 then (if (T246 21 i) ≤ 0 then 0 else (if ¬ (T246 23 i) = 0 then 0 else 1)) else (if ((2 * (T246 21 i)) - (T246 23 i)) ≤ (T246 21 i) then 0 else 1)) else (if (T246 21 i) ≤ 0 then 0 else 1) : Int32)), (9, .int ((2 * (T246 21 i)) - (T246 23 i))), (6, .int N1), (5, .ref (ad2 40)), (4, .ref (ad2 39)), (0, .ref (ad2 0)), (1, .ref (ad2 36)), (2, .ref (ad2 37)), (3, .ref (ad2 38))]) cx.1 cx.2.1 dL_isMonth_459 hl (k := 4) rfl (nI_1 i) (by decide) rfl (fun ls hl => ?_)
                            refine lv_goto (tgt := 246) cx.1 cx.2.1 dL_isMonth_462 (by decide) ?_
                            have ha246 : lp_L_isMonth_246 S2 F TD (i + 1) = zUp T246 21 (upd (T246 21) i ((T246 21 i) + (if (if 0 ≤ (T246 24 i) then (if ¬ (T246 20 i) = 2 then (if (T246 21 i) ≤ 0 then 0 else (if ¬ (T246 23 i) = 0 then 0 else 1)) else (if ((2 * (T246 21 i)) - (T246 23 i)) ≤ (T246 21 i) then 0 else 1)) else (if (T246 21 i) ≤ 0 then 0 else 1) : Int32) = 0 then (if (if ¬ (if 0 ≤ (T246 24 i) then (if ¬ (T246 20 i) = 2 then (if (T246 21 i) ≤ 0 then 0 else (if ¬ (T246 23 i) = 0 then 0 else 1)) else (if ((2 * (T246 21 i)) - (T246 23 i)) ≤ (T246 21 i) then 0 else 1)) else (if (T246 21 i) ≤ 0 then 0 else 1) : Int32) = 0 then 0 else (if (T246 24 i) < 0 then 0 else (if (T246 22 0) < 0 then 0 else (if 3 ≤ (T246 21 i) then 0 else (if (T246 24 i) < ((5 * (T246 21 i)) + 5) then 0 else (if ¬ ((2 * (T246 21 i)) - (T246 23 i)) = 0 then 0 else 1))))) : Int32) = 0 then 0 else 1) else (-1) : Int32))) := by
                              show bd_L_isMonth_246 S2 F i (lp_L_isMonth_246 S2 F TD i) = _
                              rw [hacc246]
                              unfold bd_L_isMonth_246
                              rw [if_pos c16]
                            exact ih246 (i + 1) (zUp T246 21 (upd (T246 21) i ((T246 21 i) + (if (if 0 ≤ (T246 24 i) then (if ¬ (T246 20 i) = 2 then (if (T246 21 i) ≤ 0 then 0 else (if ¬ (T246 23 i) = 0 then 0 else 1)) else (if ((2 * (T246 21 i)) - (T246 23 i)) ≤ (T246 21 i) then 0 else 1)) else (if (T246 21 i) ≤ 0 then 0 else 1) : Int32) = 0 then (if (if ¬ (if 0 ≤ (T246 24 i) then (if ¬ (T246 20 i) = 2 then (if (T246 21 i) ≤ 0 then 0 else (if ¬ (T246 23 i) = 0 then 0 else 1)) else (if ((2 * (T246 21 i)) - (T246 23 i)) ≤ (T246 21 i) then 0 else 1)) else (if (T246 21 i) ≤ 0 then 0 else 1) : Int32) = 0 then 0 else (if (T246 24 i) < 0 then 0 else (if (T246 22 0) < 0 then 0 else (if 3 ≤ (T246 21 i) then 0 else (if (T246 24 i) < ((5 * (T246 21 i)) + 5) then 0 else (if ¬ ((2 * (T246 21 i)) - (T246 23 i)) = 0 then 0 else 1))))) : Int32) = 0 then 0 else 1) else (-1) : Int32)))) (by omega) ha246 (by first | exact MI_z hM hi (lev_z hMF hM hi (Or.inl hz2)) | exact MI_z hM hi (lev_z hMF hM hi (Or.inr hz3)) | exact MI_n hM hi (lev_n hMF hM hi hz2 hz3)) (by omega) _ _ ls hP hS (lv_sub hl [0, 1, 5, 6, 7, 8, 9, 10, 11] rfl)
                        refine lv_iload cx.1 cx.2.1 dL_isMonth_418 (lv_at hl 1 rfl) ?_
                        refine lv_if_eq (tgt := 427) cx.1 cx.2.1 dL_isMonth_420 (by decide) (fun c29 => ?_) (fun c29 => ?_)
                        · refine lv_iload cx.1 cx.2.1 dL_isMonth_427 (lv_at hl 0 rfl) ?_
                          refine lv_if_eq (tgt := 436) cx.1 cx.2.1 dL_isMonth_429 (by decide) (fun c30 => ?_) (fun c30 => ?_)
                          · refine lv_iconst (v := 0) cx.1 cx.2.1 dL_isMonth_436 (by decide) ?_
                            exact j437 _ _ _ (by first | (rw [if_pos c29, if_pos c30]; done) | exact Eq.symm ((if_pos c29).trans ((if_pos c30).trans (rfl)))) hP hS
                          · refine lv_iconst (v := 1) cx.1 cx.2.1 dL_isMonth_432 (by decide) ?_
                            refine lv_goto (tgt := 437) cx.1 cx.2.1 dL_isMonth_433 (by decide) ?_
                            exact j437 _ _ _ (by first | (rw [if_pos c29, if_neg c30]; done) | exact Eq.symm ((if_pos c29).trans ((if_neg c30).trans (rfl)))) hP hS
                        · refine lv_iconst (v := (-1)) cx.1 cx.2.1 dL_isMonth_423 (by decide) ?_
                          refine lv_goto (tgt := 437) cx.1 cx.2.1 dL_isMonth_424 (by decide) ?_
                          exact j437 _ _ _ (by first | (rw [if_neg c29]; done) | exact Eq.symm ((if_neg c29).trans (rfl))) hP hS
                      refine lv_iload cx.1 cx.2.1 dL_isMonth_358 (lv_at hl 0 rfl) ?_
                      refine lv_if_ne (tgt := 410) cx.1 cx.2.1 dL_isMonth_360 (by decide) (fun c23 => ?_) (fun c23 => ?_)
                      · refine lv_iconst (v := 0) cx.1 cx.2.1 dL_isMonth_410 (by decide) ?_
                        exact j411 _ _ _ (by first | (rw [if_pos c23]; done) | exact Eq.symm ((if_pos c23).trans (rfl))) hP hS
                      · refine lv_aload cx.1 cx.2.1 dL_isMonth_363 (lv_at hl 5 rfl) ?_
                        refine lv_iload cx.1 cx.2.1 dL_isMonth_365 (lv_at hl 2 rfl) ?_
                        refine zIldN cx hK hP 40 0 rfl rfl (i) (by omega) (by decide) rfl dL_isMonth_367 ?_
                        refine lv_if_lt (tgt := 410) cx.1 cx.2.1 dL_isMonth_368 (by decide) (fun c24 => ?_) (fun c24 => ?_)
                        · refine lv_iconst (v := 0) cx.1 cx.2.1 dL_isMonth_410 (by decide) ?_
                          exact j411 _ _ _ (by first | (rw [if_neg (not_not_intro c23), if_pos c24]; done) | exact Eq.symm ((if_neg (not_not_intro c23)).trans ((if_pos c24).trans (rfl)))) hP hS
                        · refine lv_aload_n cx.1 cx.2.1 dL_isMonth_371 rfl (lv_at hl 10 rfl) ?_
                          refine lv_iconst (v := 0) cx.1 cx.2.1 dL_isMonth_372 (by decide) ?_
                          refine zIldN cx hK hP 38 0 rfl rfl (0) (by omega) (by decide) rfl dL_isMonth_373 ?_
                          refine lv_if_lt (tgt := 410) cx.1 cx.2.1 dL_isMonth_374 (by decide) (fun c25 => ?_) (fun c25 => ?_)
                          · refine lv_iconst (v := 0) cx.1 cx.2.1 dL_isMonth_410 (by decide) ?_
                            exact j411 _ _ _ (by first | (rw [if_neg (not_not_intro c23), if_neg c24, if_pos c25]; done) | exact Eq.symm ((if_neg (not_not_intro c23)).trans ((if_neg c24).trans ((if_pos c25).trans (rfl))))) hP hS
                          · refine lv_aload_n cx.1 cx.2.1 dL_isMonth_377 rfl (lv_at hl 9 rfl) ?_
                            refine lv_iload cx.1 cx.2.1 dL_isMonth_378 (lv_at hl 2 rfl) ?_
                            refine zIldN cx hK hP 37 0 rfl rfl (i) (by omega) (by decide) rfl dL_isMonth_380 ?_
                            refine lv_iconst (v := 3) cx.1 cx.2.1 dL_isMonth_381 (by decide) ?_
                            refine lv_icmp_ge (tgt := 410) cx.1 cx.2.1 dL_isMonth_382 (by decide) (fun c26 => ?_) (fun c26 => ?_)
                            · refine lv_iconst (v := 0) cx.1 cx.2.1 dL_isMonth_410 (by decide) ?_
                              exact j411 _ _ _ (by first | (rw [if_neg (not_not_intro c23), if_neg c24, if_neg c25, if_pos c26]; done) | exact Eq.symm ((if_neg (not_not_intro c23)).trans ((if_neg c24).trans ((if_neg c25).trans ((if_pos c26).trans (rfl)))))) hP hS
                            · refine lv_aload cx.1 cx.2.1 dL_isMonth_385 (lv_at hl 5 rfl) ?_
                              refine lv_iload cx.1 cx.2.1 dL_isMonth_387 (lv_at hl 2 rfl) ?_
                              refine zIldN cx hK hP 40 0 rfl rfl (i) (by omega) (by decide) rfl dL_isMonth_389 ?_
                              refine lv_iconst (v := 5) cx.1 cx.2.1 dL_isMonth_390 (by decide) ?_
                              refine lv_aload_n cx.1 cx.2.1 dL_isMonth_391 rfl (lv_at hl 9 rfl) ?_
                              refine lv_iload cx.1 cx.2.1 dL_isMonth_392 (lv_at hl 2 rfl) ?_
                              refine zIldN cx hK hP 37 0 rfl rfl (i) (by omega) (by decide) rfl dL_isMonth_394 ?_
                              refine lv_imul cx.1 cx.2.1 dL_isMonth_395 ?_
                              refine lv_iconst (v := 5) cx.1 cx.2.1 dL_isMonth_396 (by decide) ?_
                              refine lv_iadd cx.1 cx.2.1 dL_isMonth_397 ?_
                              refine lv_icmp_lt (tgt := 410) cx.1 cx.2.1 dL_isMonth_398 (by decide) (fun c27 => ?_) (fun c27 => ?_)
                              · refine lv_iconst (v := 0) cx.1 cx.2.1 dL_isMonth_410 (by decide) ?_
                                exact j411 _ _ _ (by first | (rw [if_neg (not_not_intro c23), if_neg c24, if_neg c25, if_neg c26, if_pos c27]; done) | exact Eq.symm ((if_neg (not_not_intro c23)).trans ((if_neg c24).trans ((if_neg c25).trans ((if_neg c26).trans ((if_pos c27).trans (rfl))))))) hP hS
                              · refine lv_iload cx.1 cx.2.1 dL_isMonth_401 (lv_at hl 1 rfl) ?_
                                refine lv_if_ne (tgt := 410) cx.1 cx.2.1 dL_isMonth_403 (by decide) (fun c28 => ?_) (fun c28 => ?_)
                                · refine lv_iconst (v := 0) cx.1 cx.2.1 dL_isMonth_410 (by decide) ?_
                                  exact j411 _ _ _ (by first | (rw [if_neg (not_not_intro c23), if_neg c24, if_neg c25, if_neg c26, if_neg c27, if_pos c28]; done) | exact Eq.symm ((if_neg (not_not_intro c23)).trans ((if_neg c24).trans ((if_neg c25).trans ((if_neg c26).trans ((if_neg c27).trans ((if_pos c28).trans (rfl)))))))) hP hS
                                · refine lv_iconst (v := 1) cx.1 cx.2.1 dL_isMonth_406 (by decide) ?_
                                  refine lv_goto (tgt := 411) cx.1 cx.2.1 dL_isMonth_407 (by decide) ?_
                                  exact j411 _ _ _ (by first | (rw [if_neg (not_not_intro c23), if_neg c24, if_neg c25, if_neg c26, if_neg c27, if_neg (not_not_intro c28)]; done) | exact Eq.symm ((if_neg (not_not_intro c23)).trans ((if_neg c24).trans ((if_neg c25).trans ((if_neg c26).trans ((if_neg c27).trans ((if_neg (not_not_intro c28)).trans (rfl)))))))) hP hS
                    refine lv_aload cx.1 cx.2.1 dL_isMonth_288 (lv_at hl 4 rfl) ?_
                    refine lv_iload cx.1 cx.2.1 dL_isMonth_290 (lv_at hl 1 rfl) ?_
                    refine zIldN cx hK hP 40 0 rfl rfl (i) (by omega) (by decide) rfl dL_isMonth_292 ?_
                    refine lv_if_ge (tgt := 311) cx.1 cx.2.1 dL_isMonth_293 (by decide) (fun c17 => ?_) (fun c17 => ?_)
                    · refine lv_aload_n cx.1 cx.2.1 dL_isMonth_311 rfl (lv_at hl 7 rfl) ?_
                      refine lv_iload cx.1 cx.2.1 dL_isMonth_312 (lv_at hl 1 rfl) ?_
                      refine zIldN cx hK hP 36 0 rfl rfl (i) (by omega) (by decide) rfl dL_isMonth_314 ?_
                      refine lv_iconst (v := 2) cx.1 cx.2.1 dL_isMonth_315 (by decide) ?_
                      refine lv_icmp_ne (tgt := 336) cx.1 cx.2.1 dL_isMonth_316 (by decide) (fun c18 => ?_) (fun c18 => ?_)
                      · refine lv_aload_n cx.1 cx.2.1 dL_isMonth_336 rfl (lv_at hl 8 rfl) ?_
                        refine lv_iload cx.1 cx.2.1 dL_isMonth_337 (lv_at hl 1 rfl) ?_
                        refine zIldN cx hK hP 37 0 rfl rfl (i) (by omega) (by decide) rfl dL_isMonth_339 ?_
                        refine lv_if_le (tgt := 355) cx.1 cx.2.1 dL_isMonth_340 (by decide) (fun c19 => ?_) (fun c19 => ?_)
                        · refine lv_iconst (v := 0) cx.1 cx.2.1 dL_isMonth_355 (by decide) ?_
                          exact j356 _ _ _ (by first | (rw [if_pos c17, if_pos c18, if_pos c19]; done) | exact Eq.symm ((if_pos c17).trans ((if_pos c18).trans ((if_pos c19).trans (rfl))))) hP hS
                        · refine lv_aload cx.1 cx.2.1 dL_isMonth_343 (lv_at hl 5 rfl) ?_
                          refine lv_iload cx.1 cx.2.1 dL_isMonth_345 (lv_at hl 1 rfl) ?_
                          refine zIldN cx hK hP 39 0 rfl rfl (i) (by omega) (by decide) rfl dL_isMonth_347 ?_
                          refine lv_if_ne (tgt := 355) cx.1 cx.2.1 dL_isMonth_348 (by decide) (fun c20 => ?_) (fun c20 => ?_)
                          · refine lv_iconst (v := 0) cx.1 cx.2.1 dL_isMonth_355 (by decide) ?_
                            exact j356 _ _ _ (by first | (rw [if_pos c17, if_pos c18, if_neg c19, if_pos c20]; done) | exact Eq.symm ((if_pos c17).trans ((if_pos c18).trans ((if_neg c19).trans ((if_pos c20).trans (rfl)))))) hP hS
                          · refine lv_iconst (v := 1) cx.1 cx.2.1 dL_isMonth_351 (by decide) ?_
                            refine lv_goto (tgt := 356) cx.1 cx.2.1 dL_isMonth_352 (by decide) ?_
                            exact j356 _ _ _ (by first | (rw [if_pos c17, if_pos c18, if_neg c19, if_neg (not_not_intro c20)]; done) | exact Eq.symm ((if_pos c17).trans ((if_pos c18).trans ((if_neg c19).trans ((if_neg (not_not_intro c20)).trans (rfl)))))) hP hS
                      · refine lv_iload cx.1 cx.2.1 dL_isMonth_319 (lv_at hl 0 rfl) ?_
                        refine lv_aload_n cx.1 cx.2.1 dL_isMonth_321 rfl (lv_at hl 8 rfl) ?_
                        refine lv_iload cx.1 cx.2.1 dL_isMonth_322 (lv_at hl 1 rfl) ?_
                        refine zIldN cx hK hP 37 0 rfl rfl (i) (by omega) (by decide) rfl dL_isMonth_324 ?_
                        refine lv_icmp_le (tgt := 332) cx.1 cx.2.1 dL_isMonth_325 (by decide) (fun c21 => ?_) (fun c21 => ?_)
                        · refine lv_iconst (v := 0) cx.1 cx.2.1 dL_isMonth_332 (by decide) ?_
                          refine lv_goto (tgt := 356) cx.1 cx.2.1 dL_isMonth_333 (by decide) ?_
                          exact j356 _ _ _ (by first | (rw [if_pos c17, if_neg (not_not_intro c18), if_pos c21]; done) | exact Eq.symm ((if_pos c17).trans ((if_neg (not_not_intro c18)).trans ((if_pos c21).trans (rfl))))) hP hS
                        · refine lv_iconst (v := 1) cx.1 cx.2.1 dL_isMonth_328 (by decide) ?_
                          refine lv_goto (tgt := 356) cx.1 cx.2.1 dL_isMonth_329 (by decide) ?_
                          exact j356 _ _ _ (by first | (rw [if_pos c17, if_neg (not_not_intro c18), if_neg c21]; done) | exact Eq.symm ((if_pos c17).trans ((if_neg (not_not_intro c18)).trans ((if_neg c21).trans (rfl))))) hP hS
                    · refine lv_aload_n cx.1 cx.2.1 dL_isMonth_296 rfl (lv_at hl 8 rfl) ?_
                      refine lv_iload cx.1 cx.2.1 dL_isMonth_297 (lv_at hl 1 rfl) ?_
                      refine zIldN cx hK hP 37 0 rfl rfl (i) (by omega) (by decide) rfl dL_isMonth_299 ?_
                      refine lv_if_le (tgt := 307) cx.1 cx.2.1 dL_isMonth_300 (by decide) (fun c22 => ?_) (fun c22 => ?_)
                      · refine lv_iconst (v := 0) cx.1 cx.2.1 dL_isMonth_307 (by decide) ?_
                        refine lv_goto (tgt := 356) cx.1 cx.2.1 dL_isMonth_308 (by decide) ?_
                        exact j356 _ _ _ (by first | (rw [if_neg c17, if_pos c22]; done) | exact Eq.symm ((if_neg c17).trans ((if_pos c22).trans (rfl)))) hP hS
                      · refine lv_iconst (v := 1) cx.1 cx.2.1 dL_isMonth_303 (by decide) ?_
                        refine lv_goto (tgt := 356) cx.1 cx.2.1 dL_isMonth_304 (by decide) ?_
                        exact j356 _ _ _ (by first | (rw [if_neg c17, if_neg c22]; done) | exact Eq.symm ((if_neg c17).trans ((if_neg c22).trans (rfl)))) hP hS
                  · have hz2 : ¬ T246 20 i = 2 := c16
                    have hi : i < 64 := by omega
                    refine lv_aload_n cx.1 cx.2.1 dL_isMonth_266 rfl (lv_at hl 6 rfl) ?_
                    refine lv_iload cx.1 cx.2.1 dL_isMonth_267 (lv_at hl 0 rfl) ?_
                    refine zIldN cx hK hP 36 0 rfl rfl (i) (by omega) (by decide) rfl dL_isMonth_269 ?_
                    refine lv_iconst (v := 3) cx.1 cx.2.1 dL_isMonth_270 (by decide) ?_
                    refine lv_icmp_ne (tgt := 439) cx.1 cx.2.1 dL_isMonth_271 (by decide) (fun c32 => ?_) (fun c32 => ?_)
                    · have hz3 : ¬ T246 20 i = 3 := c32
                      refine lv_aload_n cx.1 cx.2.1 dL_isMonth_439 rfl (lv_at hl 5 rfl) ?_
                      refine lv_iload cx.1 cx.2.1 dL_isMonth_440 (lv_at hl 0 rfl) ?_
                      refine zThenIx (v := T246 1 i) (S' := T246) hS (zRunV (As := [.int (nI i)]) (rest := []) _ 1 cx (nr_X6_level l dC dI cyI cyB ad2 hI2 T246 i (by omega)) gL_isMonth_X6_level rfl ⟨rfl, rfl⟩ (by decide +kernel) ⟨Nat.le_of_ble_eq_true rfl, Nat.le_of_ble_eq_true rfl⟩ (xL_X ad2 41) hXs hK hP hS 0 rfl rfl rfl rfl hl.1 rfl (Nat.le_of_ble_eq_true rfl) dL_isMonth_442 ⟨Nat.le_of_ble_eq_true rfl, Nat.le_of_ble_eq_true rfl⟩) (fun H locs hP hS => ?_)
                      refine lv_aload_n cx.1 cx.2.1 dL_isMonth_445 rfl (lv_at hl 7 rfl) ?_
                      refine lv_iload cx.1 cx.2.1 dL_isMonth_446 (lv_at hl 0 rfl) ?_
                      refine zIldN cx hK hP 37 0 rfl rfl (i) (by omega) (by decide) rfl dL_isMonth_448 ?_
                      refine lv_icmp_ne (tgt := 456) cx.1 cx.2.1 dL_isMonth_449 (by decide) (fun c33 => ?_) (fun c33 => ?_)
                      · exact absurd (by first | exact lev_z hMF hM hi (Or.inl hz2) | exact lev_z hMF hM hi (Or.inr hz3) | exact lev_n hMF hM hi hz2 hz3) c33
                      · refine lv_iconst (v := 1) cx.1 cx.2.1 dL_isMonth_452 (by decide) ?_
                        refine lv_goto (tgt := 457) cx.1 cx.2.1 dL_isMonth_453 (by decide) ?_
                        refine lv_istore (lv' := [(7, .int 1), (8, .int (nI i)), (6, .int N1), (5, .ref (ad2 40)), (4, .ref (ad2 39)), (0, .ref (ad2 0)), (1, .ref (ad2 36)), (2, .ref (ad2 37)), (3, .ref (ad2 38))]) cx.1 cx.2.1 dL_isMonth_457 hl (by decide) rfl (fun ls hl => ?_)
                        refine lv_iinc (v := nI (i + 1)) (lv' := [(8, .int (nI (i + 1))), (7, .int 1), (6, .int N1), (5, .ref (ad2 40)), (4, .ref (ad2 39)), (0, .ref (ad2 0)), (1, .ref (ad2 36)), (2, .ref (ad2 37)), (3, .ref (ad2 38))]) cx.1 cx.2.1 dL_isMonth_459 hl (k := 1) rfl (nI_1 i) (by decide) rfl (fun ls hl => ?_)
                        refine lv_goto (tgt := 246) cx.1 cx.2.1 dL_isMonth_462 (by decide) ?_
                        have ha246 : lp_L_isMonth_246 S2 F TD (i + 1) = T246 := by
                          show bd_L_isMonth_246 S2 F i (lp_L_isMonth_246 S2 F TD i) = _
                          rw [hacc246]
                          unfold bd_L_isMonth_246
                          rw [if_neg c16, if_pos c32]
                        exact ih246 (i + 1) T246 (by omega) ha246 (by first | exact MI_z hM hi (lev_z hMF hM hi (Or.inl hz2)) | exact MI_z hM hi (lev_z hMF hM hi (Or.inr hz3)) | exact MI_n hM hi (lev_n hMF hM hi hz2 hz3)) (by omega) _ _ ls hP hS (lv_sub hl [0, 1, 2, 3, 4, 5, 6, 7, 8] rfl)
                    · have hz3 : T246 20 i = 3 := c32
                      refine lv_iconst (v := 2) cx.1 cx.2.1 dL_isMonth_274 (by decide) ?_
                      refine lv_aload_n cx.1 cx.2.1 dL_isMonth_275 rfl (lv_at hl 7 rfl) ?_
                      refine lv_iload cx.1 cx.2.1 dL_isMonth_276 (lv_at hl 0 rfl) ?_
                      refine zIldN cx hK hP 37 0 rfl rfl (i) (by omega) (by decide) rfl dL_isMonth_278 ?_
                      refine lv_imul cx.1 cx.2.1 dL_isMonth_279 ?_
                      refine lv_aload cx.1 cx.2.1 dL_isMonth_280 (lv_at hl 4 rfl) ?_
                      refine lv_iload cx.1 cx.2.1 dL_isMonth_282 (lv_at hl 0 rfl) ?_
                      refine zIldN cx hK hP 39 0 rfl rfl (i) (by omega) (by decide) rfl dL_isMonth_284 ?_
                      refine lv_isub cx.1 cx.2.1 dL_isMonth_285 ?_
                      refine lv_istore (lv' := [(9, .int ((2 * (T246 21 i)) - (T246 23 i))), (8, .int (nI i)), (7, .int 1), (6, .int N1), (5, .ref (ad2 40)), (4, .ref (ad2 39)), (0, .ref (ad2 0)), (1, .ref (ad2 36)), (2, .ref (ad2 37)), (3, .ref (ad2 38))]) cx.1 cx.2.1 dL_isMonth_286 hl (by decide) rfl (fun ls hl => ?_)
                      have j356 : ∀ (v : Int32) (H : Heap) (locs : List Loc), v = (if 0 ≤ (T246 24 i) then (if ¬ (T246 20 i) = 2 then (if (T246 21 i) ≤ 0 then 0 else (if ¬ (T246 23 i) = 0 then 0 else 1)) else (if ((2 * (T246 21 i)) - (T246 23 i)) ≤ (T246 21 i) then 0 else 1)) else (if (T246 21 i) ≤ 0 then 0 else 1) : Int32) → va_P (dC, dI) vwCl (nw cyI ad2 T246) H → va_S (zA ad2 41 s.heap.size) s.heap H locs → W p l e (headSpec wsB_isMonth ({ frames := 9, cells := 6, slots := 152, locals := 203 } : Room)).room s m args below meth c H locs 6 152 Q (F0 m 356 ls (.int v :: [])) := by
                        intro v H locs hv hP hS
                        subst hv
                        refine lv_istore (lv' := [(10, .int (if 0 ≤ (T246 24 i) then (if ¬ (T246 20 i) = 2 then (if (T246 21 i) ≤ 0 then 0 else (if ¬ (T246 23 i) = 0 then 0 else 1)) else (if ((2 * (T246 21 i)) - (T246 23 i)) ≤ (T246 21 i) then 0 else 1)) else (if (T246 21 i) ≤ 0 then 0 else 1) : Int32)), (9, .int ((2 * (T246 21 i)) - (T246 23 i))), (8, .int (nI i)), (7, .int 1), (6, .int N1), (5, .ref (ad2 40)), (4, .ref (ad2 39)), (0, .ref (ad2 0)), (1, .ref (ad2 36)), (2, .ref (ad2 37)), (3, .ref (ad2 38))]) cx.1 cx.2.1 dL_isMonth_356 hl (by decide) rfl (fun ls hl => ?_)
                        have j411 : ∀ (v : Int32) (H : Heap) (locs : List Loc), v = (if ¬ (if 0 ≤ (T246 24 i) then (if ¬ (T246 20 i) = 2 then (if (T246 21 i) ≤ 0 then 0 else (if ¬ (T246 23 i) = 0 then 0 else 1)) else (if ((2 * (T246 21 i)) - (T246 23 i)) ≤ (T246 21 i) then 0 else 1)) else (if (T246 21 i) ≤ 0 then 0 else 1) : Int32) = 0 then 0 else (if (T246 24 i) < 0 then 0 else (if (T246 22 0) < 0 then 0 else (if 3 ≤ (T246 21 i) then 0 else (if (T246 24 i) < ((5 * (T246 21 i)) + 5) then 0 else (if ¬ ((2 * (T246 21 i)) - (T246 23 i)) = 0 then 0 else 1))))) : Int32) → va_P (dC, dI) vwCl (nw cyI ad2 T246) H → va_S (zA ad2 41 s.heap.size) s.heap H locs → W p l e (headSpec wsB_isMonth ({ frames := 9, cells := 6, slots := 152, locals := 203 } : Room)).room s m args below meth c H locs 6 152 Q (F0 m 411 ls (.int v :: [])) := by
                          intro v H locs hv hP hS
                          subst hv
                          refine lv_istore (lv' := [(11, .int (if ¬ (if 0 ≤ (T246 24 i) then (if ¬ (T246 20 i) = 2 then (if (T246 21 i) ≤ 0 then 0 else (if ¬ (T246 23 i) = 0 then 0 else 1)) else (if ((2 * (T246 21 i)) - (T246 23 i)) ≤ (T246 21 i) then 0 else 1)) else (if (T246 21 i) ≤ 0 then 0 else 1) : Int32) = 0 then 0 else (if (T246 24 i) < 0 then 0 else (if (T246 22 0) < 0 then 0 else (if 3 ≤ (T246 21 i) then 0 else (if (T246 24 i) < ((5 * (T246 21 i)) + 5) then 0 else (if ¬ ((2 * (T246 21 i)) - (T246 23 i)) = 0 then 0 else 1))))) : Int32)), (10, .int (if 0 ≤ (T246 24 i) then (if ¬ (T246 20 i) = 2 then (if (T246 21 i) ≤ 0 then 0 else (if ¬ (T246 23 i) = 0 then 0 else 1)) else (if ((2 * (T246 21 i)) - (T246 23 i)) ≤ (T246 21 i) then 0 else 1)) else (if (T246 21 i) ≤ 0 then 0 else 1) : Int32)), (9, .int ((2 * (T246 21 i)) - (T246 23 i))), (8, .int (nI i)), (7, .int 1), (6, .int N1), (5, .ref (ad2 40)), (4, .ref (ad2 39)), (0, .ref (ad2 0)), (1, .ref (ad2 36)), (2, .ref (ad2 37)), (3, .ref (ad2 38))]) cx.1 cx.2.1 dL_isMonth_411 hl (by decide) rfl (fun ls hl => ?_)
                          refine lv_aload_n cx.1 cx.2.1 dL_isMonth_413 rfl (lv_at hl 10 rfl) ?_
                          refine lv_iload cx.1 cx.2.1 dL_isMonth_414 (lv_at hl 3 rfl) ?_
                          refine lv_dup2_11 cx.1 cx.2.1 dL_isMonth_416 rfl rfl ?_
                          refine zIldN cx hK hP 37 0 rfl rfl (i) (by omega) (by decide) rfl dL_isMonth_417 ?_
                          have j437 : ∀ (v : Int32) (H : Heap) (locs : List Loc), v = (if (if 0 ≤ (T246 24 i) then (if ¬ (T246 20 i) = 2 then (if (T246 21 i) ≤ 0 then 0 else (if ¬ (T246 23 i) = 0 then 0 else 1)) else (if ((2 * (T246 21 i)) - (T246 23 i)) ≤ (T246 21 i) then 0 else 1)) else (if (T246 21 i) ≤ 0 then 0 else 1) : Int32) = 0 then (if (if ¬ (if 0 ≤ (T246 24 i) then (if ¬ (T246 20 i) = 2 then (if (T246 21 i) ≤ 0 then 0 else (if ¬ (T246 23 i) = 0 then 0 else 1)) else (if ((2 * (T246 21 i)) - (T246 23 i)) ≤ (T246 21 i) then 0 else 1)) else (if (T246 21 i) ≤ 0 then 0 else 1) : Int32) = 0 then 0 else (if (T246 24 i) < 0 then 0 else (if (T246 22 0) < 0 then 0 else (if 3 ≤ (T246 21 i) then 0 else (if (T246 24 i) < ((5 * (T246 21 i)) + 5) then 0 else (if ¬ ((2 * (T246 21 i)) - (T246 23 i)) = 0 then 0 else 1))))) : Int32) = 0 then 0 else 1) else (-1) : Int32) → va_P (dC, dI) vwCl (nw cyI ad2 T246) H → va_S (zA ad2 41 s.heap.size) s.heap H locs → W p l e (headSpec wsB_isMonth ({ frames := 9, cells := 6, slots := 152, locals := 203 } : Room)).room s m args below meth c H locs 6 152 Q (F0 m 437 ls (.int v :: [.int (T246 21 i), .int (nI i), .ref (ad2 37)])) := by
                            intro v H locs hv hP hS
                            subst hv
                            refine lv_iadd cx.1 cx.2.1 dL_isMonth_437 ?_
                            refine zIstN cx (nw_W cyI ad2) hI2 hK hP hS 37 0 rfl rfl (i) (by omega) (by decide) rfl (zUp T246 21 (upd (T246 21) i ((T246 21 i) + (if (if 0 ≤ (T246 24 i) then (if ¬ (T246 20 i) = 2 then (if (T246 21 i) ≤ 0 then 0 else (if ¬ (T246 23 i) = 0 then 0 else 1)) else (if ((2 * (T246 21 i)) - (T246 23 i)) ≤ (T246 21 i) then 0 else 1)) else (if (T246 21 i) ≤ 0 then 0 else 1) : Int32) = 0 then (if (if ¬ (if 0 ≤ (T246 24 i) then (if ¬ (T246 20 i) = 2 then (if (T246 21 i) ≤ 0 then 0 else (if ¬ (T246 23 i) = 0 then 0 else 1)) else (if ((2 * (T246 21 i)) - (T246 23 i)) ≤ (T246 21 i) then 0 else 1)) else (if (T246 21 i) ≤ 0 then 0 else 1) : Int32) = 0 then 0 else (if (T246 24 i) < 0 then 0 else (if (T246 22 0) < 0 then 0 else (if 3 ≤ (T246 21 i) then 0 else (if (T246 24 i) < ((5 * (T246 21 i)) + 5) then 0 else (if ¬ ((2 * (T246 21 i)) - (T246 23 i)) = 0 then 0 else 1))))) : Int32) = 0 then 0 else 1) else (-1) : Int32)))) rfl dL_isMonth_438 (fun H locs hP hS => ?_)
                            refine lv_aload_n cx.1 cx.2.1 dL_isMonth_439 rfl (lv_at hl 8 rfl) ?_
                            refine lv_iload cx.1 cx.2.1 dL_isMonth_440 (lv_at hl 3 rfl) ?_
                            refine zThenIx (v := T246 1 i) (S' := zUp T246 21 (upd (T246 21) i ((T246 21 i) + (if (if 0 ≤ (T246 24 i) then (if ¬ (T246 20 i) = 2 then (if (T246 21 i) ≤ 0 then 0 else (if ¬ (T246 23 i) = 0 then 0 else 1)) else (if ((2 * (T246 21 i)) - (T246 23 i)) ≤ (T246 21 i) then 0 else 1)) else (if (T246 21 i) ≤ 0 then 0 else 1) : Int32) = 0 then (if (if ¬ (if 0 ≤ (T246 24 i) then (if ¬ (T246 20 i) = 2 then (if (T246 21 i) ≤ 0 then 0 else (if ¬ (T246 23 i) = 0 then 0 else 1)) else (if ((2 * (T246 21 i)) - (T246 23 i)) ≤ (T246 21 i) then 0 else 1)) else (if (T246 21 i) ≤ 0 then 0 else 1) : Int32) = 0 then 0 else (if (T246 24 i) < 0 then 0 else (if (T246 22 0) < 0 then 0 else (if 3 ≤ (T246 21 i) then 0 else (if (T246 24 i) < ((5 * (T246 21 i)) + 5) then 0 else (if ¬ ((2 * (T246 21 i)) - (T246 23 i)) = 0 then 0 else 1))))) : Int32) = 0 then 0 else 1) else (-1) : Int32)))) hS (zRunV (As := [.int (nI i)]) (rest := []) _ 1 cx (nr_X6_level l dC dI cyI cyB ad2 hI2 (zUp T246 21 (upd (T246 21) i ((T246 21 i) + (if (if 0 ≤ (T246 24 i) then (if ¬ (T246 20 i) = 2 then (if (T246 21 i) ≤ 0 then 0 else (if ¬ (T246 23 i) = 0 then 0 else 1)) else (if ((2 * (T246 21 i)) - (T246 23 i)) ≤ (T246 21 i) then 0 else 1)) else (if (T246 21 i) ≤ 0 then 0 else 1) : Int32) = 0 then (if (if ¬ (if 0 ≤ (T246 24 i) then (if ¬ (T246 20 i) = 2 then (if (T246 21 i) ≤ 0 then 0 else (if ¬ (T246 23 i) = 0 then 0 else 1)) else (if ((2 * (T246 21 i)) - (T246 23 i)) ≤ (T246 21 i) then 0 else 1)) else (if (T246 21 i) ≤ 0 then 0 else 1) : Int32) = 0 then 0 else (if (T246 24 i) < 0 then 0 else (if (T246 22 0) < 0 then 0 else (if 3 ≤ (T246 21 i) then 0 else (if (T246 24 i) < ((5 * (T246 21 i)) + 5) then 0 else (if ¬ ((2 * (T246 21 i)) - (T246 23 i)) = 0 then 0 else 1))))) : Int32) = 0 then 0 else 1) else (-1) : Int32)))) i (by omega)) gL_isMonth_X6_level rfl ⟨rfl, rfl⟩ (by decide +kernel) ⟨Nat.le_of_ble_eq_true rfl, Nat.le_of_ble_eq_true rfl⟩ (xL_X ad2 41) hXs hK hP hS 0 rfl rfl rfl rfl hl.1 rfl (Nat.le_of_ble_eq_true rfl) dL_isMonth_442 ⟨Nat.le_of_ble_eq_true rfl, Nat.le_of_ble_eq_true rfl⟩) (fun H locs hP hS => ?_)
                            refine lv_aload_n cx.1 cx.2.1 dL_isMonth_445 rfl (lv_at hl 10 rfl) ?_
                            refine lv_iload cx.1 cx.2.1 dL_isMonth_446 (lv_at hl 3 rfl) ?_
                            refine zIldN cx hK hP 37 0 rfl rfl (i) (by omega) (by decide) rfl dL_isMonth_448 ?_
                            rw [show (zUp T246 21 (upd (T246 21) i ((T246 21 i) + (if (if 0 ≤ (T246 24 i) then (if ¬ (T246 20 i) = 2 then (if (T246 21 i) ≤ 0 then 0 else (if ¬ (T246 23 i) = 0 then 0 else 1)) else (if ((2 * (T246 21 i)) - (T246 23 i)) ≤ (T246 21 i) then 0 else 1)) else (if (T246 21 i) ≤ 0 then 0 else 1) : Int32) = 0 then (if (if ¬ (if 0 ≤ (T246 24 i) then (if ¬ (T246 20 i) = 2 then (if (T246 21 i) ≤ 0 then 0 else (if ¬ (T246 23 i) = 0 then 0 else 1)) else (if ((2 * (T246 21 i)) - (T246 23 i)) ≤ (T246 21 i) then 0 else 1)) else (if (T246 21 i) ≤ 0 then 0 else 1) : Int32) = 0 then 0 else (if (T246 24 i) < 0 then 0 else (if (T246 22 0) < 0 then 0 else (if 3 ≤ (T246 21 i) then 0 else (if (T246 24 i) < ((5 * (T246 21 i)) + 5) then 0 else (if ¬ ((2 * (T246 21 i)) - (T246 23 i)) = 0 then 0 else 1))))) : Int32) = 0 then 0 else 1) else (-1) : Int32)))) 21 i = (T246 21 i) + (if (if 0 ≤ (T246 24 i) then (if ¬ (T246 20 i) = 2 then (if (T246 21 i) ≤ 0 then 0 else (if ¬ (T246 23 i) = 0 then 0 else 1)) else (if ((2 * (T246 21 i)) - (T246 23 i)) ≤ (T246 21 i) then 0 else 1)) else (if (T246 21 i) ≤ 0 then 0 else 1) : Int32) = 0 then (if (if ¬ (if 0 ≤ (T246 24 i) then (if ¬ (T246 20 i) = 2 then (if (T246 21 i) ≤ 0 then 0 else (if ¬ (T246 23 i) = 0 then 0 else 1)) else (if ((2 * (T246 21 i)) - (T246 23 i)) ≤ (T246 21 i) then 0 else 1)) else (if (T246 21 i) ≤ 0 then 0 else 1) : Int32) = 0 then 0 else (if (T246 24 i) < 0 then 0 else (if (T246 22 0) < 0 then 0 else (if 3 ≤ (T246 21 i) then 0 else (if (T246 24 i) < ((5 * (T246 21 i)) + 5) then 0 else (if ¬ ((2 * (T246 21 i)) - (T246 23 i)) = 0 then 0 else 1))))) : Int32) = 0 then 0 else 1) else (-1) : Int32) from pk_us]
                            refine lv_icmp_ne (tgt := 456) cx.1 cx.2.1 dL_isMonth_449 (by decide) (fun c48 => ?_) (fun c48 => ?_)
                            · have c48 : ¬ (T246 1 i) = ((T246 21 i) + (if (if 0 ≤ (T246 24 i) then (if ¬ (T246 20 i) = 2 then (if (T246 21 i) ≤ 0 then 0 else (if ¬ (T246 23 i) = 0 then 0 else 1)) else (if ((2 * (T246 21 i)) - (T246 23 i)) ≤ (T246 21 i) then 0 else 1)) else (if (T246 21 i) ≤ 0 then 0 else 1) : Int32) = 0 then (if (if ¬ (if 0 ≤ (T246 24 i) then (if ¬ (T246 20 i) = 2 then (if (T246 21 i) ≤ 0 then 0 else (if ¬ (T246 23 i) = 0 then 0 else 1)) else (if ((2 * (T246 21 i)) - (T246 23 i)) ≤ (T246 21 i) then 0 else 1)) else (if (T246 21 i) ≤ 0 then 0 else 1) : Int32) = 0 then 0 else (if (T246 24 i) < 0 then 0 else (if (T246 22 0) < 0 then 0 else (if 3 ≤ (T246 21 i) then 0 else (if (T246 24 i) < ((5 * (T246 21 i)) + 5) then 0 else (if ¬ ((2 * (T246 21 i)) - (T246 23 i)) = 0 then 0 else 1))))) : Int32) = 0 then 0 else 1) else (-1) : Int32)) := c48
                              exact absurd (by first | exact lev_z hMF hM hi (Or.inl hz2) | exact lev_z hMF hM hi (Or.inr hz3) | exact lev_n hMF hM hi hz2 hz3) c48
                            · have c48 : (T246 1 i) = ((T246 21 i) + (if (if 0 ≤ (T246 24 i) then (if ¬ (T246 20 i) = 2 then (if (T246 21 i) ≤ 0 then 0 else (if ¬ (T246 23 i) = 0 then 0 else 1)) else (if ((2 * (T246 21 i)) - (T246 23 i)) ≤ (T246 21 i) then 0 else 1)) else (if (T246 21 i) ≤ 0 then 0 else 1) : Int32) = 0 then (if (if ¬ (if 0 ≤ (T246 24 i) then (if ¬ (T246 20 i) = 2 then (if (T246 21 i) ≤ 0 then 0 else (if ¬ (T246 23 i) = 0 then 0 else 1)) else (if ((2 * (T246 21 i)) - (T246 23 i)) ≤ (T246 21 i) then 0 else 1)) else (if (T246 21 i) ≤ 0 then 0 else 1) : Int32) = 0 then 0 else (if (T246 24 i) < 0 then 0 else (if (T246 22 0) < 0 then 0 else (if 3 ≤ (T246 21 i) then 0 else (if (T246 24 i) < ((5 * (T246 21 i)) + 5) then 0 else (if ¬ ((2 * (T246 21 i)) - (T246 23 i)) = 0 then 0 else 1))))) : Int32) = 0 then 0 else 1) else (-1) : Int32)) := c48
                              refine lv_iconst (v := 1) cx.1 cx.2.1 dL_isMonth_452 (by decide) ?_
                              refine lv_goto (tgt := 457) cx.1 cx.2.1 dL_isMonth_453 (by decide) ?_
                              refine lv_istore (lv' := [(7, .int 1), (11, .int (if ¬ (if 0 ≤ (T246 24 i) then (if ¬ (T246 20 i) = 2 then (if (T246 21 i) ≤ 0 then 0 else (if ¬ (T246 23 i) = 0 then 0 else 1)) else (if ((2 * (T246 21 i)) - (T246 23 i)) ≤ (T246 21 i) then 0 else 1)) else (if (T246 21 i) ≤ 0 then 0 else 1) : Int32) = 0 then 0 else (if (T246 24 i) < 0 then 0 else (if (T246 22 0) < 0 then 0 else (if 3 ≤ (T246 21 i) then 0 else (if (T246 24 i) < ((5 * (T246 21 i)) + 5) then 0 else (if ¬ ((2 * (T246 21 i)) - (T246 23 i)) = 0 then 0 else 1))))) : Int32)), (10, .int (if 0 ≤ (T246 24 i) then (if ¬ (T246 20 i) = 2 then (if (T246 21 i) ≤ 0 then 0 else (if ¬ (T246 23 i) = 0 then 0 else 1)) else (if ((2 * (T246 21 i)) - (T246 23 i)) ≤ (T246 21 i) then 0 else 1)) else (if (T246 21 i) ≤ 0 then 0 else 1) : Int32)), (9, .int ((2 * (T246 21 i)) - (T246 23 i))), (8, .int (nI i)), (6, .int N1), (5, .ref (ad2 40)), (4, .ref (ad2 39)), (0, .ref (ad2 0)), (1, .ref (ad2 36)), (2, .ref (ad2 37)), (3, .ref (ad2 38))]) cx.1 cx.2.1 dL_isMonth_457 hl (by decide) rfl (fun ls hl => ?_)
                              refine lv_iinc (v := nI (i + 1)) (lv' := [(8, .int (nI (i + 1))), (7, .int 1), (11, .int (if ¬ (if 0 ≤ (T246 24 i) then (if ¬ (T246 20 i) = 2 then (if (T246 21 i) ≤ 0 then 0 else (if ¬ (T246 23 i) = 0 then 0 else 1)) else (if ((2 * (T246 21 i)) - (T246 23 i)) ≤ (T246 21 i) then 0 else 1)) else (if (T246 21 i) ≤ 0 then 0 else 1) : Int32) = 0 then 0 else (if (T246 24 i) < 0 then 0 else (if (T246 22 0) < 0 then 0 else (if 3 ≤ (T246 21 i) then 0 else (if (T246 24 i) < ((5 * (T246 21 i)) + 5) then 0 else (if ¬ ((2 * (T246 21 i)) - (T246 23 i)) = 0 then 0 else 1))))) : Int32)), (10, .int (if 0 ≤ (T246 24 i) then (if ¬ (T246 20 i) = 2 then (if (T246 21 i) ≤ 0 then 0 else (if ¬ (T246 23 i) = 0 then 0 else 1)) else (if ((2 * (T246 21 i)) - (T246 23 i)) ≤ (T246 21 i) then 0 else 1)) else (if (T246 21 i) ≤ 0 then 0 else 1) : Int32)), (9, .int ((2 * (T246 21 i)) - (T246 23 i))), (6, .int N1), (5, .ref (ad2 40)), (4, .ref (ad2 39)), (0, .ref (ad2 0)), (1, .ref (ad2 36)), (2, .ref (ad2 37)), (3, .ref (ad2 38))]) cx.1 cx.2.1 dL_isMonth_459 hl (k := 4) rfl (nI_1 i) (by decide) rfl (fun ls hl => ?_)
                              refine lv_goto (tgt := 246) cx.1 cx.2.1 dL_isMonth_462 (by decide) ?_
                              have ha246 : lp_L_isMonth_246 S2 F TD (i + 1) = zUp T246 21 (upd (T246 21) i ((T246 21 i) + (if (if 0 ≤ (T246 24 i) then (if ¬ (T246 20 i) = 2 then (if (T246 21 i) ≤ 0 then 0 else (if ¬ (T246 23 i) = 0 then 0 else 1)) else (if ((2 * (T246 21 i)) - (T246 23 i)) ≤ (T246 21 i) then 0 else 1)) else (if (T246 21 i) ≤ 0 then 0 else 1) : Int32) = 0 then (if (if ¬ (if 0 ≤ (T246 24 i) then (if ¬ (T246 20 i) = 2 then (if (T246 21 i) ≤ 0 then 0 else (if ¬ (T246 23 i) = 0 then 0 else 1)) else (if ((2 * (T246 21 i)) - (T246 23 i)) ≤ (T246 21 i) then 0 else 1)) else (if (T246 21 i) ≤ 0 then 0 else 1) : Int32) = 0 then 0 else (if (T246 24 i) < 0 then 0 else (if (T246 22 0) < 0 then 0 else (if 3 ≤ (T246 21 i) then 0 else (if (T246 24 i) < ((5 * (T246 21 i)) + 5) then 0 else (if ¬ ((2 * (T246 21 i)) - (T246 23 i)) = 0 then 0 else 1))))) : Int32) = 0 then 0 else 1) else (-1) : Int32))) := by
                                show bd_L_isMonth_246 S2 F i (lp_L_isMonth_246 S2 F TD i) = _
                                rw [hacc246]
                                unfold bd_L_isMonth_246
                                rw [if_neg c16, if_neg (not_not_intro c32)]
                              exact ih246 (i + 1) (zUp T246 21 (upd (T246 21) i ((T246 21 i) + (if (if 0 ≤ (T246 24 i) then (if ¬ (T246 20 i) = 2 then (if (T246 21 i) ≤ 0 then 0 else (if ¬ (T246 23 i) = 0 then 0 else 1)) else (if ((2 * (T246 21 i)) - (T246 23 i)) ≤ (T246 21 i) then 0 else 1)) else (if (T246 21 i) ≤ 0 then 0 else 1) : Int32) = 0 then (if (if ¬ (if 0 ≤ (T246 24 i) then (if ¬ (T246 20 i) = 2 then (if (T246 21 i) ≤ 0 then 0 else (if ¬ (T246 23 i) = 0 then 0 else 1)) else (if ((2 * (T246 21 i)) - (T246 23 i)) ≤ (T246 21 i) then 0 else 1)) else (if (T246 21 i) ≤ 0 then 0 else 1) : Int32) = 0 then 0 else (if (T246 24 i) < 0 then 0 else (if (T246 22 0) < 0 then 0 else (if 3 ≤ (T246 21 i) then 0 else (if (T246 24 i) < ((5 * (T246 21 i)) + 5) then 0 else (if ¬ ((2 * (T246 21 i)) - (T246 23 i)) = 0 then 0 else 1))))) : Int32) = 0 then 0 else 1) else (-1) : Int32)))) (by omega) ha246 (by first | exact MI_z hM hi (lev_z hMF hM hi (Or.inl hz2)) | exact MI_z hM hi (lev_z hMF hM hi (Or.inr hz3)) | exact MI_n hM hi (lev_n hMF hM hi hz2 hz3)) (by omega) _ _ ls hP hS (lv_sub hl [0, 1, 5, 6, 7, 8, 9, 10, 11] rfl)
                          refine lv_iload cx.1 cx.2.1 dL_isMonth_418 (lv_at hl 1 rfl) ?_
                          refine lv_if_eq (tgt := 427) cx.1 cx.2.1 dL_isMonth_420 (by decide) (fun c46 => ?_) (fun c46 => ?_)
                          · refine lv_iload cx.1 cx.2.1 dL_isMonth_427 (lv_at hl 0 rfl) ?_
                            refine lv_if_eq (tgt := 436) cx.1 cx.2.1 dL_isMonth_429 (by decide) (fun c47 => ?_) (fun c47 => ?_)
                            · refine lv_iconst (v := 0) cx.1 cx.2.1 dL_isMonth_436 (by decide) ?_
                              exact j437 _ _ _ (by first | (rw [if_pos c46, if_pos c47]; done) | exact Eq.symm ((if_pos c46).trans ((if_pos c47).trans (rfl)))) hP hS
                            · refine lv_iconst (v := 1) cx.1 cx.2.1 dL_isMonth_432 (by decide) ?_
                              refine lv_goto (tgt := 437) cx.1 cx.2.1 dL_isMonth_433 (by decide) ?_
                              exact j437 _ _ _ (by first | (rw [if_pos c46, if_neg c47]; done) | exact Eq.symm ((if_pos c46).trans ((if_neg c47).trans (rfl)))) hP hS
                          · refine lv_iconst (v := (-1)) cx.1 cx.2.1 dL_isMonth_423 (by decide) ?_
                            refine lv_goto (tgt := 437) cx.1 cx.2.1 dL_isMonth_424 (by decide) ?_
                            exact j437 _ _ _ (by first | (rw [if_neg c46]; done) | exact Eq.symm ((if_neg c46).trans (rfl))) hP hS
                        refine lv_iload cx.1 cx.2.1 dL_isMonth_358 (lv_at hl 0 rfl) ?_
                        refine lv_if_ne (tgt := 410) cx.1 cx.2.1 dL_isMonth_360 (by decide) (fun c40 => ?_) (fun c40 => ?_)
                        · refine lv_iconst (v := 0) cx.1 cx.2.1 dL_isMonth_410 (by decide) ?_
                          exact j411 _ _ _ (by first | (rw [if_pos c40]; done) | exact Eq.symm ((if_pos c40).trans (rfl))) hP hS
                        · refine lv_aload cx.1 cx.2.1 dL_isMonth_363 (lv_at hl 5 rfl) ?_
                          refine lv_iload cx.1 cx.2.1 dL_isMonth_365 (lv_at hl 2 rfl) ?_
                          refine zIldN cx hK hP 40 0 rfl rfl (i) (by omega) (by decide) rfl dL_isMonth_367 ?_
                          refine lv_if_lt (tgt := 410) cx.1 cx.2.1 dL_isMonth_368 (by decide) (fun c41 => ?_) (fun c41 => ?_)
                          · refine lv_iconst (v := 0) cx.1 cx.2.1 dL_isMonth_410 (by decide) ?_
                            exact j411 _ _ _ (by first | (rw [if_neg (not_not_intro c40), if_pos c41]; done) | exact Eq.symm ((if_neg (not_not_intro c40)).trans ((if_pos c41).trans (rfl)))) hP hS
                          · refine lv_aload_n cx.1 cx.2.1 dL_isMonth_371 rfl (lv_at hl 10 rfl) ?_
                            refine lv_iconst (v := 0) cx.1 cx.2.1 dL_isMonth_372 (by decide) ?_
                            refine zIldN cx hK hP 38 0 rfl rfl (0) (by omega) (by decide) rfl dL_isMonth_373 ?_
                            refine lv_if_lt (tgt := 410) cx.1 cx.2.1 dL_isMonth_374 (by decide) (fun c42 => ?_) (fun c42 => ?_)
                            · refine lv_iconst (v := 0) cx.1 cx.2.1 dL_isMonth_410 (by decide) ?_
                              exact j411 _ _ _ (by first | (rw [if_neg (not_not_intro c40), if_neg c41, if_pos c42]; done) | exact Eq.symm ((if_neg (not_not_intro c40)).trans ((if_neg c41).trans ((if_pos c42).trans (rfl))))) hP hS
                            · refine lv_aload_n cx.1 cx.2.1 dL_isMonth_377 rfl (lv_at hl 9 rfl) ?_
                              refine lv_iload cx.1 cx.2.1 dL_isMonth_378 (lv_at hl 2 rfl) ?_
                              refine zIldN cx hK hP 37 0 rfl rfl (i) (by omega) (by decide) rfl dL_isMonth_380 ?_
                              refine lv_iconst (v := 3) cx.1 cx.2.1 dL_isMonth_381 (by decide) ?_
                              refine lv_icmp_ge (tgt := 410) cx.1 cx.2.1 dL_isMonth_382 (by decide) (fun c43 => ?_) (fun c43 => ?_)
                              · refine lv_iconst (v := 0) cx.1 cx.2.1 dL_isMonth_410 (by decide) ?_
                                exact j411 _ _ _ (by first | (rw [if_neg (not_not_intro c40), if_neg c41, if_neg c42, if_pos c43]; done) | exact Eq.symm ((if_neg (not_not_intro c40)).trans ((if_neg c41).trans ((if_neg c42).trans ((if_pos c43).trans (rfl)))))) hP hS
                              · refine lv_aload cx.1 cx.2.1 dL_isMonth_385 (lv_at hl 5 rfl) ?_
                                refine lv_iload cx.1 cx.2.1 dL_isMonth_387 (lv_at hl 2 rfl) ?_
                                refine zIldN cx hK hP 40 0 rfl rfl (i) (by omega) (by decide) rfl dL_isMonth_389 ?_
                                refine lv_iconst (v := 5) cx.1 cx.2.1 dL_isMonth_390 (by decide) ?_
                                refine lv_aload_n cx.1 cx.2.1 dL_isMonth_391 rfl (lv_at hl 9 rfl) ?_
                                refine lv_iload cx.1 cx.2.1 dL_isMonth_392 (lv_at hl 2 rfl) ?_
                                refine zIldN cx hK hP 37 0 rfl rfl (i) (by omega) (by decide) rfl dL_isMonth_394 ?_
                                refine lv_imul cx.1 cx.2.1 dL_isMonth_395 ?_
                                refine lv_iconst (v := 5) cx.1 cx.2.1 dL_isMonth_396 (by decide) ?_
                                refine lv_iadd cx.1 cx.2.1 dL_isMonth_397 ?_
                                refine lv_icmp_lt (tgt := 410) cx.1 cx.2.1 dL_isMonth_398 (by decide) (fun c44 => ?_) (fun c44 => ?_)
                                · refine lv_iconst (v := 0) cx.1 cx.2.1 dL_isMonth_410 (by decide) ?_
                                  exact j411 _ _ _ (by first | (rw [if_neg (not_not_intro c40), if_neg c41, if_neg c42, if_neg c43, if_pos c44]; done) | exact Eq.symm ((if_neg (not_not_intro c40)).trans ((if_neg c41).trans ((if_neg c42).trans ((if_neg c43).trans ((if_pos c44).trans (rfl))))))) hP hS
                                · refine lv_iload cx.1 cx.2.1 dL_isMonth_401 (lv_at hl 1 rfl) ?_
                                  refine lv_if_ne (tgt := 410) cx.1 cx.2.1 dL_isMonth_403 (by decide) (fun c45 => ?_) (fun c45 => ?_)
                                  · refine lv_iconst (v := 0) cx.1 cx.2.1 dL_isMonth_410 (by decide) ?_
                                    exact j411 _ _ _ (by first | (rw [if_neg (not_not_intro c40), if_neg c41, if_neg c42, if_neg c43, if_neg c44, if_pos c45]; done) | exact Eq.symm ((if_neg (not_not_intro c40)).trans ((if_neg c41).trans ((if_neg c42).trans ((if_neg c43).trans ((if_neg c44).trans ((if_pos c45).trans (rfl)))))))) hP hS
                                  · refine lv_iconst (v := 1) cx.1 cx.2.1 dL_isMonth_406 (by decide) ?_
                                    refine lv_goto (tgt := 411) cx.1 cx.2.1 dL_isMonth_407 (by decide) ?_
                                    exact j411 _ _ _ (by first | (rw [if_neg (not_not_intro c40), if_neg c41, if_neg c42, if_neg c43, if_neg c44, if_neg (not_not_intro c45)]; done) | exact Eq.symm ((if_neg (not_not_intro c40)).trans ((if_neg c41).trans ((if_neg c42).trans ((if_neg c43).trans ((if_neg c44).trans ((if_neg (not_not_intro c45)).trans (rfl)))))))) hP hS
                      refine lv_aload cx.1 cx.2.1 dL_isMonth_288 (lv_at hl 4 rfl) ?_
                      refine lv_iload cx.1 cx.2.1 dL_isMonth_290 (lv_at hl 1 rfl) ?_
                      refine zIldN cx hK hP 40 0 rfl rfl (i) (by omega) (by decide) rfl dL_isMonth_292 ?_
                      refine lv_if_ge (tgt := 311) cx.1 cx.2.1 dL_isMonth_293 (by decide) (fun c34 => ?_) (fun c34 => ?_)
                      · refine lv_aload_n cx.1 cx.2.1 dL_isMonth_311 rfl (lv_at hl 7 rfl) ?_
                        refine lv_iload cx.1 cx.2.1 dL_isMonth_312 (lv_at hl 1 rfl) ?_
                        refine zIldN cx hK hP 36 0 rfl rfl (i) (by omega) (by decide) rfl dL_isMonth_314 ?_
                        refine lv_iconst (v := 2) cx.1 cx.2.1 dL_isMonth_315 (by decide) ?_
                        refine lv_icmp_ne (tgt := 336) cx.1 cx.2.1 dL_isMonth_316 (by decide) (fun c35 => ?_) (fun c35 => ?_)
                        · refine lv_aload_n cx.1 cx.2.1 dL_isMonth_336 rfl (lv_at hl 8 rfl) ?_
                          refine lv_iload cx.1 cx.2.1 dL_isMonth_337 (lv_at hl 1 rfl) ?_
                          refine zIldN cx hK hP 37 0 rfl rfl (i) (by omega) (by decide) rfl dL_isMonth_339 ?_
                          refine lv_if_le (tgt := 355) cx.1 cx.2.1 dL_isMonth_340 (by decide) (fun c36 => ?_) (fun c36 => ?_)
                          · refine lv_iconst (v := 0) cx.1 cx.2.1 dL_isMonth_355 (by decide) ?_
                            exact j356 _ _ _ (by first | (rw [if_pos c34, if_pos c35, if_pos c36]; done) | exact Eq.symm ((if_pos c34).trans ((if_pos c35).trans ((if_pos c36).trans (rfl))))) hP hS
                          · refine lv_aload cx.1 cx.2.1 dL_isMonth_343 (lv_at hl 5 rfl) ?_
                            refine lv_iload cx.1 cx.2.1 dL_isMonth_345 (lv_at hl 1 rfl) ?_
                            refine zIldN cx hK hP 39 0 rfl rfl (i) (by omega) (by decide) rfl dL_isMonth_347 ?_
                            refine lv_if_ne (tgt := 355) cx.1 cx.2.1 dL_isMonth_348 (by decide) (fun c37 => ?_) (fun c37 => ?_)
                            · refine lv_iconst (v := 0) cx.1 cx.2.1 dL_isMonth_355 (by decide) ?_
                              exact j356 _ _ _ (by first | (rw [if_pos c34, if_pos c35, if_neg c36, if_pos c37]; done) | exact Eq.symm ((if_pos c34).trans ((if_pos c35).trans ((if_neg c36).trans ((if_pos c37).trans (rfl)))))) hP hS
                            · refine lv_iconst (v := 1) cx.1 cx.2.1 dL_isMonth_351 (by decide) ?_
                              refine lv_goto (tgt := 356) cx.1 cx.2.1 dL_isMonth_352 (by decide) ?_
                              exact j356 _ _ _ (by first | (rw [if_pos c34, if_pos c35, if_neg c36, if_neg (not_not_intro c37)]; done) | exact Eq.symm ((if_pos c34).trans ((if_pos c35).trans ((if_neg c36).trans ((if_neg (not_not_intro c37)).trans (rfl)))))) hP hS
                        · refine lv_iload cx.1 cx.2.1 dL_isMonth_319 (lv_at hl 0 rfl) ?_
                          refine lv_aload_n cx.1 cx.2.1 dL_isMonth_321 rfl (lv_at hl 8 rfl) ?_
                          refine lv_iload cx.1 cx.2.1 dL_isMonth_322 (lv_at hl 1 rfl) ?_
                          refine zIldN cx hK hP 37 0 rfl rfl (i) (by omega) (by decide) rfl dL_isMonth_324 ?_
                          refine lv_icmp_le (tgt := 332) cx.1 cx.2.1 dL_isMonth_325 (by decide) (fun c38 => ?_) (fun c38 => ?_)
                          · refine lv_iconst (v := 0) cx.1 cx.2.1 dL_isMonth_332 (by decide) ?_
                            refine lv_goto (tgt := 356) cx.1 cx.2.1 dL_isMonth_333 (by decide) ?_
                            exact j356 _ _ _ (by first | (rw [if_pos c34, if_neg (not_not_intro c35), if_pos c38]; done) | exact Eq.symm ((if_pos c34).trans ((if_neg (not_not_intro c35)).trans ((if_pos c38).trans (rfl))))) hP hS
                          · refine lv_iconst (v := 1) cx.1 cx.2.1 dL_isMonth_328 (by decide) ?_
                            refine lv_goto (tgt := 356) cx.1 cx.2.1 dL_isMonth_329 (by decide) ?_
                            exact j356 _ _ _ (by first | (rw [if_pos c34, if_neg (not_not_intro c35), if_neg c38]; done) | exact Eq.symm ((if_pos c34).trans ((if_neg (not_not_intro c35)).trans ((if_neg c38).trans (rfl))))) hP hS
                      · refine lv_aload_n cx.1 cx.2.1 dL_isMonth_296 rfl (lv_at hl 8 rfl) ?_
                        refine lv_iload cx.1 cx.2.1 dL_isMonth_297 (lv_at hl 1 rfl) ?_
                        refine zIldN cx hK hP 37 0 rfl rfl (i) (by omega) (by decide) rfl dL_isMonth_299 ?_
                        refine lv_if_le (tgt := 307) cx.1 cx.2.1 dL_isMonth_300 (by decide) (fun c39 => ?_) (fun c39 => ?_)
                        · refine lv_iconst (v := 0) cx.1 cx.2.1 dL_isMonth_307 (by decide) ?_
                          refine lv_goto (tgt := 356) cx.1 cx.2.1 dL_isMonth_308 (by decide) ?_
                          exact j356 _ _ _ (by first | (rw [if_neg c34, if_pos c39]; done) | exact Eq.symm ((if_neg c34).trans ((if_pos c39).trans (rfl)))) hP hS
                        · refine lv_iconst (v := 1) cx.1 cx.2.1 dL_isMonth_303 (by decide) ?_
                          refine lv_goto (tgt := 356) cx.1 cx.2.1 dL_isMonth_304 (by decide) ?_
                          exact j356 _ _ _ (by first | (rw [if_neg c34, if_neg c39]; done) | exact Eq.symm ((if_neg c34).trans ((if_neg c39).trans (rfl)))) hP hS
            exact lp246 (64 - 0 + 1) 0 TD (by omega) rfl (MI_0 TD) (Nat.lt_succ_self _) _ _ ls hP hS (lv_sub hl [0, 1, 2, 3, 4, 5, 6, 7, 8] rfl)
        · have nc2 : ¬ 64 ≤ i := fun z => c2 ((nI_leI (a := 64) (b := i) (by first | decide | omega) (by first | decide | omega)).mpr z)
          have j67 : ∀ (v : Int32) (H : Heap) (locs : List Loc), v = (if (T39 20 i) = 2 then 1 else (if ¬ (T39 20 i) = 3 then 0 else 1) : Int32) → va_P (dC, dI) vwCl (nw cyI ad2 T39) H → va_S (zA ad2 41 s.heap.size) s.heap H locs → W p l e (headSpec wsB_isMonth ({ frames := 9, cells := 6, slots := 152, locals := 203 } : Room)).room s m args below meth c H locs 2 128 Q (F0 m 67 ls (.int v :: [])) := by
            intro v H locs hv hP hS
            subst hv
            refine lv_istore (lv' := [(8, .int (if (T39 20 i) = 2 then 1 else (if ¬ (T39 20 i) = 3 then 0 else 1) : Int32)), (7, .int (nI i)), (6, .int sm), (5, .ref (ad2 40)), (4, .ref (ad2 39)), (0, .ref (ad2 0)), (1, .ref (ad2 36)), (2, .ref (ad2 37)), (3, .ref (ad2 38))]) cx.1 cx.2.1 dL_isMonth_67 hl (by decide) rfl (fun ls hl => ?_)
            refine lv_aload cx.1 cx.2.1 dL_isMonth_69 (lv_at hl 4 rfl) ?_
            refine lv_iload cx.1 cx.2.1 dL_isMonth_71 (lv_at hl 1 rfl) ?_
            have j88 : ∀ (v : Int32) (H : Heap) (locs : List Loc), v = (if (if (T39 20 i) = 2 then 1 else (if ¬ (T39 20 i) = 3 then 0 else 1) : Int32) = 0 then 0 else (F 9 i) : Int32) → va_P (dC, dI) vwCl (nw cyI ad2 T39) H → va_S (zA ad2 41 s.heap.size) s.heap H locs → W p l e (headSpec wsB_isMonth ({ frames := 9, cells := 6, slots := 152, locals := 203 } : Room)).room s m args below meth c H locs 2 128 Q (F0 m 88 ls (.int v :: [.int (nI i), .ref (ad2 39)])) := by
              intro v H locs hv hP hS
              subst hv
              refine zIstN cx (nw_W cyI ad2) hI2 hK hP hS 39 0 rfl rfl (i) (by omega) (by decide) rfl (zUp T39 23 (upd (T39 23) i (if (if (T39 20 i) = 2 then 1 else (if ¬ (T39 20 i) = 3 then 0 else 1) : Int32) = 0 then 0 else (F 9 i) : Int32))) rfl dL_isMonth_88 (fun H locs hP hS => ?_)
              refine lv_aload cx.1 cx.2.1 dL_isMonth_89 (lv_at hl 3 rfl) ?_
              refine lv_iload cx.1 cx.2.1 dL_isMonth_91 (lv_at hl 1 rfl) ?_
              have j117 : ∀ (v : Int32) (H : Heap) (locs : List Loc), v = (if (if (T39 20 i) = 2 then 1 else (if ¬ (T39 20 i) = 3 then 0 else 1) : Int32) = 0 then (-1) else (if (F 8 i) = 0 then (-1) else (f_X7_valueOf F i)) : Int32) → va_P (dC, dI) vwCl (nw cyI ad2 (zUp T39 23 (upd (T39 23) i (if (if (T39 20 i) = 2 then 1 else (if ¬ (T39 20 i) = 3 then 0 else 1) : Int32) = 0 then 0 else (F 9 i) : Int32)))) H → va_S (zA ad2 41 s.heap.size) s.heap H locs → W p l e (headSpec wsB_isMonth ({ frames := 9, cells := 6, slots := 152, locals := 203 } : Room)).room s m args below meth c H locs 2 128 Q (F0 m 117 ls (.int v :: [.int (nI i), .ref (ad2 40)])) := by
                intro v H locs hv hP hS
                subst hv
                refine zIstN cx (nw_W cyI ad2) hI2 hK hP hS 40 0 rfl rfl (i) (by omega) (by decide) rfl (zUp (zUp T39 23 (upd (T39 23) i (if (if (T39 20 i) = 2 then 1 else (if ¬ (T39 20 i) = 3 then 0 else 1) : Int32) = 0 then 0 else (F 9 i) : Int32))) 24 (upd (T39 24) i (if (if (T39 20 i) = 2 then 1 else (if ¬ (T39 20 i) = 3 then 0 else 1) : Int32) = 0 then (-1) else (if (F 8 i) = 0 then (-1) else (f_X7_valueOf F i)) : Int32))) rfl dL_isMonth_117 (fun H locs hP hS => ?_)
                refine lv_iload cx.1 cx.2.1 dL_isMonth_118 (lv_at hl 2 rfl) ?_
                have j199 : ∀ (v : Int32) (H : Heap) (locs : List Loc), v = (if ¬ (T39 20 i) = 2 then (if ¬ (T39 20 i) = 3 then (if ¬ (T39 20 i) = 1 then (if ¬ (T39 20 i) = 4 then (if (T39 20 i) ≤ 4 then 0 else (-10)) else (-2)) else (-1)) else ((T39 22 4) * (if (if (T39 20 i) = 2 then 1 else (if ¬ (T39 20 i) = 3 then 0 else 1) : Int32) = 0 then 0 else (F 9 i) : Int32))) else ((T39 22 3) * (if (if (T39 20 i) = 2 then 1 else (if ¬ (T39 20 i) = 3 then 0 else 1) : Int32) = 0 then 0 else (F 9 i) : Int32)) : Int32) → va_P (dC, dI) vwCl (nw cyI ad2 (zUp (zUp T39 23 (upd (T39 23) i (if (if (T39 20 i) = 2 then 1 else (if ¬ (T39 20 i) = 3 then 0 else 1) : Int32) = 0 then 0 else (F 9 i) : Int32))) 24 (upd (T39 24) i (if (if (T39 20 i) = 2 then 1 else (if ¬ (T39 20 i) = 3 then 0 else 1) : Int32) = 0 then (-1) else (if (F 8 i) = 0 then (-1) else (f_X7_valueOf F i)) : Int32)))) H → va_S (zA ad2 41 s.heap.size) s.heap H locs → W p l e (headSpec wsB_isMonth ({ frames := 9, cells := 6, slots := 152, locals := 203 } : Room)).room s m args below meth c H locs 2 128 Q (F0 m 199 ls (.int v :: [.int sm])) := by
                  intro v H locs hv hP hS
                  subst hv
                  refine lv_iadd cx.1 cx.2.1 dL_isMonth_199 ?_
                  refine lv_istore (lv' := [(6, .int (sm + (if ¬ (T39 20 i) = 2 then (if ¬ (T39 20 i) = 3 then (if ¬ (T39 20 i) = 1 then (if ¬ (T39 20 i) = 4 then (if (T39 20 i) ≤ 4 then 0 else (-10)) else (-2)) else (-1)) else ((T39 22 4) * (if (if (T39 20 i) = 2 then 1 else (if ¬ (T39 20 i) = 3 then 0 else 1) : Int32) = 0 then 0 else (F 9 i) : Int32))) else ((T39 22 3) * (if (if (T39 20 i) = 2 then 1 else (if ¬ (T39 20 i) = 3 then 0 else 1) : Int32) = 0 then 0 else (F 9 i) : Int32)) : Int32))), (8, .int (if (T39 20 i) = 2 then 1 else (if ¬ (T39 20 i) = 3 then 0 else 1) : Int32)), (7, .int (nI i)), (5, .ref (ad2 40)), (4, .ref (ad2 39)), (0, .ref (ad2 0)), (1, .ref (ad2 36)), (2, .ref (ad2 37)), (3, .ref (ad2 38))]) cx.1 cx.2.1 dL_isMonth_200 hl (by decide) rfl (fun ls hl => ?_)
                  refine lv_iinc (v := nI (i + 1)) (lv' := [(7, .int (nI (i + 1))), (6, .int (sm + (if ¬ (T39 20 i) = 2 then (if ¬ (T39 20 i) = 3 then (if ¬ (T39 20 i) = 1 then (if ¬ (T39 20 i) = 4 then (if (T39 20 i) ≤ 4 then 0 else (-10)) else (-2)) else (-1)) else ((T39 22 4) * (if (if (T39 20 i) = 2 then 1 else (if ¬ (T39 20 i) = 3 then 0 else 1) : Int32) = 0 then 0 else (F 9 i) : Int32))) else ((T39 22 3) * (if (if (T39 20 i) = 2 then 1 else (if ¬ (T39 20 i) = 3 then 0 else 1) : Int32) = 0 then 0 else (F 9 i) : Int32)) : Int32))), (8, .int (if (T39 20 i) = 2 then 1 else (if ¬ (T39 20 i) = 3 then 0 else 1) : Int32)), (5, .ref (ad2 40)), (4, .ref (ad2 39)), (0, .ref (ad2 0)), (1, .ref (ad2 36)), (2, .ref (ad2 37)), (3, .ref (ad2 38))]) cx.1 cx.2.1 dL_isMonth_202 hl (k := 2) rfl (nI_1 i) (by decide) rfl (fun ls hl => ?_)
                  refine lv_goto (tgt := 39) cx.1 cx.2.1 dL_isMonth_205 (by decide) ?_
                  have ha39 : lp_L_isMonth_39 S2 F (-(((nI d) / 100) + (if ((nI d) - (nI d) / 100 * 100) ≤ 0 then 0 else 1 : Int32))) S2 (i + 1) = (sm + (if ¬ (T39 20 i) = 2 then (if ¬ (T39 20 i) = 3 then (if ¬ (T39 20 i) = 1 then (if ¬ (T39 20 i) = 4 then (if (T39 20 i) ≤ 4 then 0 else (-10)) else (-2)) else (-1)) else ((T39 22 4) * (if (if (T39 20 i) = 2 then 1 else (if ¬ (T39 20 i) = 3 then 0 else 1) : Int32) = 0 then 0 else (F 9 i) : Int32))) else ((T39 22 3) * (if (if (T39 20 i) = 2 then 1 else (if ¬ (T39 20 i) = 3 then 0 else 1) : Int32) = 0 then 0 else (F 9 i) : Int32)) : Int32), zUp (zUp T39 23 (upd (T39 23) i (if (if (T39 20 i) = 2 then 1 else (if ¬ (T39 20 i) = 3 then 0 else 1) : Int32) = 0 then 0 else (F 9 i) : Int32))) 24 (upd (T39 24) i (if (if (T39 20 i) = 2 then 1 else (if ¬ (T39 20 i) = 3 then 0 else 1) : Int32) = 0 then (-1) else (if (F 8 i) = 0 then (-1) else (f_X7_valueOf F i)) : Int32))) := by
                    show bd_L_isMonth_39 S2 F i (lp_L_isMonth_39 S2 F (-(((nI d) / 100) + (if ((nI d) - (nI d) / 100 * 100) ≤ 0 then 0 else 1 : Int32))) S2 i).1 (lp_L_isMonth_39 S2 F (-(((nI d) / 100) + (if ((nI d) - (nI d) / 100 * 100) ≤ 0 then 0 else 1 : Int32))) S2 i).2 = _
                    rw [hacc39]
                    unfold bd_L_isMonth_39
                    rfl
                  exact ih39 (i + 1) (sm + (if ¬ (T39 20 i) = 2 then (if ¬ (T39 20 i) = 3 then (if ¬ (T39 20 i) = 1 then (if ¬ (T39 20 i) = 4 then (if (T39 20 i) ≤ 4 then 0 else (-10)) else (-2)) else (-1)) else ((T39 22 4) * (if (if (T39 20 i) = 2 then 1 else (if ¬ (T39 20 i) = 3 then 0 else 1) : Int32) = 0 then 0 else (F 9 i) : Int32))) else ((T39 22 3) * (if (if (T39 20 i) = 2 then 1 else (if ¬ (T39 20 i) = 3 then 0 else 1) : Int32) = 0 then 0 else (F 9 i) : Int32)) : Int32)) (zUp (zUp T39 23 (upd (T39 23) i (if (if (T39 20 i) = 2 then 1 else (if ¬ (T39 20 i) = 3 then 0 else 1) : Int32) = 0 then 0 else (F 9 i) : Int32))) 24 (upd (T39 24) i (if (if (T39 20 i) = 2 then 1 else (if ¬ (T39 20 i) = 3 then 0 else 1) : Int32) = 0 then (-1) else (if (F 8 i) = 0 then (-1) else (f_X7_valueOf F i)) : Int32))) (by omega) ha39 (LF_u24 (LF_u23 hF _) _) (by omega) _ _ ls hP hS (lv_sub hl [0, 1, 3, 4, 5, 6, 7, 8] rfl)
                refine lv_aload_n cx.1 cx.2.1 dL_isMonth_120 rfl (lv_at hl 6 rfl) ?_
                refine lv_iload cx.1 cx.2.1 dL_isMonth_121 (lv_at hl 1 rfl) ?_
                refine zIldN cx hK hP 36 0 rfl rfl (i) (by omega) (by decide) rfl dL_isMonth_123 ?_
                refine lv_iconst (v := 2) cx.1 cx.2.1 dL_isMonth_124 (by decide) ?_
                refine lv_icmp_ne (tgt := 140) cx.1 cx.2.1 dL_isMonth_125 (by decide) (fun c8 => ?_) (fun c8 => ?_)
                · have c8 : ¬ (T39 20 i) = 2 := c8
                  refine lv_aload_n cx.1 cx.2.1 dL_isMonth_140 rfl (lv_at hl 6 rfl) ?_
                  refine lv_iload cx.1 cx.2.1 dL_isMonth_141 (lv_at hl 1 rfl) ?_
                  refine zIldN cx hK hP 36 0 rfl rfl (i) (by omega) (by decide) rfl dL_isMonth_143 ?_
                  refine lv_iconst (v := 3) cx.1 cx.2.1 dL_isMonth_144 (by decide) ?_
                  refine lv_icmp_ne (tgt := 160) cx.1 cx.2.1 dL_isMonth_145 (by decide) (fun c9 => ?_) (fun c9 => ?_)
                  · have c9 : ¬ (T39 20 i) = 3 := c9
                    refine lv_aload_n cx.1 cx.2.1 dL_isMonth_160 rfl (lv_at hl 6 rfl) ?_
                    refine lv_iload cx.1 cx.2.1 dL_isMonth_161 (lv_at hl 1 rfl) ?_
                    refine zIldN cx hK hP 36 0 rfl rfl (i) (by omega) (by decide) rfl dL_isMonth_163 ?_
                    refine lv_iconst (v := 1) cx.1 cx.2.1 dL_isMonth_164 (by decide) ?_
                    refine lv_icmp_ne (tgt := 172) cx.1 cx.2.1 dL_isMonth_165 (by decide) (fun c10 => ?_) (fun c10 => ?_)
                    · have c10 : ¬ (T39 20 i) = 1 := c10
                      refine lv_aload_n cx.1 cx.2.1 dL_isMonth_172 rfl (lv_at hl 6 rfl) ?_
                      refine lv_iload cx.1 cx.2.1 dL_isMonth_173 (lv_at hl 1 rfl) ?_
                      refine zIldN cx hK hP 36 0 rfl rfl (i) (by omega) (by decide) rfl dL_isMonth_175 ?_
                      refine lv_iconst (v := 4) cx.1 cx.2.1 dL_isMonth_176 (by decide) ?_
                      refine lv_icmp_ne (tgt := 185) cx.1 cx.2.1 dL_isMonth_177 (by decide) (fun c11 => ?_) (fun c11 => ?_)
                      · have c11 : ¬ (T39 20 i) = 4 := c11
                        refine lv_aload_n cx.1 cx.2.1 dL_isMonth_185 rfl (lv_at hl 6 rfl) ?_
                        refine lv_iload cx.1 cx.2.1 dL_isMonth_186 (lv_at hl 1 rfl) ?_
                        refine zIldN cx hK hP 36 0 rfl rfl (i) (by omega) (by decide) rfl dL_isMonth_188 ?_
                        refine lv_iconst (v := 4) cx.1 cx.2.1 dL_isMonth_189 (by decide) ?_
                        refine lv_icmp_le (tgt := 198) cx.1 cx.2.1 dL_isMonth_190 (by decide) (fun c12 => ?_) (fun c12 => ?_)
                        · have c12 : (T39 20 i) ≤ 4 := c12
                          refine lv_iconst (v := 0) cx.1 cx.2.1 dL_isMonth_198 (by decide) ?_
                          exact j199 _ _ _ (by first | (rw [if_pos c8, if_pos c9, if_pos c10, if_pos c11, if_pos c12]; done) | exact Eq.symm ((if_pos c8).trans ((if_pos c9).trans ((if_pos c10).trans ((if_pos c11).trans ((if_pos c12).trans (rfl))))))) hP hS
                        · have c12 : ¬ (T39 20 i) ≤ 4 := c12
                          refine lv_bipush (v := (-10)) cx.1 cx.2.1 dL_isMonth_193 (by decide) ?_
                          refine lv_goto (tgt := 199) cx.1 cx.2.1 dL_isMonth_195 (by decide) ?_
                          exact j199 _ _ _ (by first | (rw [if_pos c8, if_pos c9, if_pos c10, if_pos c11, if_neg c12]; done) | exact Eq.symm ((if_pos c8).trans ((if_pos c9).trans ((if_pos c10).trans ((if_pos c11).trans ((if_neg c12).trans (rfl))))))) hP hS
                      · have c11 : (T39 20 i) = 4 := c11
                        refine lv_bipush (v := (-2)) cx.1 cx.2.1 dL_isMonth_180 (by decide) ?_
                        refine lv_goto (tgt := 199) cx.1 cx.2.1 dL_isMonth_182 (by decide) ?_
                        exact j199 _ _ _ (by first | (rw [if_pos c8, if_pos c9, if_pos c10, if_neg (not_not_intro c11)]; done) | exact Eq.symm ((if_pos c8).trans ((if_pos c9).trans ((if_pos c10).trans ((if_neg (not_not_intro c11)).trans (rfl)))))) hP hS
                    · have c10 : (T39 20 i) = 1 := c10
                      refine lv_iconst (v := (-1)) cx.1 cx.2.1 dL_isMonth_168 (by decide) ?_
                      refine lv_goto (tgt := 199) cx.1 cx.2.1 dL_isMonth_169 (by decide) ?_
                      exact j199 _ _ _ (by first | (rw [if_pos c8, if_pos c9, if_neg (not_not_intro c10)]; done) | exact Eq.symm ((if_pos c8).trans ((if_pos c9).trans ((if_neg (not_not_intro c10)).trans (rfl))))) hP hS
                  · have c9 : (T39 20 i) = 3 := c9
                    refine lv_aload_n cx.1 cx.2.1 dL_isMonth_148 rfl (lv_at hl 8 rfl) ?_
                    refine lv_iconst (v := 4) cx.1 cx.2.1 dL_isMonth_149 (by decide) ?_
                    refine zIldN cx hK hP 38 0 rfl rfl (4) (by omega) (by decide) rfl dL_isMonth_150 ?_
                    refine lv_aload cx.1 cx.2.1 dL_isMonth_151 (lv_at hl 4 rfl) ?_
                    refine lv_iload cx.1 cx.2.1 dL_isMonth_153 (lv_at hl 1 rfl) ?_
                    refine zIldN cx hK hP 39 0 rfl rfl (i) (by omega) (by decide) rfl dL_isMonth_155 ?_
                    rw [show (zUp (zUp T39 23 (upd (T39 23) i (if (if (T39 20 i) = 2 then 1 else (if ¬ (T39 20 i) = 3 then 0 else 1) : Int32) = 0 then 0 else (F 9 i) : Int32))) 24 (upd (T39 24) i (if (if (T39 20 i) = 2 then 1 else (if ¬ (T39 20 i) = 3 then 0 else 1) : Int32) = 0 then (-1) else (if (F 8 i) = 0 then (-1) else (f_X7_valueOf F i)) : Int32))) 23 i = (if (if (T39 20 i) = 2 then 1 else (if ¬ (T39 20 i) = 3 then 0 else 1) : Int32) = 0 then 0 else (F 9 i) : Int32) from pk_us]
                    refine lv_imul cx.1 cx.2.1 dL_isMonth_156 ?_
                    refine lv_goto (tgt := 199) cx.1 cx.2.1 dL_isMonth_157 (by decide) ?_
                    exact j199 _ _ _ (by first | (rw [if_pos c8, if_neg (not_not_intro c9)]; done) | exact Eq.symm ((if_pos c8).trans ((if_neg (not_not_intro c9)).trans (rfl)))) hP hS
                · have c8 : (T39 20 i) = 2 := c8
                  refine lv_aload_n cx.1 cx.2.1 dL_isMonth_128 rfl (lv_at hl 8 rfl) ?_
                  refine lv_iconst (v := 3) cx.1 cx.2.1 dL_isMonth_129 (by decide) ?_
                  refine zIldN cx hK hP 38 0 rfl rfl (3) (by omega) (by decide) rfl dL_isMonth_130 ?_
                  refine lv_aload cx.1 cx.2.1 dL_isMonth_131 (lv_at hl 4 rfl) ?_
                  refine lv_iload cx.1 cx.2.1 dL_isMonth_133 (lv_at hl 1 rfl) ?_
                  refine zIldN cx hK hP 39 0 rfl rfl (i) (by omega) (by decide) rfl dL_isMonth_135 ?_
                  rw [show (zUp (zUp T39 23 (upd (T39 23) i (if (if (T39 20 i) = 2 then 1 else (if ¬ (T39 20 i) = 3 then 0 else 1) : Int32) = 0 then 0 else (F 9 i) : Int32))) 24 (upd (T39 24) i (if (if (T39 20 i) = 2 then 1 else (if ¬ (T39 20 i) = 3 then 0 else 1) : Int32) = 0 then (-1) else (if (F 8 i) = 0 then (-1) else (f_X7_valueOf F i)) : Int32))) 23 i = (if (if (T39 20 i) = 2 then 1 else (if ¬ (T39 20 i) = 3 then 0 else 1) : Int32) = 0 then 0 else (F 9 i) : Int32) from pk_us]
                  refine lv_imul cx.1 cx.2.1 dL_isMonth_136 ?_
                  refine lv_goto (tgt := 199) cx.1 cx.2.1 dL_isMonth_137 (by decide) ?_
                  exact j199 _ _ _ (by first | (rw [if_neg (not_not_intro c8)]; done) | exact Eq.symm ((if_neg (not_not_intro c8)).trans (rfl))) hP hS
              refine lv_iload cx.1 cx.2.1 dL_isMonth_93 (lv_at hl 0 rfl) ?_
              refine lv_if_eq (tgt := 116) cx.1 cx.2.1 dL_isMonth_95 (by decide) (fun c6 => ?_) (fun c6 => ?_)
              · have c6 : (if (T39 20 i) = 2 then 1 else (if ¬ (T39 20 i) = 3 then 0 else 1) : Int32) = 0 := c6
                refine lv_iconst (v := (-1)) cx.1 cx.2.1 dL_isMonth_116 (by decide) ?_
                exact j117 _ _ _ (by first | (rw [if_pos c6]; done) | exact Eq.symm ((if_pos c6).trans (rfl))) hP hS
              · have c6 : ¬ (if (T39 20 i) = 2 then 1 else (if ¬ (T39 20 i) = 3 then 0 else 1) : Int32) = 0 := c6
                refine lv_aload_n cx.1 cx.2.1 dL_isMonth_98 rfl (lv_at hl 5 rfl) ?_
                refine lv_iload cx.1 cx.2.1 dL_isMonth_99 (lv_at hl 1 rfl) ?_
                refine zThenIx (v := F 8 i) (S' := zUp T39 23 (upd (T39 23) i (if (if (T39 20 i) = 2 then 1 else (if ¬ (T39 20 i) = 3 then 0 else 1) : Int32) = 0 then 0 else (F 9 i) : Int32))) hS (zRunV (As := [.int (nI i)]) (rest := [.int (nI i), .ref (ad2 40)]) _ 1 cx (nq_X6_isServed l dC dI cyI cyB ad2 hI2 (zUp T39 23 (upd (T39 23) i (if (if (T39 20 i) = 2 then 1 else (if ¬ (T39 20 i) = 3 then 0 else 1) : Int32) = 0 then 0 else (F 9 i) : Int32))) F (LF_u23 hF _) i (by omega)) gL_isMonth_X6_isServed rfl ⟨rfl, rfl⟩ (by decide +kernel) ⟨Nat.le_of_ble_eq_true rfl, Nat.le_of_ble_eq_true rfl⟩ (xL_X ad2 41) hXs hK hP hS 0 rfl rfl rfl rfl hl.1 rfl (Nat.le_of_ble_eq_true rfl) dL_isMonth_101 ⟨Nat.le_of_ble_eq_true rfl, Nat.le_of_ble_eq_true rfl⟩) (fun H locs hP hS => ?_)
                refine lv_if_eq (tgt := 116) cx.1 cx.2.1 dL_isMonth_104 (by decide) (fun c7 => ?_) (fun c7 => ?_)
                · have c7 : (F 8 i) = 0 := c7
                  refine lv_iconst (v := (-1)) cx.1 cx.2.1 dL_isMonth_116 (by decide) ?_
                  exact j117 _ _ _ (by first | (rw [if_neg c6, if_pos c7]; done) | exact Eq.symm ((if_neg c6).trans ((if_pos c7).trans (rfl)))) hP hS
                · have c7 : ¬ (F 8 i) = 0 := c7
                  refine lv_aload_n cx.1 cx.2.1 dL_isMonth_107 rfl (lv_at hl 5 rfl) ?_
                  refine lv_iload cx.1 cx.2.1 dL_isMonth_108 (lv_at hl 1 rfl) ?_
                  refine zThenIx (v := f_X7_valueOf F i) (S' := zUp T39 23 (upd (T39 23) i (if (if (T39 20 i) = 2 then 1 else (if ¬ (T39 20 i) = 3 then 0 else 1) : Int32) = 0 then 0 else (F 9 i) : Int32))) hS (zRunV (As := [.int (nI i)]) (rest := [.int (nI i), .ref (ad2 40)]) _ 1 cx (nq_X6_value l dC dI cyI cyB ad2 hI2 (zUp T39 23 (upd (T39 23) i (if (if (T39 20 i) = 2 then 1 else (if ¬ (T39 20 i) = 3 then 0 else 1) : Int32) = 0 then 0 else (F 9 i) : Int32))) F (LF_u23 hF _) i (by omega)) gL_isMonth_X6_value rfl ⟨rfl, rfl⟩ (by decide +kernel) ⟨Nat.le_of_ble_eq_true rfl, Nat.le_of_ble_eq_true rfl⟩ (xL_X ad2 41) hXs hK hP hS 0 rfl rfl rfl rfl hl.1 rfl (Nat.le_of_ble_eq_true rfl) dL_isMonth_110 ⟨Nat.le_of_ble_eq_true rfl, Nat.le_of_ble_eq_true rfl⟩) (fun H locs hP hS => ?_)
                  refine lv_goto (tgt := 117) cx.1 cx.2.1 dL_isMonth_113 (by decide) ?_
                  exact j117 _ _ _ (by first | (rw [if_neg c6, if_neg c7]; done) | exact Eq.symm ((if_neg c6).trans ((if_neg c7).trans (rfl)))) hP hS
            refine lv_iload cx.1 cx.2.1 dL_isMonth_73 (lv_at hl 0 rfl) ?_
            refine lv_if_eq (tgt := 87) cx.1 cx.2.1 dL_isMonth_75 (by decide) (fun c5 => ?_) (fun c5 => ?_)
            · refine lv_iconst (v := 0) cx.1 cx.2.1 dL_isMonth_87 (by decide) ?_
              exact j88 _ _ _ (by first | (rw [if_pos c5]; done) | exact Eq.symm ((if_pos c5).trans (rfl))) hP hS
            · refine lv_aload_n cx.1 cx.2.1 dL_isMonth_78 rfl (lv_at hl 5 rfl) ?_
              refine lv_iload cx.1 cx.2.1 dL_isMonth_79 (lv_at hl 1 rfl) ?_
              refine zThenIx (v := F 9 i) (S' := T39) hS (zRunV (As := [.int (nI i)]) (rest := [.int (nI i), .ref (ad2 39)]) _ 1 cx (nq_X6_placed l dC dI cyI cyB ad2 hI2 T39 F hF i (by omega)) gL_isMonth_X6_placed rfl ⟨rfl, rfl⟩ (by decide +kernel) ⟨Nat.le_of_ble_eq_true rfl, Nat.le_of_ble_eq_true rfl⟩ (xL_X ad2 41) hXs hK hP hS 0 rfl rfl rfl rfl hl.1 rfl (Nat.le_of_ble_eq_true rfl) dL_isMonth_81 ⟨Nat.le_of_ble_eq_true rfl, Nat.le_of_ble_eq_true rfl⟩) (fun H locs hP hS => ?_)
              refine lv_goto (tgt := 88) cx.1 cx.2.1 dL_isMonth_84 (by decide) ?_
              exact j88 _ _ _ (by first | (rw [if_neg c5]; done) | exact Eq.symm ((if_neg c5).trans (rfl))) hP hS
          refine lv_aload_n cx.1 cx.2.1 dL_isMonth_46 rfl (lv_at hl 5 rfl) ?_
          refine lv_iload cx.1 cx.2.1 dL_isMonth_47 (lv_at hl 0 rfl) ?_
          refine zIldN cx hK hP 36 0 rfl rfl (i) (by omega) (by decide) rfl dL_isMonth_49 ?_
          refine lv_iconst (v := 2) cx.1 cx.2.1 dL_isMonth_50 (by decide) ?_
          refine lv_icmp_eq (tgt := 62) cx.1 cx.2.1 dL_isMonth_51 (by decide) (fun c3 => ?_) (fun c3 => ?_)
          · refine lv_iconst (v := 1) cx.1 cx.2.1 dL_isMonth_62 (by decide) ?_
            refine lv_goto (tgt := 67) cx.1 cx.2.1 dL_isMonth_63 (by decide) ?_
            exact j67 _ _ _ (by first | (rw [if_pos c3]; done) | exact Eq.symm ((if_pos c3).trans (rfl))) hP hS
          · refine lv_aload_n cx.1 cx.2.1 dL_isMonth_54 rfl (lv_at hl 5 rfl) ?_
            refine lv_iload cx.1 cx.2.1 dL_isMonth_55 (lv_at hl 0 rfl) ?_
            refine zIldN cx hK hP 36 0 rfl rfl (i) (by omega) (by decide) rfl dL_isMonth_57 ?_
            refine lv_iconst (v := 3) cx.1 cx.2.1 dL_isMonth_58 (by decide) ?_
            refine lv_icmp_ne (tgt := 66) cx.1 cx.2.1 dL_isMonth_59 (by decide) (fun c4 => ?_) (fun c4 => ?_)
            · refine lv_iconst (v := 0) cx.1 cx.2.1 dL_isMonth_66 (by decide) ?_
              exact j67 _ _ _ (by first | (rw [if_neg c3, if_pos c4]; done) | exact Eq.symm ((if_neg c3).trans ((if_pos c4).trans (rfl)))) hP hS
            · refine lv_iconst (v := 1) cx.1 cx.2.1 dL_isMonth_62 (by decide) ?_
              refine lv_goto (tgt := 67) cx.1 cx.2.1 dL_isMonth_63 (by decide) ?_
              exact j67 _ _ _ (by first | (rw [if_neg c3, if_neg (not_not_intro c4)]; done) | exact Eq.symm ((if_neg c3).trans ((if_neg (not_not_intro c4)).trans (rfl)))) hP hS
    exact lp39 (64 - 0 + 1) 0 (-(((nI d) / 100) + (if ((nI d) - (nI d) / 100 * 100) ≤ 0 then 0 else 1 : Int32))) S2 (by omega) rfl hF (Nat.lt_succ_self _) _ _ ls hP hS (lv_sub hl [0, 1, 2, 3, 4, 5, 6, 7] rfl)
  refine lv_aload_n cx.1 cx.2.1 dL_isMonth_18 rfl (lv_at hl 5 rfl) ?_
  refine lv_iconst (v := 1) cx.1 cx.2.1 dL_isMonth_19 (by decide) ?_
  refine zIldN cx hK hP 38 0 rfl rfl (1) (by omega) (by decide) rfl dL_isMonth_20 ?_
  rw [hd]
  refine lv_bipush (v := 100) cx.1 cx.2.1 dL_isMonth_21 (by decide) ?_
  refine lv_irem cx.1 cx.2.1 dL_isMonth_23 (by decide) ?_
  refine lv_if_le (tgt := 31) cx.1 cx.2.1 dL_isMonth_24 (by decide) (fun c1 => ?_) (fun c1 => ?_)
  · refine lv_iconst (v := 0) cx.1 cx.2.1 dL_isMonth_31 (by decide) ?_
    exact j32 _ _ _ (by first | (rw [if_pos c1]; done) | exact Eq.symm ((if_pos c1).trans (rfl))) hP hS
  · refine lv_iconst (v := 1) cx.1 cx.2.1 dL_isMonth_27 (by decide) ?_
    refine lv_goto (tgt := 32) cx.1 cx.2.1 dL_isMonth_28 (by decide) ?_
    exact j32 _ _ _ (by first | (rw [if_neg c1]; done) | exact Eq.symm ((if_neg c1).trans (rfl))) hP hS
