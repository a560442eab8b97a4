/-! PURE LAYER: the reference: the least reasons, the hours that lack -/
theorem e_isOpenAt {S : SS} {m0 : Nat} {hs : Hs} (h : MR S m0 hs) (hV : VS S) {a b : Int} (h1 : 0 ≤ a ∧ a < S 20 4) (h2 : 0 ≤ b ∧ b ≤ 29)  : f_X9_isOpenAt m0 (iI a) (iI b) hs = some (.ok (iI (if 0 ≤ fstN (rsB S a b) (S 20 1).toNat then 1 else 0)), hs) := by
  obtain ⟨hb, hm, hv⟩ := hV
  have hm2 := hm
  unfold Bm at hm2
  have h9 : (((S 20 1).toNat : Nat) : Int) = S 20 1 := by omega
  have hL := loopX (fun f (t : Int32) => L_X9_isOpenAt_2 (some m0) (iI a) (iI b) (retZ (iI 1)) (retZ (iI 0)) f t hs) (fun m => iI (m : Int)) (rsB S a b) (S 20 1).toNat (fun _ => some (.ok (iI 1), hs)) (some (.ok (iI 0), hs)) (fun k f hk hp => ?_) (fun k f hk hp => ?_) (fun f => ?_) 100000 (by omega)
  · have e : f_X9_isOpenAt m0 (iI a) (iI b) hs = L_X9_isOpenAt_2 (some m0) (iI a) (iI b) (retZ (iI 1)) (retZ (iI 0)) 100000 (iI ((0 : Nat) : Int)) hs := by
      rw [u_f_X9_isOpenAt, e_lets, li_0, li_1]
      rfl
    rw [e]
    refine hL.trans ?_
    by_cases c : fstN (rsB S a b) (S 20 1).toNat < 0
    · rw [if_pos c, if_neg (by omega)]
    · rw [if_neg c, if_pos (by omega)]
  · show L_X9_isOpenAt_2 (some m0) (iI a) (iI b) (retZ (iI 1)) (retZ (iI 0)) (f + 1) (iI (k : Int)) hs = L_X9_isOpenAt_2 (some m0) (iI a) (iI b) (retZ (iI 1)) (retZ (iI 0)) f (iI ((k : Int) + 1)) hs
    have e1 := e_X9_letters h hb (l := a) (by omega) (by omega) (s := b) (r := (k : Int)) (by omega) (by omega) (by omega) (by omega) hm
    obtain ⟨v, v0, v1, ev⟩ := sLt_v S a b k
    unfold rsB at hp
    rw [ev] at e1 hp
    rw [decide_eq_false_iff_not, iI_eq (by omega) (by omega) (by decide) (by decide)] at hp
    rw [u_L_X9_isOpenAt_2]
    simp -implicitDefEqProofs (disch := omega) only [↓reduceIte, ↓e_lets, ↓e_ite, ↓e_cal, e_cal2, e_cal3, e_thr, e_nthrow, e_rtn, e_r0, e_r1, e_dv, iI_add, iI_sub, iI_mul, iI_neg, iI_div, iI_rem, iI_lt, iI_le, iI_eq, b_eq0, b_eq1, Int.reduceAdd, Int.reduceMul, Int.reduceSub, Int.reduceNeg, Int.reduceDiv, Int.reduceMod, Nat.reduceAdd, Bool.false_eq_true, eq_self, ltT, ltF, leT, leF, eqT, eqF, true_and, and_true, false_and, and_false, and_self, or_true, true_or, or_false, false_or, ne_eq, not_true_eq_false, not_false_eq_true, if_true, if_false, ite_true, ite_false, ite_not, some_none, some_some, none_some, none_none, li_0, li_1, li_2, li_3, li_4, li_5, li_6, li_7, li_8, li_9, li_10, li_11, li_12, li_13, li_14, li_15, li_16, li_17, li_18, li_19, li_20, li_21, li_22, li_23, li_24, li_25, li_26, li_27, li_28, li_29, li_30, li_31, li_32, li_63, li_64, li_99, li_100, li_128, li_240, li_256, li_512, li_960, li_1000, li_1022, li_1023, li_100000, li_m1, li_m1000, ↓m_g0 h, ↓m_g1 h, ↓m_g2 h, ↓m_g3 h, ↓m_g4 h, ↓m_g5 h, ↓m_g6 h, ↓m_g7 h, ↓m_g8 h, ↓m_g9 h, ↓m_g10 h, ↓m_g11 h, ↓m_g12 h, ↓m_g13 h, ↓m_g14 h, ↓m_g15 h, ↓m_g16 h, ↓m_g17 h, ↓m_g18 h, ↓m_g19 h, ↓m_g20 h, ↓m_g21 h, ↓m_g22 h, ↓m_g23 h, ↓m_g24 h, ↓m_g25 h, ↓m_g26 h, ↓m_g27 h, ↓m_ld0 h, ↓m_ld1 h, ↓m_ld2 h, ↓m_ld3 h, ↓m_ld4 h, ↓m_ld5 h, ↓m_ld6 h, ↓m_ld7 h, ↓m_ld8 h, ↓m_ld9 h, ↓m_ld10 h, ↓m_ld11 h, ↓m_ld12 h, ↓m_ld13 h, ↓m_ld14 h, ↓m_ld15 h, ↓m_ld16 h, ↓m_ld17 h, ↓m_ld18 h, ↓m_ld19 h, ↓m_rcv h, e1]
  · show L_X9_isOpenAt_2 (some m0) (iI a) (iI b) (retZ (iI 1)) (retZ (iI 0)) (f + 1) (iI (k : Int)) hs = _
    have e1 := e_X9_letters h hb (l := a) (by omega) (by omega) (s := b) (r := (k : Int)) (by omega) (by omega) (by omega) (by omega) hm
    obtain ⟨v, v0, v1, ev⟩ := sLt_v S a b k
    unfold rsB at hp
    rw [ev] at e1 hp
    rw [decide_eq_true_eq, iI_eq (by omega) (by omega) (by decide) (by decide)] at hp
    rw [u_L_X9_isOpenAt_2]
    simp -implicitDefEqProofs (disch := omega) only [↓reduceIte, ↓e_lets, ↓e_ite, ↓e_cal, e_cal2, e_cal3, e_thr, e_nthrow, e_rtn, e_r0, e_r1, e_dv, iI_add, iI_sub, iI_mul, iI_neg, iI_div, iI_rem, iI_lt, iI_le, iI_eq, b_eq0, b_eq1, Int.reduceAdd, Int.reduceMul, Int.reduceSub, Int.reduceNeg, Int.reduceDiv, Int.reduceMod, Nat.reduceAdd, Bool.false_eq_true, eq_self, ltT, ltF, leT, leF, eqT, eqF, true_and, and_true, false_and, and_false, and_self, or_true, true_or, or_false, false_or, ne_eq, not_true_eq_false, not_false_eq_true, if_true, if_false, ite_true, ite_false, ite_not, some_none, some_some, none_some, none_none, li_0, li_1, li_2, li_3, li_4, li_5, li_6, li_7, li_8, li_9, li_10, li_11, li_12, li_13, li_14, li_15, li_16, li_17, li_18, li_19, li_20, li_21, li_22, li_23, li_24, li_25, li_26, li_27, li_28, li_29, li_30, li_31, li_32, li_63, li_64, li_99, li_100, li_128, li_240, li_256, li_512, li_960, li_1000, li_1022, li_1023, li_100000, li_m1, li_m1000, ↓m_g0 h, ↓m_g1 h, ↓m_g2 h, ↓m_g3 h, ↓m_g4 h, ↓m_g5 h, ↓m_g6 h, ↓m_g7 h, ↓m_g8 h, ↓m_g9 h, ↓m_g10 h, ↓m_g11 h, ↓m_g12 h, ↓m_g13 h, ↓m_g14 h, ↓m_g15 h, ↓m_g16 h, ↓m_g17 h, ↓m_g18 h, ↓m_g19 h, ↓m_g20 h, ↓m_g21 h, ↓m_g22 h, ↓m_g23 h, ↓m_g24 h, ↓m_g25 h, ↓m_g26 h, ↓m_g27 h, ↓m_ld0 h, ↓m_ld1 h, ↓m_ld2 h, ↓m_ld3 h, ↓m_ld4 h, ↓m_ld5 h, ↓m_ld6 h, ↓m_ld7 h, ↓m_ld8 h, ↓m_ld9 h, ↓m_ld10 h, ↓m_ld11 h, ↓m_ld12 h, ↓m_ld13 h, ↓m_ld14 h, ↓m_ld15 h, ↓m_ld16 h, ↓m_ld17 h, ↓m_ld18 h, ↓m_ld19 h, ↓m_rcv h, e1]
  · show L_X9_isOpenAt_2 (some m0) (iI a) (iI b) (retZ (iI 1)) (retZ (iI 0)) (f + 1) (iI (((S 20 1).toNat : Nat) : Int)) hs = _
    rw [h9, u_L_X9_isOpenAt_2]
    simp -implicitDefEqProofs (disch := omega) only [↓reduceIte, ↓e_lets, ↓e_ite, ↓e_cal, e_cal2, e_cal3, e_thr, e_nthrow, e_rtn, e_r0, e_r1, e_dv, iI_add, iI_sub, iI_mul, iI_neg, iI_div, iI_rem, iI_lt, iI_le, iI_eq, b_eq0, b_eq1, Int.reduceAdd, Int.reduceMul, Int.reduceSub, Int.reduceNeg, Int.reduceDiv, Int.reduceMod, Nat.reduceAdd, Bool.false_eq_true, eq_self, ltT, ltF, leT, leF, eqT, eqF, true_and, and_true, false_and, and_false, and_self, or_true, true_or, or_false, false_or, ne_eq, not_true_eq_false, not_false_eq_true, if_true, if_false, ite_true, ite_false, ite_not, some_none, some_some, none_some, none_none, li_0, li_1, li_2, li_3, li_4, li_5, li_6, li_7, li_8, li_9, li_10, li_11, li_12, li_13, li_14, li_15, li_16, li_17, li_18, li_19, li_20, li_21, li_22, li_23, li_24, li_25, li_26, li_27, li_28, li_29, li_30, li_31, li_32, li_63, li_64, li_99, li_100, li_128, li_240, li_256, li_512, li_960, li_1000, li_1022, li_1023, li_100000, li_m1, li_m1000, ↓m_g0 h, ↓m_g1 h, ↓m_g2 h, ↓m_g3 h, ↓m_g4 h, ↓m_g5 h, ↓m_g6 h, ↓m_g7 h, ↓m_g8 h, ↓m_g9 h, ↓m_g10 h, ↓m_g11 h, ↓m_g12 h, ↓m_g13 h, ↓m_g14 h, ↓m_g15 h, ↓m_g16 h, ↓m_g17 h, ↓m_g18 h, ↓m_g19 h, ↓m_g20 h, ↓m_g21 h, ↓m_g22 h, ↓m_g23 h, ↓m_g24 h, ↓m_g25 h, ↓m_g26 h, ↓m_g27 h, ↓m_ld0 h, ↓m_ld1 h, ↓m_ld2 h, ↓m_ld3 h, ↓m_ld4 h, ↓m_ld5 h, ↓m_ld6 h, ↓m_ld7 h, ↓m_ld8 h, ↓m_ld9 h, ↓m_ld10 h, ↓m_ld11 h, ↓m_ld12 h, ↓m_ld13 h, ↓m_ld14 h, ↓m_ld15 h, ↓m_ld16 h, ↓m_ld17 h, ↓m_ld18 h, ↓m_ld19 h, ↓m_rcv h]
theorem e_barsAll {S : SS} {m0 : Nat} {hs : Hs} (h : MR S m0 hs) (hV : VS S) {a b : Int} (h1 : 0 ≤ a ∧ a < S 20 4) (h2 : 0 ≤ b ∧ b ≤ 29) (x : Int) : f_X9_barsAll m0 (iI x) (iI a) (iI b) hs = some (.ok (iI (if beQ S a b x = true then 1 else 0)), hs) := by
  obtain ⟨hb, hm, hv⟩ := hV
  have hm2 := hm
  unfold Bm at hm2
  have h9 : (((S 20 1).toNat : Nat) : Int) = S 20 1 := by omega
  have hL := loopX (fun f (t : Int32) => L_X9_barsAll_3 (some m0) (iI x) (iI a) (iI b) (retZ (iI 0)) (retZ (iI 1)) f t hs) (fun m => iI (m : Int)) (beB S a b x) (S 20 1).toNat (fun _ => some (.ok (iI 0), hs)) (some (.ok (iI 1), hs)) (fun k f hk hp => ?_) (fun k f hk hp => ?_) (fun f => ?_) 100000 (by omega)
  · have e : f_X9_barsAll m0 (iI x) (iI a) (iI b) hs = L_X9_barsAll_3 (some m0) (iI x) (iI a) (iI b) (retZ (iI 0)) (retZ (iI 1)) 100000 (iI ((0 : Nat) : Int)) hs := by
      rw [u_f_X9_barsAll, e_lets, li_0, li_1]
      rfl
    rw [e]
    refine hL.trans ?_
    unfold beQ
    by_cases c : fstN (beB S a b x) (S 20 1).toNat < 0
    · rw [if_pos c, decide_eq_true c, if_pos rfl]
    · rw [if_neg c, decide_eq_false c, if_neg (by decide)]
  · show L_X9_barsAll_3 (some m0) (iI x) (iI a) (iI b) (retZ (iI 0)) (retZ (iI 1)) (f + 1) (iI (k : Int)) hs = L_X9_barsAll_3 (some m0) (iI x) (iI a) (iI b) (retZ (iI 0)) (retZ (iI 1)) f (iI ((k : Int) + 1)) hs
    have e1 := e_X9_letters h hb (l := a) (by omega) (by omega) (s := b) (r := (k : Int)) (by omega) (by omega) (by omega) (by omega) hm
    unfold beB at hp
    rw [decide_eq_false_iff_not] at hp
    rw [u_L_X9_barsAll_3]
    simp -implicitDefEqProofs (disch := omega) only [↓reduceIte, ↓e_lets, ↓e_ite, ↓e_cal, e_cal2, e_cal3, e_thr, e_nthrow, e_rtn, e_r0, e_r1, e_dv, iI_add, iI_sub, iI_mul, iI_neg, iI_div, iI_rem, iI_lt, iI_le, iI_eq, b_eq0, b_eq1, Int.reduceAdd, Int.reduceMul, Int.reduceSub, Int.reduceNeg, Int.reduceDiv, Int.reduceMod, Nat.reduceAdd, Bool.false_eq_true, eq_self, ltT, ltF, leT, leF, eqT, eqF, true_and, and_true, false_and, and_false, and_self, or_true, true_or, or_false, false_or, ne_eq, not_true_eq_false, not_false_eq_true, if_true, if_false, ite_true, ite_false, ite_not, some_none, some_some, none_some, none_none, li_0, li_1, li_2, li_3, li_4, li_5, li_6, li_7, li_8, li_9, li_10, li_11, li_12, li_13, li_14, li_15, li_16, li_17, li_18, li_19, li_20, li_21, li_22, li_23, li_24, li_25, li_26, li_27, li_28, li_29, li_30, li_31, li_32, li_63, li_64, li_99, li_100, li_128, li_240, li_256, li_512, li_960, li_1000, li_1022, li_1023, li_100000, li_m1, li_m1000, ↓m_g0 h, ↓m_g1 h, ↓m_g2 h, ↓m_g3 h, ↓m_g4 h, ↓m_g5 h, ↓m_g6 h, ↓m_g7 h, ↓m_g8 h, ↓m_g9 h, ↓m_g10 h, ↓m_g11 h, ↓m_g12 h, ↓m_g13 h, ↓m_g14 h, ↓m_g15 h, ↓m_g16 h, ↓m_g17 h, ↓m_g18 h, ↓m_g19 h, ↓m_g20 h, ↓m_g21 h, ↓m_g22 h, ↓m_g23 h, ↓m_g24 h, ↓m_g25 h, ↓m_g26 h, ↓m_g27 h, ↓m_ld0 h, ↓m_ld1 h, ↓m_ld2 h, ↓m_ld3 h, ↓m_ld4 h, ↓m_ld5 h, ↓m_ld6 h, ↓m_ld7 h, ↓m_ld8 h, ↓m_ld9 h, ↓m_ld10 h, ↓m_ld11 h, ↓m_ld12 h, ↓m_ld13 h, ↓m_ld14 h, ↓m_ld15 h, ↓m_ld16 h, ↓m_ld17 h, ↓m_ld18 h, ↓m_ld19 h, ↓m_rcv h, e1, hp]
  · show L_X9_barsAll_3 (some m0) (iI x) (iI a) (iI b) (retZ (iI 0)) (retZ (iI 1)) (f + 1) (iI (k : Int)) hs = _
    have e1 := e_X9_letters h hb (l := a) (by omega) (by omega) (s := b) (r := (k : Int)) (by omega) (by omega) (by omega) (by omega) hm
    unfold beB at hp
    rw [decide_eq_true_eq] at hp
    rw [u_L_X9_barsAll_3]
    simp -implicitDefEqProofs (disch := omega) only [↓reduceIte, ↓e_lets, ↓e_ite, ↓e_cal, e_cal2, e_cal3, e_thr, e_nthrow, e_rtn, e_r0, e_r1, e_dv, iI_add, iI_sub, iI_mul, iI_neg, iI_div, iI_rem, iI_lt, iI_le, iI_eq, b_eq0, b_eq1, Int.reduceAdd, Int.reduceMul, Int.reduceSub, Int.reduceNeg, Int.reduceDiv, Int.reduceMod, Nat.reduceAdd, Bool.false_eq_true, eq_self, ltT, ltF, leT, leF, eqT, eqF, true_and, and_true, false_and, and_false, and_self, or_true, true_or, or_false, false_or, ne_eq, not_true_eq_false, not_false_eq_true, if_true, if_false, ite_true, ite_false, ite_not, some_none, some_some, none_some, none_none, li_0, li_1, li_2, li_3, li_4, li_5, li_6, li_7, li_8, li_9, li_10, li_11, li_12, li_13, li_14, li_15, li_16, li_17, li_18, li_19, li_20, li_21, li_22, li_23, li_24, li_25, li_26, li_27, li_28, li_29, li_30, li_31, li_32, li_63, li_64, li_99, li_100, li_128, li_240, li_256, li_512, li_960, li_1000, li_1022, li_1023, li_100000, li_m1, li_m1000, ↓m_g0 h, ↓m_g1 h, ↓m_g2 h, ↓m_g3 h, ↓m_g4 h, ↓m_g5 h, ↓m_g6 h, ↓m_g7 h, ↓m_g8 h, ↓m_g9 h, ↓m_g10 h, ↓m_g11 h, ↓m_g12 h, ↓m_g13 h, ↓m_g14 h, ↓m_g15 h, ↓m_g16 h, ↓m_g17 h, ↓m_g18 h, ↓m_g19 h, ↓m_g20 h, ↓m_g21 h, ↓m_g22 h, ↓m_g23 h, ↓m_g24 h, ↓m_g25 h, ↓m_g26 h, ↓m_g27 h, ↓m_ld0 h, ↓m_ld1 h, ↓m_ld2 h, ↓m_ld3 h, ↓m_ld4 h, ↓m_ld5 h, ↓m_ld6 h, ↓m_ld7 h, ↓m_ld8 h, ↓m_ld9 h, ↓m_ld10 h, ↓m_ld11 h, ↓m_ld12 h, ↓m_ld13 h, ↓m_ld14 h, ↓m_ld15 h, ↓m_ld16 h, ↓m_ld17 h, ↓m_ld18 h, ↓m_ld19 h, ↓m_rcv h, e1, hp]
  · show L_X9_barsAll_3 (some m0) (iI x) (iI a) (iI b) (retZ (iI 0)) (retZ (iI 1)) (f + 1) (iI (((S 20 1).toNat : Nat) : Int)) hs = _
    rw [h9, u_L_X9_barsAll_3]
    simp -implicitDefEqProofs (disch := omega) only [↓reduceIte, ↓e_lets, ↓e_ite, ↓e_cal, e_cal2, e_cal3, e_thr, e_nthrow, e_rtn, e_r0, e_r1, e_dv, iI_add, iI_sub, iI_mul, iI_neg, iI_div, iI_rem, iI_lt, iI_le, iI_eq, b_eq0, b_eq1, Int.reduceAdd, Int.reduceMul, Int.reduceSub, Int.reduceNeg, Int.reduceDiv, Int.reduceMod, Nat.reduceAdd, Bool.false_eq_true, eq_self, ltT, ltF, leT, leF, eqT, eqF, true_and, and_true, false_and, and_false, and_self, or_true, true_or, or_false, false_or, ne_eq, not_true_eq_false, not_false_eq_true, if_true, if_false, ite_true, ite_false, ite_not, some_none, some_some, none_some, none_none, li_0, li_1, li_2, li_3, li_4, li_5, li_6, li_7, li_8, li_9, li_10, li_11, li_12, li_13, li_14, li_15, li_16, li_17, li_18, li_19, li_20, li_21, li_22, li_23, li_24, li_25, li_26, li_27, li_28, li_29, li_30, li_31, li_32, li_63, li_64, li_99, li_100, li_128, li_240, li_256, li_512, li_960, li_1000, li_1022, li_1023, li_100000, li_m1, li_m1000, ↓m_g0 h, ↓m_g1 h, ↓m_g2 h, ↓m_g3 h, ↓m_g4 h, ↓m_g5 h, ↓m_g6 h, ↓m_g7 h, ↓m_g8 h, ↓m_g9 h, ↓m_g10 h, ↓m_g11 h, ↓m_g12 h, ↓m_g13 h, ↓m_g14 h, ↓m_g15 h, ↓m_g16 h, ↓m_g17 h, ↓m_g18 h, ↓m_g19 h, ↓m_g20 h, ↓m_g21 h, ↓m_g22 h, ↓m_g23 h, ↓m_g24 h, ↓m_g25 h, ↓m_g26 h, ↓m_g27 h, ↓m_ld0 h, ↓m_ld1 h, ↓m_ld2 h, ↓m_ld3 h, ↓m_ld4 h, ↓m_ld5 h, ↓m_ld6 h, ↓m_ld7 h, ↓m_ld8 h, ↓m_ld9 h, ↓m_ld10 h, ↓m_ld11 h, ↓m_ld12 h, ↓m_ld13 h, ↓m_ld14 h, ↓m_ld15 h, ↓m_ld16 h, ↓m_ld17 h, ↓m_ld18 h, ↓m_ld19 h, ↓m_rcv h]
def bdN (S : SS) (l s : Int) : Nat → Int
  | 0 => 1023
  | k + 1 => if beQ S l s (1022 - (k : Int)) = true ∧ bcN (iI (1022 - (k : Int))) ≤ bcN (iI (bdN S l s k)) then 1022 - (k : Int) else bdN S l s k
theorem bdN_b (S : SS) (l s : Int) : ∀ k, k ≤ 1023 → 0 ≤ bdN S l s k ∧ bdN S l s k ≤ 1023 ∧ (bdN S l s k = 1023 ∨ 1023 - (k : Int) ≤ bdN S l s k) := by
  intro k
  induction k with
  | zero => intro _; unfold bdN; omega
  | succ k ih =>
    intro hk
    have h := ih (by omega)
    unfold bdN
    split <;> omega
theorem e_L_rs59 {S : SS} {m0 : Nat} {hs : Hs} (h : MR S m0 hs) (hV : VS S) {a b : Int} (h1 : 0 ≤ a ∧ a < S 20 4) (h2 : 0 ≤ b ∧ b ≤ 29) : L_X9_reasons_59 (some m0) (iI a) (iI b) (fun v13 => rtn v13) 100000 (iI 1023) (iI 1022) hs = some (.ok (iI (bdN S a b 1023)), hs) := by
  refine loopD (fun f (t : Int32 × Int32) => L_X9_reasons_59 (some m0) (iI a) (iI b) (fun v13 => rtn v13) f t.1 t.2 hs) (fun m => (iI (bdN S a b m), iI (1022 - (m : Int)))) 1023 _ (fun k f hk => ?_) (fun f => ?_) 100000 (by omega)
  · show L_X9_reasons_59 (some m0) (iI a) (iI b) (fun v13 => rtn v13) (f + 1) (iI (bdN S a b k)) (iI (1022 - (k : Int))) hs = L_X9_reasons_59 (some m0) (iI a) (iI b) (fun v13 => rtn v13) f (iI (if beQ S a b (1022 - (k : Int)) = true ∧ bcN (iI (1022 - (k : Int))) ≤ bcN (iI (bdN S a b k)) then 1022 - (k : Int) else bdN S a b k)) (iI (1022 - ((k : Int) + 1))) hs
    have hbd := bdN_b S a b k (by omega)
    have e1 := e_barsAll h hV h1 h2 (1022 - (k : Int))
    have e2 := e_manyBits hs (v := 1022 - (k : Int)) (by omega) (by omega)
    have e3 := e_manyBits hs (v := bdN S a b k) (by omega) (by omega)
    have b1 := bcN_b (iI (1022 - (k : Int)))
    have b2 := bcN_b (iI (bdN S a b k))
    rw [show 1022 - ((k : Int) + 1) = 1022 - (k : Int) + -1 by omega]
    generalize bdN S a b k = w at *
    generalize bcN (iI (1022 - (k : Int))) = u1 at *
    generalize bcN (iI w) = u2 at *
    generalize hx : 1022 - (k : Int) = x at *
    rw [u_L_X9_reasons_59]
    cases c : beQ S a b x
    · rw [c] at e1
      rw [if_neg (show ¬ (false = true ∧ u1 ≤ u2) from fun q => absurd q.1 (by decide))]
      simp -implicitDefEqProofs (disch := omega) only [↓reduceIte, ↓e_lets, ↓e_ite, ↓e_cal, e_cal2, e_cal3, e_thr, e_nthrow, e_rtn, e_r0, e_r1, e_dv, iI_add, iI_sub, iI_mul, iI_neg, iI_div, iI_rem, iI_lt, iI_le, iI_eq, b_eq0, b_eq1, Int.reduceAdd, Int.reduceMul, Int.reduceSub, Int.reduceNeg, Int.reduceDiv, Int.reduceMod, Nat.reduceAdd, Bool.false_eq_true, eq_self, ltT, ltF, leT, leF, eqT, eqF, true_and, and_true, false_and, and_false, and_self, or_true, true_or, or_false, false_or, ne_eq, not_true_eq_false, not_false_eq_true, if_true, if_false, ite_true, ite_false, ite_not, some_none, some_some, none_some, none_none, li_0, li_1, li_2, li_3, li_4, li_5, li_6, li_7, li_8, li_9, li_10, li_11, li_12, li_13, li_14, li_15, li_16, li_17, li_18, li_19, li_20, li_21, li_22, li_23, li_24, li_25, li_26, li_27, li_28, li_29, li_30, li_31, li_32, li_63, li_64, li_99, li_100, li_128, li_240, li_256, li_512, li_960, li_1000, li_1022, li_1023, li_100000, li_m1, li_m1000, ↓m_g0 h, ↓m_g1 h, ↓m_g2 h, ↓m_g3 h, ↓m_g4 h, ↓m_g5 h, ↓m_g6 h, ↓m_g7 h, ↓m_g8 h, ↓m_g9 h, ↓m_g10 h, ↓m_g11 h, ↓m_g12 h, ↓m_g13 h, ↓m_g14 h, ↓m_g15 h, ↓m_g16 h, ↓m_g17 h, ↓m_g18 h, ↓m_g19 h, ↓m_g20 h, ↓m_g21 h, ↓m_g22 h, ↓m_g23 h, ↓m_g24 h, ↓m_g25 h, ↓m_g26 h, ↓m_g27 h, ↓m_ld0 h, ↓m_ld1 h, ↓m_ld2 h, ↓m_ld3 h, ↓m_ld4 h, ↓m_ld5 h, ↓m_ld6 h, ↓m_ld7 h, ↓m_ld8 h, ↓m_ld9 h, ↓m_ld10 h, ↓m_ld11 h, ↓m_ld12 h, ↓m_ld13 h, ↓m_ld14 h, ↓m_ld15 h, ↓m_ld16 h, ↓m_ld17 h, ↓m_ld18 h, ↓m_ld19 h, ↓m_rcv h, e1, e2, e3, ↓u_j_X9_reasons_90]
    · rw [c] at e1
      by_cases c2 : u1 ≤ u2
      · rw [if_pos (show true = true ∧ u1 ≤ u2 from ⟨rfl, c2⟩)]
        simp -implicitDefEqProofs (disch := omega) only [↓reduceIte, ↓e_lets, ↓e_ite, ↓e_cal, e_cal2, e_cal3, e_thr, e_nthrow, e_rtn, e_r0, e_r1, e_dv, iI_add, iI_sub, iI_mul, iI_neg, iI_div, iI_rem, iI_lt, iI_le, iI_eq, b_eq0, b_eq1, Int.reduceAdd, Int.reduceMul, Int.reduceSub, Int.reduceNeg, Int.reduceDiv, Int.reduceMod, Nat.reduceAdd, Bool.false_eq_true, eq_self, ltT, ltF, leT, leF, eqT, eqF, true_and, and_true, false_and, and_false, and_self, or_true, true_or, or_false, false_or, ne_eq, not_true_eq_false, not_false_eq_true, if_true, if_false, ite_true, ite_false, ite_not, some_none, some_some, none_some, none_none, li_0, li_1, li_2, li_3, li_4, li_5, li_6, li_7, li_8, li_9, li_10, li_11, li_12, li_13, li_14, li_15, li_16, li_17, li_18, li_19, li_20, li_21, li_22, li_23, li_24, li_25, li_26, li_27, li_28, li_29, li_30, li_31, li_32, li_63, li_64, li_99, li_100, li_128, li_240, li_256, li_512, li_960, li_1000, li_1022, li_1023, li_100000, li_m1, li_m1000, ↓m_g0 h, ↓m_g1 h, ↓m_g2 h, ↓m_g3 h, ↓m_g4 h, ↓m_g5 h, ↓m_g6 h, ↓m_g7 h, ↓m_g8 h, ↓m_g9 h, ↓m_g10 h, ↓m_g11 h, ↓m_g12 h, ↓m_g13 h, ↓m_g14 h, ↓m_g15 h, ↓m_g16 h, ↓m_g17 h, ↓m_g18 h, ↓m_g19 h, ↓m_g20 h, ↓m_g21 h, ↓m_g22 h, ↓m_g23 h, ↓m_g24 h, ↓m_g25 h, ↓m_g26 h, ↓m_g27 h, ↓m_ld0 h, ↓m_ld1 h, ↓m_ld2 h, ↓m_ld3 h, ↓m_ld4 h, ↓m_ld5 h, ↓m_ld6 h, ↓m_ld7 h, ↓m_ld8 h, ↓m_ld9 h, ↓m_ld10 h, ↓m_ld11 h, ↓m_ld12 h, ↓m_ld13 h, ↓m_ld14 h, ↓m_ld15 h, ↓m_ld16 h, ↓m_ld17 h, ↓m_ld18 h, ↓m_ld19 h, ↓m_rcv h, e1, e2, e3, ↓u_j_X9_reasons_90]
      · rw [if_neg (show ¬ (true = true ∧ u1 ≤ u2) from fun q => c2 q.2)]
        simp -implicitDefEqProofs (disch := omega) only [↓reduceIte, ↓e_lets, ↓e_ite, ↓e_cal, e_cal2, e_cal3, e_thr, e_nthrow, e_rtn, e_r0, e_r1, e_dv, iI_add, iI_sub, iI_mul, iI_neg, iI_div, iI_rem, iI_lt, iI_le, iI_eq, b_eq0, b_eq1, Int.reduceAdd, Int.reduceMul, Int.reduceSub, Int.reduceNeg, Int.reduceDiv, Int.reduceMod, Nat.reduceAdd, Bool.false_eq_true, eq_self, ltT, ltF, leT, leF, eqT, eqF, true_and, and_true, false_and, and_false, and_self, or_true, true_or, or_false, false_or, ne_eq, not_true_eq_false, not_false_eq_true, if_true, if_false, ite_true, ite_false, ite_not, some_none, some_some, none_some, none_none, li_0, li_1, li_2, li_3, li_4, li_5, li_6, li_7, li_8, li_9, li_10, li_11, li_12, li_13, li_14, li_15, li_16, li_17, li_18, li_19, li_20, li_21, li_22, li_23, li_24, li_25, li_26, li_27, li_28, li_29, li_30, li_31, li_32, li_63, li_64, li_99, li_100, li_128, li_240, li_256, li_512, li_960, li_1000, li_1022, li_1023, li_100000, li_m1, li_m1000, ↓m_g0 h, ↓m_g1 h, ↓m_g2 h, ↓m_g3 h, ↓m_g4 h, ↓m_g5 h, ↓m_g6 h, ↓m_g7 h, ↓m_g8 h, ↓m_g9 h, ↓m_g10 h, ↓m_g11 h, ↓m_g12 h, ↓m_g13 h, ↓m_g14 h, ↓m_g15 h, ↓m_g16 h, ↓m_g17 h, ↓m_g18 h, ↓m_g19 h, ↓m_g20 h, ↓m_g21 h, ↓m_g22 h, ↓m_g23 h, ↓m_g24 h, ↓m_g25 h, ↓m_g26 h, ↓m_g27 h, ↓m_ld0 h, ↓m_ld1 h, ↓m_ld2 h, ↓m_ld3 h, ↓m_ld4 h, ↓m_ld5 h, ↓m_ld6 h, ↓m_ld7 h, ↓m_ld8 h, ↓m_ld9 h, ↓m_ld10 h, ↓m_ld11 h, ↓m_ld12 h, ↓m_ld13 h, ↓m_ld14 h, ↓m_ld15 h, ↓m_ld16 h, ↓m_ld17 h, ↓m_ld18 h, ↓m_ld19 h, ↓m_rcv h, e1, e2, e3, ↓u_j_X9_reasons_90]
  · show L_X9_reasons_59 (some m0) (iI a) (iI b) (fun v13 => rtn v13) (f + 1) (iI (bdN S a b 1023)) (iI (1022 - ((1023 : Nat) : Int))) hs = _
    rw [u_L_X9_reasons_59]
    simp -implicitDefEqProofs (disch := omega) only [↓reduceIte, ↓e_lets, ↓e_ite, ↓e_cal, e_cal2, e_cal3, e_thr, e_nthrow, e_rtn, e_r0, e_r1, e_dv, iI_add, iI_sub, iI_mul, iI_neg, iI_div, iI_rem, iI_lt, iI_le, iI_eq, b_eq0, b_eq1, Int.reduceAdd, Int.reduceMul, Int.reduceSub, Int.reduceNeg, Int.reduceDiv, Int.reduceMod, Nat.reduceAdd, Bool.false_eq_true, eq_self, ltT, ltF, leT, leF, eqT, eqF, true_and, and_true, false_and, and_false, and_self, or_true, true_or, or_false, false_or, ne_eq, not_true_eq_false, not_false_eq_true, if_true, if_false, ite_true, ite_false, ite_not, some_none, some_some, none_some, none_none, li_0, li_1, li_2, li_3, li_4, li_5, li_6, li_7, li_8, li_9, li_10, li_11, li_12, li_13, li_14, li_15, li_16, li_17, li_18, li_19, li_20, li_21, li_22, li_23, li_24, li_25, li_26, li_27, li_28, li_29, li_30, li_31, li_32, li_63, li_64, li_99, li_100, li_128, li_240, li_256, li_512, li_960, li_1000, li_1022, li_1023, li_100000, li_m1, li_m1000, ↓m_g0 h, ↓m_g1 h, ↓m_g2 h, ↓m_g3 h, ↓m_g4 h, ↓m_g5 h, ↓m_g6 h, ↓m_g7 h, ↓m_g8 h, ↓m_g9 h, ↓m_g10 h, ↓m_g11 h, ↓m_g12 h, ↓m_g13 h, ↓m_g14 h, ↓m_g15 h, ↓m_g16 h, ↓m_g17 h, ↓m_g18 h, ↓m_g19 h, ↓m_g20 h, ↓m_g21 h, ↓m_g22 h, ↓m_g23 h, ↓m_g24 h, ↓m_g25 h, ↓m_g26 h, ↓m_g27 h, ↓m_ld0 h, ↓m_ld1 h, ↓m_ld2 h, ↓m_ld3 h, ↓m_ld4 h, ↓m_ld5 h, ↓m_ld6 h, ↓m_ld7 h, ↓m_ld8 h, ↓m_ld9 h, ↓m_ld10 h, ↓m_ld11 h, ↓m_ld12 h, ↓m_ld13 h, ↓m_ld14 h, ↓m_ld15 h, ↓m_ld16 h, ↓m_ld17 h, ↓m_ld18 h, ↓m_ld19 h, ↓m_rcv h, Int.cast_ofNat_Int]
theorem bc_1023 : ∀ x : Fin 1023, bcN (iI (x.val : Int)) < 10 := by decide +kernel
theorem bc_all : bcN (iI 1023) = 10 := by decide +kernel
def okB (S : SS) (l s x : Int) : Prop := x = 1023 ∨ beQ S l s x = true
theorem bsN_p (S : SS) (l s : Int) : ∀ m : Nat, m ≤ 1022 → (okB S l s (bsN S l s m) ∧ 1 ≤ bsN S l s m ∧ bsN S l s m ≤ 1023 ∧ (bsN S l s m ≤ m ∨ bsN S l s m = 1023)) ∧ (∀ y : Int, 1 ≤ y → y ≤ m → beQ S l s y = true → bcN (iI (bsN S l s m)) < bcN (iI y) ∨ bcN (iI (bsN S l s m)) = bcN (iI y) ∧ bsN S l s m ≤ y) := by
  intro m
  induction m with
  | zero => intro _; exact ⟨⟨Or.inl rfl, by show (1 : Int) ≤ 1023; decide, by show (1023 : Int) ≤ 1023; decide, Or.inr rfl⟩, fun y y0 y1 => absurd y1 (by omega)⟩
  | succ m ih =>
    intro hm
    obtain ⟨⟨h1, h2, h3, h5⟩, h4⟩ := ih (by omega)
    have e : bsN S l s (m + 1) = if bcN (iI ((m : Int) + 1)) < bcN (iI (bsN S l s m)) ∧ beQ S l s ((m : Int) + 1) = true then (m : Int) + 1 else bsN S l s m := rfl
    rw [e]
    by_cases c : bcN (iI ((m : Int) + 1)) < bcN (iI (bsN S l s m)) ∧ beQ S l s ((m : Int) + 1) = true
    · rw [if_pos c]
      refine ⟨⟨Or.inr c.2, by omega, by omega, Or.inl (by omega)⟩, fun y y0 y1 hy => ?_⟩
      by_cases d : y = (m : Int) + 1
      · subst d
        exact Or.inr ⟨rfl, Int.le_refl _⟩
      · have := h4 y y0 (by omega) hy
        omega
    · rw [if_neg c]
      refine ⟨⟨h1, h2, h3, by omega⟩, fun y y0 y1 hy => ?_⟩
      by_cases d : y = (m : Int) + 1
      · subst d
        have : ¬ bcN (iI ((m : Int) + 1)) < bcN (iI (bsN S l s m)) := fun w => c ⟨w, hy⟩
        rcases h5 with h5 | h5
        · omega
        · have h6 := bc_1023 ⟨m + 1, by omega⟩
          have h7 := bc_all
          rw [h5] at this
          have e2 : (((m + 1 : Nat) : Int)) = (m : Int) + 1 := by omega
          simp only [e2] at h6
          omega
      · exact h4 y y0 (by omega) hy
theorem bdN_p (S : SS) (l s : Int) (h0 : beQ S l s 0 = false) : ∀ k : Nat, k ≤ 1023 → (okB S l s (bdN S l s k) ∧ 1 ≤ bdN S l s k ∧ bdN S l s k ≤ 1023) ∧ (∀ y : Int, 1023 - (k : Int) ≤ y → 1 ≤ y → y ≤ 1022 → beQ S l s y = true → bcN (iI (bdN S l s k)) < bcN (iI y) ∨ bcN (iI (bdN S l s k)) = bcN (iI y) ∧ bdN S l s k ≤ y) := by
  intro k
  induction k with
  | zero => intro _; exact ⟨⟨Or.inl rfl, by show (1 : Int) ≤ 1023; decide, by show (1023 : Int) ≤ 1023; decide⟩, fun y y0 y1 y2 => absurd y2 (by omega)⟩
  | succ k ih =>
    intro hk
    obtain ⟨⟨h1, h2, h3⟩, h4⟩ := ih (by omega)
    have hb := bdN_b S l s k (by omega)
    have e : bdN S l s (k + 1) = if beQ S l s (1022 - (k : Int)) = true ∧ bcN (iI (1022 - (k : Int))) ≤ bcN (iI (bdN S l s k)) then 1022 - (k : Int) else bdN S l s k := rfl
    rw [e]
    by_cases c : beQ S l s (1022 - (k : Int)) = true ∧ bcN (iI (1022 - (k : Int))) ≤ bcN (iI (bdN S l s k))
    · rw [if_pos c]
      have hne : 1022 - (k : Int) ≠ 0 := fun w => by
        have := c.1
        rw [w, h0] at this
        exact absurd this (by decide)
      refine ⟨⟨Or.inr c.1, by omega, by omega⟩, fun y y0 y1 y2 hy => ?_⟩
      by_cases d : y = 1022 - (k : Int)
      · subst d
        exact Or.inr ⟨rfl, Int.le_refl _⟩
      · have := h4 y (by omega) y1 y2 hy
        omega
    · rw [if_neg c]
      refine ⟨⟨h1, h2, h3⟩, fun y y0 y1 y2 hy => ?_⟩
      by_cases d : y = 1022 - (k : Int)
      · subst d
        have : ¬ bcN (iI (1022 - (k : Int))) ≤ bcN (iI (bdN S l s k)) := fun w => c ⟨hy, w⟩
        omega
      · exact h4 y (by omega) y1 y2 hy
theorem bs_bd (S : SS) (l s : Int) (h0 : beQ S l s 0 = false) : bdN S l s 1023 = bsN S l s 1022 := by
  obtain ⟨⟨a1, a2, a3⟩, a4⟩ := bdN_p S l s h0 1023 (by decide)
  obtain ⟨⟨b1, b2, b3, b5⟩, b4⟩ := bsN_p S l s 1022 (by decide)
  have hall := bc_all
  have h9 : ∀ x : Int, 1 ≤ x → x ≤ 1022 → bcN (iI x) < 10 := fun x x0 x1 => by
    have := bc_1023 ⟨x.toNat, by omega⟩
    simp only [show ((x.toNat : Nat) : Int) = x by omega] at this
    exact this
  generalize bdN S l s 1023 = x at *
  generalize bsN S l s 1022 = y at *
  by_cases cx : x = 1023
  · by_cases cy : y = 1023
    · omega
    · have h1 := a4 y (by omega) b2 (by omega) (b1.resolve_left cy)
      have h2 := h9 y b2 (by omega)
      rw [cx] at h1
      omega
  · by_cases cy : y = 1023
    · have h1 := b4 x a2 (by omega) (a1.resolve_left cx)
      have h2 := h9 x a2 (by omega)
      rw [cy] at h1
      omega
    · have h1 := a4 y (by omega) b2 (by omega) (b1.resolve_left cy)
      have h2 := b4 x a2 (by omega) (a1.resolve_left cx)
      omega
theorem be_0 {S : SS} {l s : Int} (h : 0 < S 20 1) : beQ S l s 0 = false := by
  unfold beQ
  refine decide_eq_false (fun w => ?_)
  have h1 := fstN_l (beB S l s 0) (S 20 1).toNat 0 (by omega) (Or.inl w)
  unfold beB at h1
  rw [decide_eq_false_iff_not] at h1
  refine h1 ?_
  rw [← li_0]
  simp
theorem bd_rs {S : SS} (hm : Bm S) (l s : Int) : bdN S l s 1023 = rsV S l s := by
  unfold Bm at hm
  unfold rsV
  by_cases c : S 20 1 = 0
  · rw [if_pos c]
    have hq : beQ S l s 0 = true := by
      unfold beQ
      rw [c]
      rfl
    have e : bdN S l s 1023 = if beQ S l s (1022 - ((1022 : Nat) : Int)) = true ∧ bcN (iI (1022 - ((1022 : Nat) : Int))) ≤ bcN (iI (bdN S l s 1022)) then 1022 - ((1022 : Nat) : Int) else bdN S l s 1022 := rfl
    have e0 : (1022 - ((1022 : Nat) : Int)) = 0 := by decide
    rw [e, e0]
    have b0 : bcN (iI 0) = 0 := by decide +kernel
    have := bcN_b (iI (bdN S l s 1022))
    exact if_pos ⟨hq, by omega⟩
  · rw [if_neg c]
    exact bs_bd S l s (be_0 (by omega))
theorem rsB_m {S U : SS} (h : Sm S U) (l s : Int) : rsB S l s = rsB U l s := by
  funext k
  unfold rsB
  rw [sLt_m h]
theorem x_reasons_1 {m0 : Nat} {S : SS} (hV : VS S) {a : Int} (a0 : -2147483648 ≤ a) (a1 : a < 2147483648) {b : Int} (b0 : -2147483648 ≤ b) (b1 : b < 2147483648) (h1 : a < 0 ∨ S 20 4 ≤ a)  : XO (f_X9_reasons m0 (iI a) (iI b)) m0 S ((upS S 20 0 1)) 1 (fun _ => True) := by
  obtain ⟨hb, hm, hv⟩ := hV
  have hm2 := hm
  unfold Bm at hm2
  intro P z hz
  refine ⟨iI 0, P, z, (upS S 20 0 1), ?_, FM.rfl, Sm.rfl, rfl, trivial⟩
  rw [u_f_X9_reasons]
  simp -implicitDefEqProofs (disch := omega) only [↓reduceIte, ↓e_lets, ↓e_ite, ↓e_cal, e_cal2, e_cal3, e_thr, e_nthrow, e_rtn, e_r0, e_r1, e_dv, iI_add, iI_sub, iI_mul, iI_neg, iI_div, iI_rem, iI_lt, iI_le, iI_eq, b_eq0, b_eq1, Int.reduceAdd, Int.reduceMul, Int.reduceSub, Int.reduceNeg, Int.reduceDiv, Int.reduceMod, Nat.reduceAdd, Bool.false_eq_true, eq_self, ltT, ltF, leT, leF, eqT, eqF, true_and, and_true, false_and, and_false, and_self, or_true, true_or, or_false, false_or, ne_eq, not_true_eq_false, not_false_eq_true, if_true, if_false, ite_true, ite_false, ite_not, some_none, some_some, none_some, none_none, li_0, li_1, li_2, li_3, li_4, li_5, li_6, li_7, li_8, li_9, li_10, li_11, li_12, li_13, li_14, li_15, li_16, li_17, li_18, li_19, li_20, li_21, li_22, li_23, li_24, li_25, li_26, li_27, li_28, li_29, li_30, li_31, li_32, li_63, li_64, li_99, li_100, li_128, li_240, li_256, li_512, li_960, li_1000, li_1022, li_1023, li_100000, li_m1, li_m1000, ↓m_g0 MR_Hm, ↓m_g1 MR_Hm, ↓m_g2 MR_Hm, ↓m_g3 MR_Hm, ↓m_g4 MR_Hm, ↓m_g5 MR_Hm, ↓m_g6 MR_Hm, ↓m_g7 MR_Hm, ↓m_g8 MR_Hm, ↓m_g9 MR_Hm, ↓m_g10 MR_Hm, ↓m_g11 MR_Hm, ↓m_g12 MR_Hm, ↓m_g13 MR_Hm, ↓m_g14 MR_Hm, ↓m_g15 MR_Hm, ↓m_g16 MR_Hm, ↓m_g17 MR_Hm, ↓m_g18 MR_Hm, ↓m_g19 MR_Hm, ↓m_g20 MR_Hm, ↓m_g21 MR_Hm, ↓m_g22 MR_Hm, ↓m_g23 MR_Hm, ↓m_g24 MR_Hm, ↓m_g25 MR_Hm, ↓m_g26 MR_Hm, ↓m_g27 MR_Hm, ↓m_ld0 MR_Hm, ↓m_ld1 MR_Hm, ↓m_ld2 MR_Hm, ↓m_ld3 MR_Hm, ↓m_ld4 MR_Hm, ↓m_ld5 MR_Hm, ↓m_ld6 MR_Hm, ↓m_ld7 MR_Hm, ↓m_ld8 MR_Hm, ↓m_ld9 MR_Hm, ↓m_ld10 MR_Hm, ↓m_ld11 MR_Hm, ↓m_ld12 MR_Hm, ↓m_ld13 MR_Hm, ↓m_ld14 MR_Hm, ↓m_ld15 MR_Hm, ↓m_ld16 MR_Hm, ↓m_ld17 MR_Hm, ↓m_ld18 MR_Hm, ↓m_ld19 MR_Hm, ↓m_rcv MR_Hm, ↓m_s0, ↓m_s1, ↓m_s2, ↓m_s3, ↓m_s4, ↓m_s5, ↓m_s6, ↓m_s7, ↓m_s8, ↓m_s9, ↓m_s10, ↓m_s11, ↓m_s12, ↓m_s13, ↓m_s14, ↓m_s15, ↓m_s16, ↓m_s17, ↓m_s18, ↓m_s19, ↓m_p0, ↓m_p1, ↓m_p2, ↓m_p3, ↓m_p4, ↓m_p5, ↓m_p6, ↓m_p7, upS_s, upS_g, upS_i, e_in1, e_in0, x_ck1, x_ck0, x_plain, ↓u_f_X9_isLesson, ↓u_f_X9_isTeacher, ↓u_f_X9_isGroup, ↓u_f_X9_isRoom, ↓u_f_X9_isVersion, ↓u_f_X9_isSlot, ↓u_f_X9_wrongPlace, ↓u_f_X9_wrongFree, ↓u_j_X9_wrongFree_37, ↓u_j_X9_wrongPlace_27, e_X9_isPlaced MR_Hm, Nat.reduceEqDiff, ↓u_j_X9_reasons_90, ↓u_j_X9_reasons_38]
theorem x_reasons_2 {m0 : Nat} {S : SS} (hV : VS S) {a : Int} (a0 : -2147483648 ≤ a) (a1 : a < 2147483648) {b : Int} (b0 : -2147483648 ≤ b) (b1 : b < 2147483648) (h1 : 0 ≤ a ∧ a < S 20 4) (h2 : b < 0 ∨ 29 < b)  : XO (f_X9_reasons m0 (iI a) (iI b)) m0 S ((upS S 20 0 2)) 2 (fun _ => True) := by
  obtain ⟨hb, hm, hv⟩ := hV
  have hm2 := hm
  unfold Bm at hm2
  intro P z hz
  refine ⟨iI 0, P, z, (upS S 20 0 2), ?_, FM.rfl, Sm.rfl, rfl, trivial⟩
  rw [u_f_X9_reasons]
  simp -implicitDefEqProofs (disch := omega) only [↓reduceIte, ↓e_lets, ↓e_ite, ↓e_cal, e_cal2, e_cal3, e_thr, e_nthrow, e_rtn, e_r0, e_r1, e_dv, iI_add, iI_sub, iI_mul, iI_neg, iI_div, iI_rem, iI_lt, iI_le, iI_eq, b_eq0, b_eq1, Int.reduceAdd, Int.reduceMul, Int.reduceSub, Int.reduceNeg, Int.reduceDiv, Int.reduceMod, Nat.reduceAdd, Bool.false_eq_true, eq_self, ltT, ltF, leT, leF, eqT, eqF, true_and, and_true, false_and, and_false, and_self, or_true, true_or, or_false, false_or, ne_eq, not_true_eq_false, not_false_eq_true, if_true, if_false, ite_true, ite_false, ite_not, some_none, some_some, none_some, none_none, li_0, li_1, li_2, li_3, li_4, li_5, li_6, li_7, li_8, li_9, li_10, li_11, li_12, li_13, li_14, li_15, li_16, li_17, li_18, li_19, li_20, li_21, li_22, li_23, li_24, li_25, li_26, li_27, li_28, li_29, li_30, li_31, li_32, li_63, li_64, li_99, li_100, li_128, li_240, li_256, li_512, li_960, li_1000, li_1022, li_1023, li_100000, li_m1, li_m1000, ↓m_g0 MR_Hm, ↓m_g1 MR_Hm, ↓m_g2 MR_Hm, ↓m_g3 MR_Hm, ↓m_g4 MR_Hm, ↓m_g5 MR_Hm, ↓m_g6 MR_Hm, ↓m_g7 MR_Hm, ↓m_g8 MR_Hm, ↓m_g9 MR_Hm, ↓m_g10 MR_Hm, ↓m_g11 MR_Hm, ↓m_g12 MR_Hm, ↓m_g13 MR_Hm, ↓m_g14 MR_Hm, ↓m_g15 MR_Hm, ↓m_g16 MR_Hm, ↓m_g17 MR_Hm, ↓m_g18 MR_Hm, ↓m_g19 MR_Hm, ↓m_g20 MR_Hm, ↓m_g21 MR_Hm, ↓m_g22 MR_Hm, ↓m_g23 MR_Hm, ↓m_g24 MR_Hm, ↓m_g25 MR_Hm, ↓m_g26 MR_Hm, ↓m_g27 MR_Hm, ↓m_ld0 MR_Hm, ↓m_ld1 MR_Hm, ↓m_ld2 MR_Hm, ↓m_ld3 MR_Hm, ↓m_ld4 MR_Hm, ↓m_ld5 MR_Hm, ↓m_ld6 MR_Hm, ↓m_ld7 MR_Hm, ↓m_ld8 MR_Hm, ↓m_ld9 MR_Hm, ↓m_ld10 MR_Hm, ↓m_ld11 MR_Hm, ↓m_ld12 MR_Hm, ↓m_ld13 MR_Hm, ↓m_ld14 MR_Hm, ↓m_ld15 MR_Hm, ↓m_ld16 MR_Hm, ↓m_ld17 MR_Hm, ↓m_ld18 MR_Hm, ↓m_ld19 MR_Hm, ↓m_rcv MR_Hm, ↓m_s0, ↓m_s1, ↓m_s2, ↓m_s3, ↓m_s4, ↓m_s5, ↓m_s6, ↓m_s7, ↓m_s8, ↓m_s9, ↓m_s10, ↓m_s11, ↓m_s12, ↓m_s13, ↓m_s14, ↓m_s15, ↓m_s16, ↓m_s17, ↓m_s18, ↓m_s19, ↓m_p0, ↓m_p1, ↓m_p2, ↓m_p3, ↓m_p4, ↓m_p5, ↓m_p6, ↓m_p7, upS_s, upS_g, upS_i, e_in1, e_in0, x_ck1, x_ck0, x_plain, ↓u_f_X9_isLesson, ↓u_f_X9_isTeacher, ↓u_f_X9_isGroup, ↓u_f_X9_isRoom, ↓u_f_X9_isVersion, ↓u_f_X9_isSlot, ↓u_f_X9_wrongPlace, ↓u_f_X9_wrongFree, ↓u_j_X9_wrongFree_37, ↓u_j_X9_wrongPlace_27, e_X9_isPlaced MR_Hm, Nat.reduceEqDiff, ↓u_j_X9_reasons_90, ↓u_j_X9_reasons_38]
theorem x_reasons_3 {m0 : Nat} {S : SS} (hV : VS S) {a : Int} (a0 : -2147483648 ≤ a) (a1 : a < 2147483648) {b : Int} (b0 : -2147483648 ≤ b) (b1 : b < 2147483648) (h1 : 0 ≤ a ∧ a < S 20 4) (h2 : 0 ≤ b ∧ b ≤ 29) (h3 : 0 ≤ fstN (rsB (upS S 20 0 3) a b) (S 20 1).toNat)  : XO (f_X9_reasons m0 (iI a) (iI b)) m0 S ((upS S 20 0 3)) 3 (fun _ => True) := by
  obtain ⟨hb, hm, hv⟩ := hV
  have hm2 := hm
  unfold Bm at hm2
  intro P z hz
  refine ⟨iI 0, P, z, (upS S 20 0 3), ?_, FM.rfl, Sm.rfl, rfl, trivial⟩
  have e1 := e_isOpenAt (MR_Hm (m0 := m0) (P := P) (S := S) (z := z)) ⟨hb, hm, hv⟩ h1 h2
  rw [← rsB_m Sm.u0] at h3
  rw [if_pos h3] at e1
  rw [u_f_X9_reasons]
  simp -implicitDefEqProofs (disch := omega) only [↓reduceIte, ↓e_lets, ↓e_ite, ↓e_cal, e_cal2, e_cal3, e_thr, e_nthrow, e_rtn, e_r0, e_r1, e_dv, iI_add, iI_sub, iI_mul, iI_neg, iI_div, iI_rem, iI_lt, iI_le, iI_eq, b_eq0, b_eq1, Int.reduceAdd, Int.reduceMul, Int.reduceSub, Int.reduceNeg, Int.reduceDiv, Int.reduceMod, Nat.reduceAdd, Bool.false_eq_true, eq_self, ltT, ltF, leT, leF, eqT, eqF, true_and, and_true, false_and, and_false, and_self, or_true, true_or, or_false, false_or, ne_eq, not_true_eq_false, not_false_eq_true, if_true, if_false, ite_true, ite_false, ite_not, some_none, some_some, none_some, none_none, li_0, li_1, li_2, li_3, li_4, li_5, li_6, li_7, li_8, li_9, li_10, li_11, li_12, li_13, li_14, li_15, li_16, li_17, li_18, li_19, li_20, li_21, li_22, li_23, li_24, li_25, li_26, li_27, li_28, li_29, li_30, li_31, li_32, li_63, li_64, li_99, li_100, li_128, li_240, li_256, li_512, li_960, li_1000, li_1022, li_1023, li_100000, li_m1, li_m1000, ↓m_g0 MR_Hm, ↓m_g1 MR_Hm, ↓m_g2 MR_Hm, ↓m_g3 MR_Hm, ↓m_g4 MR_Hm, ↓m_g5 MR_Hm, ↓m_g6 MR_Hm, ↓m_g7 MR_Hm, ↓m_g8 MR_Hm, ↓m_g9 MR_Hm, ↓m_g10 MR_Hm, ↓m_g11 MR_Hm, ↓m_g12 MR_Hm, ↓m_g13 MR_Hm, ↓m_g14 MR_Hm, ↓m_g15 MR_Hm, ↓m_g16 MR_Hm, ↓m_g17 MR_Hm, ↓m_g18 MR_Hm, ↓m_g19 MR_Hm, ↓m_g20 MR_Hm, ↓m_g21 MR_Hm, ↓m_g22 MR_Hm, ↓m_g23 MR_Hm, ↓m_g24 MR_Hm, ↓m_g25 MR_Hm, ↓m_g26 MR_Hm, ↓m_g27 MR_Hm, ↓m_ld0 MR_Hm, ↓m_ld1 MR_Hm, ↓m_ld2 MR_Hm, ↓m_ld3 MR_Hm, ↓m_ld4 MR_Hm, ↓m_ld5 MR_Hm, ↓m_ld6 MR_Hm, ↓m_ld7 MR_Hm, ↓m_ld8 MR_Hm, ↓m_ld9 MR_Hm, ↓m_ld10 MR_Hm, ↓m_ld11 MR_Hm, ↓m_ld12 MR_Hm, ↓m_ld13 MR_Hm, ↓m_ld14 MR_Hm, ↓m_ld15 MR_Hm, ↓m_ld16 MR_Hm, ↓m_ld17 MR_Hm, ↓m_ld18 MR_Hm, ↓m_ld19 MR_Hm, ↓m_rcv MR_Hm, ↓m_s0, ↓m_s1, ↓m_s2, ↓m_s3, ↓m_s4, ↓m_s5, ↓m_s6, ↓m_s7, ↓m_s8, ↓m_s9, ↓m_s10, ↓m_s11, ↓m_s12, ↓m_s13, ↓m_s14, ↓m_s15, ↓m_s16, ↓m_s17, ↓m_s18, ↓m_s19, ↓m_p0, ↓m_p1, ↓m_p2, ↓m_p3, ↓m_p4, ↓m_p5, ↓m_p6, ↓m_p7, upS_s, upS_g, upS_i, e_in1, e_in0, x_ck1, x_ck0, x_plain, ↓u_f_X9_isLesson, ↓u_f_X9_isTeacher, ↓u_f_X9_isGroup, ↓u_f_X9_isRoom, ↓u_f_X9_isVersion, ↓u_f_X9_isSlot, ↓u_f_X9_wrongPlace, ↓u_f_X9_wrongFree, ↓u_j_X9_wrongFree_37, ↓u_j_X9_wrongPlace_27, e_X9_isPlaced MR_Hm, Nat.reduceEqDiff, ↓u_j_X9_reasons_38, e1]
theorem x_reasons_0 {m0 : Nat} {S : SS} (hV : VS S) {a : Int} (a0 : -2147483648 ≤ a) (a1 : a < 2147483648) {b : Int} (b0 : -2147483648 ≤ b) (b1 : b < 2147483648) (h1 : 0 ≤ a ∧ a < S 20 4) (h2 : 0 ≤ b ∧ b ≤ 29) (h3 : fstN (rsB (upS S 20 0 0) a b) (S 20 1).toNat < 0)  : XO (f_X9_reasons m0 (iI a) (iI b)) m0 S ((upS S 20 0 0)) 0 (fun res => res = iI (rsV (upS S 20 0 0) a b)) := by
  obtain ⟨hb, hm, hv⟩ := hV
  have hm2 := hm
  unfold Bm at hm2
  intro P z hz
  refine ⟨_, P, z, (upS S 20 0 0), ?_, FM.rfl, Sm.rfl, rfl, rfl⟩
  have e1 := e_isOpenAt (MR_Hm (m0 := m0) (P := P) (S := S) (z := z)) ⟨hb, hm, hv⟩ h1 h2
  rw [← rsB_m Sm.u0] at h3
  rw [if_neg (show ¬ 0 ≤ fstN (rsB S a b) (S 20 1).toNat by omega)] at e1
  have e2 := e_L_rs59 (MR_Hm (m0 := m0) (P := P) (S := (upS S 20 0 0)) (z := z)) (VS_m Sm.u0 ⟨hb, hm, hv⟩) h1 h2
  rw [bd_rs (VS_m (Sm.u0 (S := S) (x := 0)) ⟨hb, hm, hv⟩).2.1] at e2
  rw [u_f_X9_reasons]
  simp -implicitDefEqProofs (disch := omega) only [↓reduceIte, ↓e_lets, ↓e_ite, ↓e_cal, e_cal2, e_cal3, e_thr, e_nthrow, e_rtn, e_r0, e_r1, e_dv, iI_add, iI_sub, iI_mul, iI_neg, iI_div, iI_rem, iI_lt, iI_le, iI_eq, b_eq0, b_eq1, Int.reduceAdd, Int.reduceMul, Int.reduceSub, Int.reduceNeg, Int.reduceDiv, Int.reduceMod, Nat.reduceAdd, Bool.false_eq_true, eq_self, ltT, ltF, leT, leF, eqT, eqF, true_and, and_true, false_and, and_false, and_self, or_true, true_or, or_false, false_or, ne_eq, not_true_eq_false, not_false_eq_true, if_true, if_false, ite_true, ite_false, ite_not, some_none, some_some, none_some, none_none, li_0, li_1, li_2, li_3, li_4, li_5, li_6, li_7, li_8, li_9, li_10, li_11, li_12, li_13, li_14, li_15, li_16, li_17, li_18, li_19, li_20, li_21, li_22, li_23, li_24, li_25, li_26, li_27, li_28, li_29, li_30, li_31, li_32, li_63, li_64, li_99, li_100, li_128, li_240, li_256, li_512, li_960, li_1000, li_1022, li_1023, li_100000, li_m1, li_m1000, ↓m_g0 MR_Hm, ↓m_g1 MR_Hm, ↓m_g2 MR_Hm, ↓m_g3 MR_Hm, ↓m_g4 MR_Hm, ↓m_g5 MR_Hm, ↓m_g6 MR_Hm, ↓m_g7 MR_Hm, ↓m_g8 MR_Hm, ↓m_g9 MR_Hm, ↓m_g10 MR_Hm, ↓m_g11 MR_Hm, ↓m_g12 MR_Hm, ↓m_g13 MR_Hm, ↓m_g14 MR_Hm, ↓m_g15 MR_Hm, ↓m_g16 MR_Hm, ↓m_g17 MR_Hm, ↓m_g18 MR_Hm, ↓m_g19 MR_Hm, ↓m_g20 MR_Hm, ↓m_g21 MR_Hm, ↓m_g22 MR_Hm, ↓m_g23 MR_Hm, ↓m_g24 MR_Hm, ↓m_g25 MR_Hm, ↓m_g26 MR_Hm, ↓m_g27 MR_Hm, ↓m_ld0 MR_Hm, ↓m_ld1 MR_Hm, ↓m_ld2 MR_Hm, ↓m_ld3 MR_Hm, ↓m_ld4 MR_Hm, ↓m_ld5 MR_Hm, ↓m_ld6 MR_Hm, ↓m_ld7 MR_Hm, ↓m_ld8 MR_Hm, ↓m_ld9 MR_Hm, ↓m_ld10 MR_Hm, ↓m_ld11 MR_Hm, ↓m_ld12 MR_Hm, ↓m_ld13 MR_Hm, ↓m_ld14 MR_Hm, ↓m_ld15 MR_Hm, ↓m_ld16 MR_Hm, ↓m_ld17 MR_Hm, ↓m_ld18 MR_Hm, ↓m_ld19 MR_Hm, ↓m_rcv MR_Hm, ↓m_s0, ↓m_s1, ↓m_s2, ↓m_s3, ↓m_s4, ↓m_s5, ↓m_s6, ↓m_s7, ↓m_s8, ↓m_s9, ↓m_s10, ↓m_s11, ↓m_s12, ↓m_s13, ↓m_s14, ↓m_s15, ↓m_s16, ↓m_s17, ↓m_s18, ↓m_s19, ↓m_p0, ↓m_p1, ↓m_p2, ↓m_p3, ↓m_p4, ↓m_p5, ↓m_p6, ↓m_p7, upS_s, upS_g, upS_i, e_in1, e_in0, x_ck1, x_ck0, x_plain, ↓u_f_X9_isLesson, ↓u_f_X9_isTeacher, ↓u_f_X9_isGroup, ↓u_f_X9_isRoom, ↓u_f_X9_isVersion, ↓u_f_X9_isSlot, ↓u_f_X9_wrongPlace, ↓u_f_X9_wrongFree, ↓u_j_X9_wrongFree_37, ↓u_j_X9_wrongPlace_27, e_X9_isPlaced MR_Hm, Nat.reduceEqDiff, ↓u_j_X9_reasons_38, e1, ↓e2]
theorem hLk : True := trivial
theorem e_lacksAbove {S : SS} {m0 : Nat} {hs : Hs} (h : MR S m0 hs) (hV : VS S) {c : Int} (c0 : 0 ≤ c) (c1 : c < 4) {n : Int} (n0 : 0 ≤ n) (n1 : n < 100)  : f_X9_lacksAbove m0 (iI c) (iI n) hs = some (.ok (iI (exI S c n)), hs) := by
  obtain ⟨hb, hm, hv⟩ := hV
  have hm2 := hm
  unfold Bm at hm2
  have h9 : (((S 20 4).toNat : Nat) : Int) = S 20 4 := by omega
  have h8 : (((S 20 1).toNat : Nat) : Int) = S 20 1 := by omega
  have hL1 : ∀ Kc : Int32 → OO Int32, L_X9_lacksAbove_5 (some m0) (iI c) (iI n) Kc 100000 (iI 0) (iI 0) hs = Kc (iI (sumN (fun k => exA S c n k) (S 20 4).toNat)) hs := fun Kc => by
    refine loopD (fun f (qq : Int32 × Int32) => L_X9_lacksAbove_5 (some m0) (iI c) (iI n) Kc f qq.1 qq.2 hs) (fun m => (iI (sumN (fun k => exA S c n k) m), iI (m : Int))) (S 20 4).toNat _ (fun k f hk => ?_) (fun f => ?_) 100000 (by omega)
    · show L_X9_lacksAbove_5 _ _ _ _ (f + 1) (iI (sumN (fun k => exA S c n k) k)) (iI (k : Int)) hs = L_X9_lacksAbove_5 _ _ _ _ f (iI (sumN (fun k => exA S c n k) (k + 1))) (iI ((k + 1) : Int)) hs
      show _ = L_X9_lacksAbove_5 _ _ _ _ f (iI (sumN (fun k => exA S c n k) k + exA S c n k)) _ hs
      have hk3 := hb (k : Int)
      have hk4 := hb (S 9 k)
      rw [u_L_X9_lacksAbove_5]
      unfold exA
      by_cases d1 : S 11 k = c
      · by_cases d2 : n < S 5 (S 9 k)
        · rw [if_pos ⟨d1, d2⟩]
          simp -implicitDefEqProofs (disch := omega) only [↓reduceIte, ↓e_lets, ↓e_ite, ↓e_cal, e_cal2, e_cal3, e_thr, e_nthrow, e_rtn, e_r0, e_r1, e_dv, iI_add, iI_sub, iI_mul, iI_neg, iI_div, iI_rem, iI_lt, iI_le, iI_eq, b_eq0, b_eq1, Int.reduceAdd, Int.reduceMul, Int.reduceSub, Int.reduceNeg, Int.reduceDiv, Int.reduceMod, Nat.reduceAdd, Bool.false_eq_true, eq_self, ltT, ltF, leT, leF, eqT, eqF, true_and, and_true, false_and, and_false, and_self, or_true, true_or, or_false, false_or, ne_eq, not_true_eq_false, not_false_eq_true, if_true, if_false, ite_true, ite_false, ite_not, some_none, some_some, none_some, none_none, li_0, li_1, li_2, li_3, li_4, li_5, li_6, li_7, li_8, li_9, li_10, li_11, li_12, li_13, li_14, li_15, li_16, li_17, li_18, li_19, li_20, li_21, li_22, li_23, li_24, li_25, li_26, li_27, li_28, li_29, li_30, li_31, li_32, li_63, li_64, li_99, li_100, li_128, li_240, li_256, li_512, li_960, li_1000, li_1022, li_1023, li_100000, li_m1, li_m1000, ↓m_g0 h, ↓m_g1 h, ↓m_g2 h, ↓m_g3 h, ↓m_g4 h, ↓m_g5 h, ↓m_g6 h, ↓m_g7 h, ↓m_g8 h, ↓m_g9 h, ↓m_g10 h, ↓m_g11 h, ↓m_g12 h, ↓m_g13 h, ↓m_g14 h, ↓m_g15 h, ↓m_g16 h, ↓m_g17 h, ↓m_g18 h, ↓m_g19 h, ↓m_g20 h, ↓m_g21 h, ↓m_g22 h, ↓m_g23 h, ↓m_g24 h, ↓m_g25 h, ↓m_g26 h, ↓m_g27 h, ↓m_ld0 h, ↓m_ld1 h, ↓m_ld2 h, ↓m_ld3 h, ↓m_ld4 h, ↓m_ld5 h, ↓m_ld6 h, ↓m_ld7 h, ↓m_ld8 h, ↓m_ld9 h, ↓m_ld10 h, ↓m_ld11 h, ↓m_ld12 h, ↓m_ld13 h, ↓m_ld14 h, ↓m_ld15 h, ↓m_ld16 h, ↓m_ld17 h, ↓m_ld18 h, ↓m_ld19 h, ↓m_rcv h, ↓u_j_X9_lacksAbove_52, ↓u_j_X9_lacksAbove_53]
        · rw [if_neg (fun q => d2 q.2)]
          simp -implicitDefEqProofs (disch := omega) only [↓reduceIte, ↓e_lets, ↓e_ite, ↓e_cal, e_cal2, e_cal3, e_thr, e_nthrow, e_rtn, e_r0, e_r1, e_dv, iI_add, iI_sub, iI_mul, iI_neg, iI_div, iI_rem, iI_lt, iI_le, iI_eq, b_eq0, b_eq1, Int.reduceAdd, Int.reduceMul, Int.reduceSub, Int.reduceNeg, Int.reduceDiv, Int.reduceMod, Nat.reduceAdd, Bool.false_eq_true, eq_self, ltT, ltF, leT, leF, eqT, eqF, true_and, and_true, false_and, and_false, and_self, or_true, true_or, or_false, false_or, ne_eq, not_true_eq_false, not_false_eq_true, if_true, if_false, ite_true, ite_false, ite_not, some_none, some_some, none_some, none_none, li_0, li_1, li_2, li_3, li_4, li_5, li_6, li_7, li_8, li_9, li_10, li_11, li_12, li_13, li_14, li_15, li_16, li_17, li_18, li_19, li_20, li_21, li_22, li_23, li_24, li_25, li_26, li_27, li_28, li_29, li_30, li_31, li_32, li_63, li_64, li_99, li_100, li_128, li_240, li_256, li_512, li_960, li_1000, li_1022, li_1023, li_100000, li_m1, li_m1000, ↓m_g0 h, ↓m_g1 h, ↓m_g2 h, ↓m_g3 h, ↓m_g4 h, ↓m_g5 h, ↓m_g6 h, ↓m_g7 h, ↓m_g8 h, ↓m_g9 h, ↓m_g10 h, ↓m_g11 h, ↓m_g12 h, ↓m_g13 h, ↓m_g14 h, ↓m_g15 h, ↓m_g16 h, ↓m_g17 h, ↓m_g18 h, ↓m_g19 h, ↓m_g20 h, ↓m_g21 h, ↓m_g22 h, ↓m_g23 h, ↓m_g24 h, ↓m_g25 h, ↓m_g26 h, ↓m_g27 h, ↓m_ld0 h, ↓m_ld1 h, ↓m_ld2 h, ↓m_ld3 h, ↓m_ld4 h, ↓m_ld5 h, ↓m_ld6 h, ↓m_ld7 h, ↓m_ld8 h, ↓m_ld9 h, ↓m_ld10 h, ↓m_ld11 h, ↓m_ld12 h, ↓m_ld13 h, ↓m_ld14 h, ↓m_ld15 h, ↓m_ld16 h, ↓m_ld17 h, ↓m_ld18 h, ↓m_ld19 h, ↓m_rcv h, ↓u_j_X9_lacksAbove_52, ↓u_j_X9_lacksAbove_53]
      · rw [if_neg (fun q => d1 q.1)]
        simp -implicitDefEqProofs (disch := omega) only [↓reduceIte, ↓e_lets, ↓e_ite, ↓e_cal, e_cal2, e_cal3, e_thr, e_nthrow, e_rtn, e_r0, e_r1, e_dv, iI_add, iI_sub, iI_mul, iI_neg, iI_div, iI_rem, iI_lt, iI_le, iI_eq, b_eq0, b_eq1, Int.reduceAdd, Int.reduceMul, Int.reduceSub, Int.reduceNeg, Int.reduceDiv, Int.reduceMod, Nat.reduceAdd, Bool.false_eq_true, eq_self, ltT, ltF, leT, leF, eqT, eqF, true_and, and_true, false_and, and_false, and_self, or_true, true_or, or_false, false_or, ne_eq, not_true_eq_false, not_false_eq_true, if_true, if_false, ite_true, ite_false, ite_not, some_none, some_some, none_some, none_none, li_0, li_1, li_2, li_3, li_4, li_5, li_6, li_7, li_8, li_9, li_10, li_11, li_12, li_13, li_14, li_15, li_16, li_17, li_18, li_19, li_20, li_21, li_22, li_23, li_24, li_25, li_26, li_27, li_28, li_29, li_30, li_31, li_32, li_63, li_64, li_99, li_100, li_128, li_240, li_256, li_512, li_960, li_1000, li_1022, li_1023, li_100000, li_m1, li_m1000, ↓m_g0 h, ↓m_g1 h, ↓m_g2 h, ↓m_g3 h, ↓m_g4 h, ↓m_g5 h, ↓m_g6 h, ↓m_g7 h, ↓m_g8 h, ↓m_g9 h, ↓m_g10 h, ↓m_g11 h, ↓m_g12 h, ↓m_g13 h, ↓m_g14 h, ↓m_g15 h, ↓m_g16 h, ↓m_g17 h, ↓m_g18 h, ↓m_g19 h, ↓m_g20 h, ↓m_g21 h, ↓m_g22 h, ↓m_g23 h, ↓m_g24 h, ↓m_g25 h, ↓m_g26 h, ↓m_g27 h, ↓m_ld0 h, ↓m_ld1 h, ↓m_ld2 h, ↓m_ld3 h, ↓m_ld4 h, ↓m_ld5 h, ↓m_ld6 h, ↓m_ld7 h, ↓m_ld8 h, ↓m_ld9 h, ↓m_ld10 h, ↓m_ld11 h, ↓m_ld12 h, ↓m_ld13 h, ↓m_ld14 h, ↓m_ld15 h, ↓m_ld16 h, ↓m_ld17 h, ↓m_ld18 h, ↓m_ld19 h, ↓m_rcv h, ↓u_j_X9_lacksAbove_52, ↓u_j_X9_lacksAbove_53]
    · show L_X9_lacksAbove_5 _ _ _ _ (f + 1) (iI (sumN (fun k => exA S c n k) (S 20 4).toNat)) (iI ((S 20 4).toNat : Int)) hs = _
      rw [h9, u_L_X9_lacksAbove_5]
      simp -implicitDefEqProofs (disch := omega) only [↓reduceIte, ↓e_lets, ↓e_ite, ↓e_cal, e_cal2, e_cal3, e_thr, e_nthrow, e_rtn, e_r0, e_r1, e_dv, iI_add, iI_sub, iI_mul, iI_neg, iI_div, iI_rem, iI_lt, iI_le, iI_eq, b_eq0, b_eq1, Int.reduceAdd, Int.reduceMul, Int.reduceSub, Int.reduceNeg, Int.reduceDiv, Int.reduceMod, Nat.reduceAdd, Bool.false_eq_true, eq_self, ltT, ltF, leT, leF, eqT, eqF, true_and, and_true, false_and, and_false, and_self, or_true, true_or, or_false, false_or, ne_eq, not_true_eq_false, not_false_eq_true, if_true, if_false, ite_true, ite_false, ite_not, some_none, some_some, none_some, none_none, li_0, li_1, li_2, li_3, li_4, li_5, li_6, li_7, li_8, li_9, li_10, li_11, li_12, li_13, li_14, li_15, li_16, li_17, li_18, li_19, li_20, li_21, li_22, li_23, li_24, li_25, li_26, li_27, li_28, li_29, li_30, li_31, li_32, li_63, li_64, li_99, li_100, li_128, li_240, li_256, li_512, li_960, li_1000, li_1022, li_1023, li_100000, li_m1, li_m1000, ↓m_g0 h, ↓m_g1 h, ↓m_g2 h, ↓m_g3 h, ↓m_g4 h, ↓m_g5 h, ↓m_g6 h, ↓m_g7 h, ↓m_g8 h, ↓m_g9 h, ↓m_g10 h, ↓m_g11 h, ↓m_g12 h, ↓m_g13 h, ↓m_g14 h, ↓m_g15 h, ↓m_g16 h, ↓m_g17 h, ↓m_g18 h, ↓m_g19 h, ↓m_g20 h, ↓m_g21 h, ↓m_g22 h, ↓m_g23 h, ↓m_g24 h, ↓m_g25 h, ↓m_g26 h, ↓m_g27 h, ↓m_ld0 h, ↓m_ld1 h, ↓m_ld2 h, ↓m_ld3 h, ↓m_ld4 h, ↓m_ld5 h, ↓m_ld6 h, ↓m_ld7 h, ↓m_ld8 h, ↓m_ld9 h, ↓m_ld10 h, ↓m_ld11 h, ↓m_ld12 h, ↓m_ld13 h, ↓m_ld14 h, ↓m_ld15 h, ↓m_ld16 h, ↓m_ld17 h, ↓m_ld18 h, ↓m_ld19 h, ↓m_rcv h]
  have hL2 : ∀ (Kc : Int32 → OO Int32) (a : Int), L_X9_lacksAbove_64 (some m0) (iI c) (iI n) Kc 100000 (iI a) (iI 0) hs = Kc (iI (a - sumN (fun r => exB S c n r) (S 20 1).toNat)) hs := fun Kc a => by
    have h0 : iI a = iI (a - sumN (fun r => exB S c n r) 0) := by show iI a = iI (a - 0); rw [Int.sub_zero]
    rw [h0]
    refine loopD (fun f (qq : Int32 × Int32) => L_X9_lacksAbove_64 (some m0) (iI c) (iI n) Kc f qq.1 qq.2 hs) (fun m => (iI (a - sumN (fun r => exB S c n r) m), iI (m : Int))) (S 20 1).toNat _ (fun k f hk => ?_) (fun f => ?_) 100000 (by omega)
    · show L_X9_lacksAbove_64 _ _ _ _ (f + 1) (iI (a - sumN (fun r => exB S c n r) k)) (iI (k : Int)) hs = L_X9_lacksAbove_64 _ _ _ _ f (iI (a - sumN (fun r => exB S c n r) (k + 1))) (iI ((k + 1) : Int)) hs
      show _ = L_X9_lacksAbove_64 _ _ _ _ f (iI (a - (sumN (fun r => exB S c n r) k + exB S c n k))) _ hs
      have hk3 := hb (k : Int)
      rw [← Int.sub_sub, u_L_X9_lacksAbove_64]
      unfold exB
      by_cases d1 : S 1 k = c
      · by_cases d2 : S 7 k = 0
        · by_cases d3 : n < S 2 k
          · rw [if_pos ⟨d2, d1, d3⟩]
            simp -implicitDefEqProofs (disch := omega) only [↓reduceIte, ↓e_lets, ↓e_ite, ↓e_cal, e_cal2, e_cal3, e_thr, e_nthrow, e_rtn, e_r0, e_r1, e_dv, iI_add, iI_sub, iI_mul, iI_neg, iI_div, iI_rem, iI_lt, iI_le, iI_eq, b_eq0, b_eq1, Int.reduceAdd, Int.reduceMul, Int.reduceSub, Int.reduceNeg, Int.reduceDiv, Int.reduceMod, Nat.reduceAdd, Bool.false_eq_true, eq_self, ltT, ltF, leT, leF, eqT, eqF, true_and, and_true, false_and, and_false, and_self, or_true, true_or, or_false, false_or, ne_eq, not_true_eq_false, not_false_eq_true, if_true, if_false, ite_true, ite_false, ite_not, some_none, some_some, none_some, none_none, li_0, li_1, li_2, li_3, li_4, li_5, li_6, li_7, li_8, li_9, li_10, li_11, li_12, li_13, li_14, li_15, li_16, li_17, li_18, li_19, li_20, li_21, li_22, li_23, li_24, li_25, li_26, li_27, li_28, li_29, li_30, li_31, li_32, li_63, li_64, li_99, li_100, li_128, li_240, li_256, li_512, li_960, li_1000, li_1022, li_1023, li_100000, li_m1, li_m1000, ↓m_g0 h, ↓m_g1 h, ↓m_g2 h, ↓m_g3 h, ↓m_g4 h, ↓m_g5 h, ↓m_g6 h, ↓m_g7 h, ↓m_g8 h, ↓m_g9 h, ↓m_g10 h, ↓m_g11 h, ↓m_g12 h, ↓m_g13 h, ↓m_g14 h, ↓m_g15 h, ↓m_g16 h, ↓m_g17 h, ↓m_g18 h, ↓m_g19 h, ↓m_g20 h, ↓m_g21 h, ↓m_g22 h, ↓m_g23 h, ↓m_g24 h, ↓m_g25 h, ↓m_g26 h, ↓m_g27 h, ↓m_ld0 h, ↓m_ld1 h, ↓m_ld2 h, ↓m_ld3 h, ↓m_ld4 h, ↓m_ld5 h, ↓m_ld6 h, ↓m_ld7 h, ↓m_ld8 h, ↓m_ld9 h, ↓m_ld10 h, ↓m_ld11 h, ↓m_ld12 h, ↓m_ld13 h, ↓m_ld14 h, ↓m_ld15 h, ↓m_ld16 h, ↓m_ld17 h, ↓m_ld18 h, ↓m_ld19 h, ↓m_rcv h, ↓u_j_X9_lacksAbove_111, ↓u_j_X9_lacksAbove_112]
          · rw [if_neg (fun q => d3 q.2.2)]
            simp -implicitDefEqProofs (disch := omega) only [↓reduceIte, ↓e_lets, ↓e_ite, ↓e_cal, e_cal2, e_cal3, e_thr, e_nthrow, e_rtn, e_r0, e_r1, e_dv, iI_add, iI_sub, iI_mul, iI_neg, iI_div, iI_rem, iI_lt, iI_le, iI_eq, b_eq0, b_eq1, Int.reduceAdd, Int.reduceMul, Int.reduceSub, Int.reduceNeg, Int.reduceDiv, Int.reduceMod, Nat.reduceAdd, Bool.false_eq_true, eq_self, ltT, ltF, leT, leF, eqT, eqF, true_and, and_true, false_and, and_false, and_self, or_true, true_or, or_false, false_or, ne_eq, not_true_eq_false, not_false_eq_true, if_true, if_false, ite_true, ite_false, ite_not, some_none, some_some, none_some, none_none, li_0, li_1, li_2, li_3, li_4, li_5, li_6, li_7, li_8, li_9, li_10, li_11, li_12, li_13, li_14, li_15, li_16, li_17, li_18, li_19, li_20, li_21, li_22, li_23, li_24, li_25, li_26, li_27, li_28, li_29, li_30, li_31, li_32, li_63, li_64, li_99, li_100, li_128, li_240, li_256, li_512, li_960, li_1000, li_1022, li_1023, li_100000, li_m1, li_m1000, ↓m_g0 h, ↓m_g1 h, ↓m_g2 h, ↓m_g3 h, ↓m_g4 h, ↓m_g5 h, ↓m_g6 h, ↓m_g7 h, ↓m_g8 h, ↓m_g9 h, ↓m_g10 h, ↓m_g11 h, ↓m_g12 h, ↓m_g13 h, ↓m_g14 h, ↓m_g15 h, ↓m_g16 h, ↓m_g17 h, ↓m_g18 h, ↓m_g19 h, ↓m_g20 h, ↓m_g21 h, ↓m_g22 h, ↓m_g23 h, ↓m_g24 h, ↓m_g25 h, ↓m_g26 h, ↓m_g27 h, ↓m_ld0 h, ↓m_ld1 h, ↓m_ld2 h, ↓m_ld3 h, ↓m_ld4 h, ↓m_ld5 h, ↓m_ld6 h, ↓m_ld7 h, ↓m_ld8 h, ↓m_ld9 h, ↓m_ld10 h, ↓m_ld11 h, ↓m_ld12 h, ↓m_ld13 h, ↓m_ld14 h, ↓m_ld15 h, ↓m_ld16 h, ↓m_ld17 h, ↓m_ld18 h, ↓m_ld19 h, ↓m_rcv h, ↓u_j_X9_lacksAbove_111, ↓u_j_X9_lacksAbove_112]
        · rw [if_neg (fun q => d2 q.1)]
          simp -implicitDefEqProofs (disch := omega) only [↓reduceIte, ↓e_lets, ↓e_ite, ↓e_cal, e_cal2, e_cal3, e_thr, e_nthrow, e_rtn, e_r0, e_r1, e_dv, iI_add, iI_sub, iI_mul, iI_neg, iI_div, iI_rem, iI_lt, iI_le, iI_eq, b_eq0, b_eq1, Int.reduceAdd, Int.reduceMul, Int.reduceSub, Int.reduceNeg, Int.reduceDiv, Int.reduceMod, Nat.reduceAdd, Bool.false_eq_true, eq_self, ltT, ltF, leT, leF, eqT, eqF, true_and, and_true, false_and, and_false, and_self, or_true, true_or, or_false, false_or, ne_eq, not_true_eq_false, not_false_eq_true, if_true, if_false, ite_true, ite_false, ite_not, some_none, some_some, none_some, none_none, li_0, li_1, li_2, li_3, li_4, li_5, li_6, li_7, li_8, li_9, li_10, li_11, li_12, li_13, li_14, li_15, li_16, li_17, li_18, li_19, li_20, li_21, li_22, li_23, li_24, li_25, li_26, li_27, li_28, li_29, li_30, li_31, li_32, li_63, li_64, li_99, li_100, li_128, li_240, li_256, li_512, li_960, li_1000, li_1022, li_1023, li_100000, li_m1, li_m1000, ↓m_g0 h, ↓m_g1 h, ↓m_g2 h, ↓m_g3 h, ↓m_g4 h, ↓m_g5 h, ↓m_g6 h, ↓m_g7 h, ↓m_g8 h, ↓m_g9 h, ↓m_g10 h, ↓m_g11 h, ↓m_g12 h, ↓m_g13 h, ↓m_g14 h, ↓m_g15 h, ↓m_g16 h, ↓m_g17 h, ↓m_g18 h, ↓m_g19 h, ↓m_g20 h, ↓m_g21 h, ↓m_g22 h, ↓m_g23 h, ↓m_g24 h, ↓m_g25 h, ↓m_g26 h, ↓m_g27 h, ↓m_ld0 h, ↓m_ld1 h, ↓m_ld2 h, ↓m_ld3 h, ↓m_ld4 h, ↓m_ld5 h, ↓m_ld6 h, ↓m_ld7 h, ↓m_ld8 h, ↓m_ld9 h, ↓m_ld10 h, ↓m_ld11 h, ↓m_ld12 h, ↓m_ld13 h, ↓m_ld14 h, ↓m_ld15 h, ↓m_ld16 h, ↓m_ld17 h, ↓m_ld18 h, ↓m_ld19 h, ↓m_rcv h, ↓u_j_X9_lacksAbove_111, ↓u_j_X9_lacksAbove_112]
      · rw [if_neg (fun q => d1 q.2.1)]
        simp -implicitDefEqProofs (disch := omega) only [↓reduceIte, ↓e_lets, ↓e_ite, ↓e_cal, e_cal2, e_cal3, e_thr, e_nthrow, e_rtn, e_r0, e_r1, e_dv, iI_add, iI_sub, iI_mul, iI_neg, iI_div, iI_rem, iI_lt, iI_le, iI_eq, b_eq0, b_eq1, Int.reduceAdd, Int.reduceMul, Int.reduceSub, Int.reduceNeg, Int.reduceDiv, Int.reduceMod, Nat.reduceAdd, Bool.false_eq_true, eq_self, ltT, ltF, leT, leF, eqT, eqF, true_and, and_true, false_and, and_false, and_self, or_true, true_or, or_false, false_or, ne_eq, not_true_eq_false, not_false_eq_true, if_true, if_false, ite_true, ite_false, ite_not, some_none, some_some, none_some, none_none, li_0, li_1, li_2, li_3, li_4, li_5, li_6, li_7, li_8, li_9, li_10, li_11, li_12, li_13, li_14, li_15, li_16, li_17, li_18, li_19, li_20, li_21, li_22, li_23, li_24, li_25, li_26, li_27, li_28, li_29, li_30, li_31, li_32, li_63, li_64, li_99, li_100, li_128, li_240, li_256, li_512, li_960, li_1000, li_1022, li_1023, li_100000, li_m1, li_m1000, ↓m_g0 h, ↓m_g1 h, ↓m_g2 h, ↓m_g3 h, ↓m_g4 h, ↓m_g5 h, ↓m_g6 h, ↓m_g7 h, ↓m_g8 h, ↓m_g9 h, ↓m_g10 h, ↓m_g11 h, ↓m_g12 h, ↓m_g13 h, ↓m_g14 h, ↓m_g15 h, ↓m_g16 h, ↓m_g17 h, ↓m_g18 h, ↓m_g19 h, ↓m_g20 h, ↓m_g21 h, ↓m_g22 h, ↓m_g23 h, ↓m_g24 h, ↓m_g25 h, ↓m_g26 h, ↓m_g27 h, ↓m_ld0 h, ↓m_ld1 h, ↓m_ld2 h, ↓m_ld3 h, ↓m_ld4 h, ↓m_ld5 h, ↓m_ld6 h, ↓m_ld7 h, ↓m_ld8 h, ↓m_ld9 h, ↓m_ld10 h, ↓m_ld11 h, ↓m_ld12 h, ↓m_ld13 h, ↓m_ld14 h, ↓m_ld15 h, ↓m_ld16 h, ↓m_ld17 h, ↓m_ld18 h, ↓m_ld19 h, ↓m_rcv h, ↓u_j_X9_lacksAbove_111, ↓u_j_X9_lacksAbove_112]
    · show L_X9_lacksAbove_64 _ _ _ _ (f + 1) (iI (a - sumN (fun r => exB S c n r) (S 20 1).toNat)) (iI ((S 20 1).toNat : Int)) hs = _
      rw [h8, u_L_X9_lacksAbove_64]
      simp -implicitDefEqProofs (disch := omega) only [↓reduceIte, ↓e_lets, ↓e_ite, ↓e_cal, e_cal2, e_cal3, e_thr, e_nthrow, e_rtn, e_r0, e_r1, e_dv, iI_add, iI_sub, iI_mul, iI_neg, iI_div, iI_rem, iI_lt, iI_le, iI_eq, b_eq0, b_eq1, Int.reduceAdd, Int.reduceMul, Int.reduceSub, Int.reduceNeg, Int.reduceDiv, Int.reduceMod, Nat.reduceAdd, Bool.false_eq_true, eq_self, ltT, ltF, leT, leF, eqT, eqF, true_and, and_true, false_and, and_false, and_self, or_true, true_or, or_false, false_or, ne_eq, not_true_eq_false, not_false_eq_true, if_true, if_false, ite_true, ite_false, ite_not, some_none, some_some, none_some, none_none, li_0, li_1, li_2, li_3, li_4, li_5, li_6, li_7, li_8, li_9, li_10, li_11, li_12, li_13, li_14, li_15, li_16, li_17, li_18, li_19, li_20, li_21, li_22, li_23, li_24, li_25, li_26, li_27, li_28, li_29, li_30, li_31, li_32, li_63, li_64, li_99, li_100, li_128, li_240, li_256, li_512, li_960, li_1000, li_1022, li_1023, li_100000, li_m1, li_m1000, ↓m_g0 h, ↓m_g1 h, ↓m_g2 h, ↓m_g3 h, ↓m_g4 h, ↓m_g5 h, ↓m_g6 h, ↓m_g7 h, ↓m_g8 h, ↓m_g9 h, ↓m_g10 h, ↓m_g11 h, ↓m_g12 h, ↓m_g13 h, ↓m_g14 h, ↓m_g15 h, ↓m_g16 h, ↓m_g17 h, ↓m_g18 h, ↓m_g19 h, ↓m_g20 h, ↓m_g21 h, ↓m_g22 h, ↓m_g23 h, ↓m_g24 h, ↓m_g25 h, ↓m_g26 h, ↓m_g27 h, ↓m_ld0 h, ↓m_ld1 h, ↓m_ld2 h, ↓m_ld3 h, ↓m_ld4 h, ↓m_ld5 h, ↓m_ld6 h, ↓m_ld7 h, ↓m_ld8 h, ↓m_ld9 h, ↓m_ld10 h, ↓m_ld11 h, ↓m_ld12 h, ↓m_ld13 h, ↓m_ld14 h, ↓m_ld15 h, ↓m_ld16 h, ↓m_ld17 h, ↓m_ld18 h, ↓m_ld19 h, ↓m_rcv h]
  rw [u_f_X9_lacksAbove]
  unfold exI
  rw [e_lets, e_lets, li_0, hL1, e_lets, hL2]
  rfl
def mxI (S : SS) (c : Int) : Nat → Int
  | 0 => 0
  | n + 1 => if mxI S c n < exI S c n then exI S c n else mxI S c n
theorem mxI_b {S : SS} (hV : VS S) (c : Int) : ∀ n, 0 ≤ mxI S c n ∧ mxI S c n ≤ 1000 := by
  intro n
  induction n with
  | zero => unfold mxI; omega
  | succ n ih =>
    have := exI_b hV c n
    unfold mxI
    split <;> omega
theorem mxI_ge (S : SS) (c : Int) : ∀ n k : Nat, k < n → exI S c k ≤ mxI S c n := by
  intro n
  induction n with
  | zero => intro k hk; exact absurd hk (by omega)
  | succ n ih =>
    intro k hk
    unfold mxI
    by_cases d : k = n
    · subst d
      split <;> omega
    · have := ih k (by omega)
      split <;> omega
theorem mxI_is (S : SS) (c : Int) : ∀ n : Nat, mxI S c n = 0 ∨ ∃ k : Nat, k < n ∧ mxI S c n = exI S c k := by
  intro n
  induction n with
  | zero => exact Or.inl rfl
  | succ n ih =>
    unfold mxI
    split
    · exact Or.inr ⟨n, by omega, rfl⟩
    · rcases ih with h | ⟨k, h1, h2⟩
      · exact Or.inl h
      · exact Or.inr ⟨k, by omega, h2⟩
theorem mxI_0 (S : SS) (c : Int) : ∀ n : Nat, 0 ≤ mxI S c n := by
  intro n
  induction n with
  | zero => exact Int.le_refl 0
  | succ n ih =>
    unfold mxI
    split <;> omega
theorem e_lackL {S : SS} {m0 : Nat} {hs : Hs} (h : MR S m0 hs) (hV : VS S) {c : Int} (c0 : 0 ≤ c) (c1 : c < 4) : L_X9_lacking_19 (some m0) (iI c) (fun v11 => rtn v11) 100000 (iI 0) (iI 0) hs = some (.ok (iI (mxI S c 100)), hs) := by
  refine loopD (fun f (t : Int32 × Int32) => L_X9_lacking_19 (some m0) (iI c) (fun v11 => rtn v11) f t.1 t.2 hs) (fun m => (iI (mxI S c m), iI (m : Int))) 100 _ (fun k f hk => ?_) (fun f => ?_) 100000 (by omega)
  · show L_X9_lacking_19 (some m0) (iI c) (fun v11 => rtn v11) (f + 1) (iI (mxI S c k)) (iI (k : Int)) hs = L_X9_lacking_19 (some m0) (iI c) (fun v11 => rtn v11) f (iI (if mxI S c k < exI S c k then exI S c k else mxI S c k)) (iI ((k : Int) + 1)) hs
    have e1 := e_lacksAbove h hV c0 c1 (n := (k : Int)) (by omega) (by omega)
    have hb1 := mxI_b hV c k
    have hb2 := exI_b hV c k
    rw [u_L_X9_lacking_19]
    by_cases d : mxI S c k < exI S c k
    · rw [if_pos d]
      simp -implicitDefEqProofs (disch := omega) only [↓reduceIte, ↓e_lets, ↓e_ite, ↓e_cal, e_cal2, e_cal3, e_thr, e_nthrow, e_rtn, e_r0, e_r1, e_dv, iI_add, iI_sub, iI_mul, iI_neg, iI_div, iI_rem, iI_lt, iI_le, iI_eq, b_eq0, b_eq1, Int.reduceAdd, Int.reduceMul, Int.reduceSub, Int.reduceNeg, Int.reduceDiv, Int.reduceMod, Nat.reduceAdd, Bool.false_eq_true, eq_self, ltT, ltF, leT, leF, eqT, eqF, true_and, and_true, false_and, and_false, and_self, or_true, true_or, or_false, false_or, ne_eq, not_true_eq_false, not_false_eq_true, if_true, if_false, ite_true, ite_false, ite_not, some_none, some_some, none_some, none_none, li_0, li_1, li_2, li_3, li_4, li_5, li_6, li_7, li_8, li_9, li_10, li_11, li_12, li_13, li_14, li_15, li_16, li_17, li_18, li_19, li_20, li_21, li_22, li_23, li_24, li_25, li_26, li_27, li_28, li_29, li_30, li_31, li_32, li_63, li_64, li_99, li_100, li_128, li_240, li_256, li_512, li_960, li_1000, li_1022, li_1023, li_100000, li_m1, li_m1000, ↓m_g0 h, ↓m_g1 h, ↓m_g2 h, ↓m_g3 h, ↓m_g4 h, ↓m_g5 h, ↓m_g6 h, ↓m_g7 h, ↓m_g8 h, ↓m_g9 h, ↓m_g10 h, ↓m_g11 h, ↓m_g12 h, ↓m_g13 h, ↓m_g14 h, ↓m_g15 h, ↓m_g16 h, ↓m_g17 h, ↓m_g18 h, ↓m_g19 h, ↓m_g20 h, ↓m_g21 h, ↓m_g22 h, ↓m_g23 h, ↓m_g24 h, ↓m_g25 h, ↓m_g26 h, ↓m_g27 h, ↓m_ld0 h, ↓m_ld1 h, ↓m_ld2 h, ↓m_ld3 h, ↓m_ld4 h, ↓m_ld5 h, ↓m_ld6 h, ↓m_ld7 h, ↓m_ld8 h, ↓m_ld9 h, ↓m_ld10 h, ↓m_ld11 h, ↓m_ld12 h, ↓m_ld13 h, ↓m_ld14 h, ↓m_ld15 h, ↓m_ld16 h, ↓m_ld17 h, ↓m_ld18 h, ↓m_ld19 h, ↓m_rcv h, e1, ↓u_j_X9_lacking_45]
    · rw [if_neg d]
      simp -implicitDefEqProofs (disch := omega) only [↓reduceIte, ↓e_lets, ↓e_ite, ↓e_cal, e_cal2, e_cal3, e_thr, e_nthrow, e_rtn, e_r0, e_r1, e_dv, iI_add, iI_sub, iI_mul, iI_neg, iI_div, iI_rem, iI_lt, iI_le, iI_eq, b_eq0, b_eq1, Int.reduceAdd, Int.reduceMul, Int.reduceSub, Int.reduceNeg, Int.reduceDiv, Int.reduceMod, Nat.reduceAdd, Bool.false_eq_true, eq_self, ltT, ltF, leT, leF, eqT, eqF, true_and, and_true, false_and, and_false, and_self, or_true, true_or, or_false, false_or, ne_eq, not_true_eq_false, not_false_eq_true, if_true, if_false, ite_true, ite_false, ite_not, some_none, some_some, none_some, none_none, li_0, li_1, li_2, li_3, li_4, li_5, li_6, li_7, li_8, li_9, li_10, li_11, li_12, li_13, li_14, li_15, li_16, li_17, li_18, li_19, li_20, li_21, li_22, li_23, li_24, li_25, li_26, li_27, li_28, li_29, li_30, li_31, li_32, li_63, li_64, li_99, li_100, li_128, li_240, li_256, li_512, li_960, li_1000, li_1022, li_1023, li_100000, li_m1, li_m1000, ↓m_g0 h, ↓m_g1 h, ↓m_g2 h, ↓m_g3 h, ↓m_g4 h, ↓m_g5 h, ↓m_g6 h, ↓m_g7 h, ↓m_g8 h, ↓m_g9 h, ↓m_g10 h, ↓m_g11 h, ↓m_g12 h, ↓m_g13 h, ↓m_g14 h, ↓m_g15 h, ↓m_g16 h, ↓m_g17 h, ↓m_g18 h, ↓m_g19 h, ↓m_g20 h, ↓m_g21 h, ↓m_g22 h, ↓m_g23 h, ↓m_g24 h, ↓m_g25 h, ↓m_g26 h, ↓m_g27 h, ↓m_ld0 h, ↓m_ld1 h, ↓m_ld2 h, ↓m_ld3 h, ↓m_ld4 h, ↓m_ld5 h, ↓m_ld6 h, ↓m_ld7 h, ↓m_ld8 h, ↓m_ld9 h, ↓m_ld10 h, ↓m_ld11 h, ↓m_ld12 h, ↓m_ld13 h, ↓m_ld14 h, ↓m_ld15 h, ↓m_ld16 h, ↓m_ld17 h, ↓m_ld18 h, ↓m_ld19 h, ↓m_rcv h, e1, ↓u_j_X9_lacking_45]
  · show L_X9_lacking_19 (some m0) (iI c) (fun v11 => rtn v11) (f + 1) (iI (mxI S c 100)) (iI ((100 : Nat) : Int)) hs = _
    rw [u_L_X9_lacking_19]
    simp -implicitDefEqProofs (disch := omega) only [↓reduceIte, ↓e_lets, ↓e_ite, ↓e_cal, e_cal2, e_cal3, e_thr, e_nthrow, e_rtn, e_r0, e_r1, e_dv, iI_add, iI_sub, iI_mul, iI_neg, iI_div, iI_rem, iI_lt, iI_le, iI_eq, b_eq0, b_eq1, Int.reduceAdd, Int.reduceMul, Int.reduceSub, Int.reduceNeg, Int.reduceDiv, Int.reduceMod, Nat.reduceAdd, Bool.false_eq_true, eq_self, ltT, ltF, leT, leF, eqT, eqF, true_and, and_true, false_and, and_false, and_self, or_true, true_or, or_false, false_or, ne_eq, not_true_eq_false, not_false_eq_true, if_true, if_false, ite_true, ite_false, ite_not, some_none, some_some, none_some, none_none, li_0, li_1, li_2, li_3, li_4, li_5, li_6, li_7, li_8, li_9, li_10, li_11, li_12, li_13, li_14, li_15, li_16, li_17, li_18, li_19, li_20, li_21, li_22, li_23, li_24, li_25, li_26, li_27, li_28, li_29, li_30, li_31, li_32, li_63, li_64, li_99, li_100, li_128, li_240, li_256, li_512, li_960, li_1000, li_1022, li_1023, li_100000, li_m1, li_m1000, ↓m_g0 h, ↓m_g1 h, ↓m_g2 h, ↓m_g3 h, ↓m_g4 h, ↓m_g5 h, ↓m_g6 h, ↓m_g7 h, ↓m_g8 h, ↓m_g9 h, ↓m_g10 h, ↓m_g11 h, ↓m_g12 h, ↓m_g13 h, ↓m_g14 h, ↓m_g15 h, ↓m_g16 h, ↓m_g17 h, ↓m_g18 h, ↓m_g19 h, ↓m_g20 h, ↓m_g21 h, ↓m_g22 h, ↓m_g23 h, ↓m_g24 h, ↓m_g25 h, ↓m_g26 h, ↓m_g27 h, ↓m_ld0 h, ↓m_ld1 h, ↓m_ld2 h, ↓m_ld3 h, ↓m_ld4 h, ↓m_ld5 h, ↓m_ld6 h, ↓m_ld7 h, ↓m_ld8 h, ↓m_ld9 h, ↓m_ld10 h, ↓m_ld11 h, ↓m_ld12 h, ↓m_ld13 h, ↓m_ld14 h, ↓m_ld15 h, ↓m_ld16 h, ↓m_ld17 h, ↓m_ld18 h, ↓m_ld19 h, ↓m_rcv h, Int.cast_ofNat_Int]
theorem x_lacking_1 {m0 : Nat} {S : SS} (hV : VS S) {a : Int} (a0 : -2147483648 ≤ a) (a1 : a < 2147483648) (h1 : a < 0 ∨ 3 < a)  : XO (f_X9_lacking m0 (iI a)) m0 S ((upS S 20 0 1)) 1 (fun _ => True) := by
  obtain ⟨hb, hm, hv⟩ := hV
  have hm2 := hm
  unfold Bm at hm2
  intro P z hz
  refine ⟨iI 0, P, z, (upS S 20 0 1), ?_, FM.rfl, Sm.rfl, rfl, trivial⟩
  rw [u_f_X9_lacking]
  simp -implicitDefEqProofs (disch := omega) only [↓reduceIte, ↓e_lets, ↓e_ite, ↓e_cal, e_cal2, e_cal3, e_thr, e_nthrow, e_rtn, e_r0, e_r1, e_dv, iI_add, iI_sub, iI_mul, iI_neg, iI_div, iI_rem, iI_lt, iI_le, iI_eq, b_eq0, b_eq1, Int.reduceAdd, Int.reduceMul, Int.reduceSub, Int.reduceNeg, Int.reduceDiv, Int.reduceMod, Nat.reduceAdd, Bool.false_eq_true, eq_self, ltT, ltF, leT, leF, eqT, eqF, true_and, and_true, false_and, and_false, and_self, or_true, true_or, or_false, false_or, ne_eq, not_true_eq_false, not_false_eq_true, if_true, if_false, ite_true, ite_false, ite_not, some_none, some_some, none_some, none_none, li_0, li_1, li_2, li_3, li_4, li_5, li_6, li_7, li_8, li_9, li_10, li_11, li_12, li_13, li_14, li_15, li_16, li_17, li_18, li_19, li_20, li_21, li_22, li_23, li_24, li_25, li_26, li_27, li_28, li_29, li_30, li_31, li_32, li_63, li_64, li_99, li_100, li_128, li_240, li_256, li_512, li_960, li_1000, li_1022, li_1023, li_100000, li_m1, li_m1000, ↓m_g0 MR_Hm, ↓m_g1 MR_Hm, ↓m_g2 MR_Hm, ↓m_g3 MR_Hm, ↓m_g4 MR_Hm, ↓m_g5 MR_Hm, ↓m_g6 MR_Hm, ↓m_g7 MR_Hm, ↓m_g8 MR_Hm, ↓m_g9 MR_Hm, ↓m_g10 MR_Hm, ↓m_g11 MR_Hm, ↓m_g12 MR_Hm, ↓m_g13 MR_Hm, ↓m_g14 MR_Hm, ↓m_g15 MR_Hm, ↓m_g16 MR_Hm, ↓m_g17 MR_Hm, ↓m_g18 MR_Hm, ↓m_g19 MR_Hm, ↓m_g20 MR_Hm, ↓m_g21 MR_Hm, ↓m_g22 MR_Hm, ↓m_g23 MR_Hm, ↓m_g24 MR_Hm, ↓m_g25 MR_Hm, ↓m_g26 MR_Hm, ↓m_g27 MR_Hm, ↓m_ld0 MR_Hm, ↓m_ld1 MR_Hm, ↓m_ld2 MR_Hm, ↓m_ld3 MR_Hm, ↓m_ld4 MR_Hm, ↓m_ld5 MR_Hm, ↓m_ld6 MR_Hm, ↓m_ld7 MR_Hm, ↓m_ld8 MR_Hm, ↓m_ld9 MR_Hm, ↓m_ld10 MR_Hm, ↓m_ld11 MR_Hm, ↓m_ld12 MR_Hm, ↓m_ld13 MR_Hm, ↓m_ld14 MR_Hm, ↓m_ld15 MR_Hm, ↓m_ld16 MR_Hm, ↓m_ld17 MR_Hm, ↓m_ld18 MR_Hm, ↓m_ld19 MR_Hm, ↓m_rcv MR_Hm, ↓m_s0, ↓m_s1, ↓m_s2, ↓m_s3, ↓m_s4, ↓m_s5, ↓m_s6, ↓m_s7, ↓m_s8, ↓m_s9, ↓m_s10, ↓m_s11, ↓m_s12, ↓m_s13, ↓m_s14, ↓m_s15, ↓m_s16, ↓m_s17, ↓m_s18, ↓m_s19, ↓m_p0, ↓m_p1, ↓m_p2, ↓m_p3, ↓m_p4, ↓m_p5, ↓m_p6, ↓m_p7, upS_s, upS_g, upS_i, e_in1, e_in0, x_ck1, x_ck0, x_plain, ↓u_f_X9_isLesson, ↓u_f_X9_isTeacher, ↓u_f_X9_isGroup, ↓u_f_X9_isRoom, ↓u_f_X9_isVersion, ↓u_f_X9_isSlot, ↓u_f_X9_wrongPlace, ↓u_f_X9_wrongFree, ↓u_j_X9_wrongFree_37, ↓u_j_X9_wrongPlace_27, e_X9_isPlaced MR_Hm, Nat.reduceEqDiff, ↓u_j_X9_lacking_45]
theorem x_lacking_0 {m0 : Nat} {S : SS} (hV : VS S) {a : Int} (a0 : -2147483648 ≤ a) (a1 : a < 2147483648) (h1 : 0 ≤ a ∧ a ≤ 3)  : XO (f_X9_lacking m0 (iI a)) m0 S ((upS S 20 0 0)) 0 (fun res => res = iI (mxI (upS S 20 0 0) a 100)) := by
  obtain ⟨hb, hm, hv⟩ := hV
  have hm2 := hm
  unfold Bm at hm2
  intro P z hz
  refine ⟨iI (mxI (upS S 20 0 0) a 100), P, z, (upS S 20 0 0), ?_, FM.rfl, Sm.rfl, rfl, rfl⟩
  have hVJ : VS (upS S 20 0 0) := VS_m Sm.u0 ⟨hb, hm, hv⟩
  have e1 := e_lackL (MR_Hm (m0 := m0) (P := P) (S := upS S 20 0 0) (z := z)) hVJ (c := a) (by omega) (by omega)
  rw [u_f_X9_lacking]
  simp -implicitDefEqProofs (disch := omega) only [↓reduceIte, ↓e_lets, ↓e_ite, ↓e_cal, e_cal2, e_cal3, e_thr, e_nthrow, e_rtn, e_r0, e_r1, e_dv, iI_add, iI_sub, iI_mul, iI_neg, iI_div, iI_rem, iI_lt, iI_le, iI_eq, b_eq0, b_eq1, Int.reduceAdd, Int.reduceMul, Int.reduceSub, Int.reduceNeg, Int.reduceDiv, Int.reduceMod, Nat.reduceAdd, Bool.false_eq_true, eq_self, ltT, ltF, leT, leF, eqT, eqF, true_and, and_true, false_and, and_false, and_self, or_true, true_or, or_false, false_or, ne_eq, not_true_eq_false, not_false_eq_true, if_true, if_false, ite_true, ite_false, ite_not, some_none, some_some, none_some, none_none, li_0, li_1, li_2, li_3, li_4, li_5, li_6, li_7, li_8, li_9, li_10, li_11, li_12, li_13, li_14, li_15, li_16, li_17, li_18, li_19, li_20, li_21, li_22, li_23, li_24, li_25, li_26, li_27, li_28, li_29, li_30, li_31, li_32, li_63, li_64, li_99, li_100, li_128, li_240, li_256, li_512, li_960, li_1000, li_1022, li_1023, li_100000, li_m1, li_m1000, ↓m_g0 MR_Hm, ↓m_g1 MR_Hm, ↓m_g2 MR_Hm, ↓m_g3 MR_Hm, ↓m_g4 MR_Hm, ↓m_g5 MR_Hm, ↓m_g6 MR_Hm, ↓m_g7 MR_Hm, ↓m_g8 MR_Hm, ↓m_g9 MR_Hm, ↓m_g10 MR_Hm, ↓m_g11 MR_Hm, ↓m_g12 MR_Hm, ↓m_g13 MR_Hm, ↓m_g14 MR_Hm, ↓m_g15 MR_Hm, ↓m_g16 MR_Hm, ↓m_g17 MR_Hm, ↓m_g18 MR_Hm, ↓m_g19 MR_Hm, ↓m_g20 MR_Hm, ↓m_g21 MR_Hm, ↓m_g22 MR_Hm, ↓m_g23 MR_Hm, ↓m_g24 MR_Hm, ↓m_g25 MR_Hm, ↓m_g26 MR_Hm, ↓m_g27 MR_Hm, ↓m_ld0 MR_Hm, ↓m_ld1 MR_Hm, ↓m_ld2 MR_Hm, ↓m_ld3 MR_Hm, ↓m_ld4 MR_Hm, ↓m_ld5 MR_Hm, ↓m_ld6 MR_Hm, ↓m_ld7 MR_Hm, ↓m_ld8 MR_Hm, ↓m_ld9 MR_Hm, ↓m_ld10 MR_Hm, ↓m_ld11 MR_Hm, ↓m_ld12 MR_Hm, ↓m_ld13 MR_Hm, ↓m_ld14 MR_Hm, ↓m_ld15 MR_Hm, ↓m_ld16 MR_Hm, ↓m_ld17 MR_Hm, ↓m_ld18 MR_Hm, ↓m_ld19 MR_Hm, ↓m_rcv MR_Hm, ↓m_s0, ↓m_s1, ↓m_s2, ↓m_s3, ↓m_s4, ↓m_s5, ↓m_s6, ↓m_s7, ↓m_s8, ↓m_s9, ↓m_s10, ↓m_s11, ↓m_s12, ↓m_s13, ↓m_s14, ↓m_s15, ↓m_s16, ↓m_s17, ↓m_s18, ↓m_s19, ↓m_p0, ↓m_p1, ↓m_p2, ↓m_p3, ↓m_p4, ↓m_p5, ↓m_p6, ↓m_p7, upS_s, upS_g, upS_i, e_in1, e_in0, x_ck1, x_ck0, x_plain, ↓u_f_X9_isLesson, ↓u_f_X9_isTeacher, ↓u_f_X9_isGroup, ↓u_f_X9_isRoom, ↓u_f_X9_isVersion, ↓u_f_X9_isSlot, ↓u_f_X9_wrongPlace, ↓u_f_X9_wrongFree, ↓u_j_X9_wrongFree_37, ↓u_j_X9_wrongPlace_27, e_X9_isPlaced MR_Hm, Nat.reduceEqDiff, ↓u_j_X9_lacking_45, ↓e1]
theorem x_lackingBySeats_1 {m0 : Nat} {S : SS} (hV : VS S) {a : Int} (a0 : -2147483648 ≤ a) (a1 : a < 2147483648) (h1 : a < 0 ∨ 3 < a)  : XO (f_X9_lackingBySeats m0 (iI a)) m0 S ((upS S 20 0 1)) 1 (fun _ => True) := by
  obtain ⟨hb, hm, hv⟩ := hV
  have hm2 := hm
  unfold Bm at hm2
  intro P z hz
  refine ⟨iI 0, P, z, (upS S 20 0 1), ?_, FM.rfl, Sm.rfl, rfl, trivial⟩
  rw [u_f_X9_lackingBySeats]
  simp -implicitDefEqProofs (disch := omega) only [↓reduceIte, ↓e_lets, ↓e_ite, ↓e_cal, e_cal2, e_cal3, e_thr, e_nthrow, e_rtn, e_r0, e_r1, e_dv, iI_add, iI_sub, iI_mul, iI_neg, iI_div, iI_rem, iI_lt, iI_le, iI_eq, b_eq0, b_eq1, Int.reduceAdd, Int.reduceMul, Int.reduceSub, Int.reduceNeg, Int.reduceDiv, Int.reduceMod, Nat.reduceAdd, Bool.false_eq_true, eq_self, ltT, ltF, leT, leF, eqT, eqF, true_and, and_true, false_and, and_false, and_self, or_true, true_or, or_false, false_or, ne_eq, not_true_eq_false, not_false_eq_true, if_true, if_false, ite_true, ite_false, ite_not, some_none, some_some, none_some, none_none, li_0, li_1, li_2, li_3, li_4, li_5, li_6, li_7, li_8, li_9, li_10, li_11, li_12, li_13, li_14, li_15, li_16, li_17, li_18, li_19, li_20, li_21, li_22, li_23, li_24, li_25, li_26, li_27, li_28, li_29, li_30, li_31, li_32, li_63, li_64, li_99, li_100, li_128, li_240, li_256, li_512, li_960, li_1000, li_1022, li_1023, li_100000, li_m1, li_m1000, ↓m_g0 MR_Hm, ↓m_g1 MR_Hm, ↓m_g2 MR_Hm, ↓m_g3 MR_Hm, ↓m_g4 MR_Hm, ↓m_g5 MR_Hm, ↓m_g6 MR_Hm, ↓m_g7 MR_Hm, ↓m_g8 MR_Hm, ↓m_g9 MR_Hm, ↓m_g10 MR_Hm, ↓m_g11 MR_Hm, ↓m_g12 MR_Hm, ↓m_g13 MR_Hm, ↓m_g14 MR_Hm, ↓m_g15 MR_Hm, ↓m_g16 MR_Hm, ↓m_g17 MR_Hm, ↓m_g18 MR_Hm, ↓m_g19 MR_Hm, ↓m_g20 MR_Hm, ↓m_g21 MR_Hm, ↓m_g22 MR_Hm, ↓m_g23 MR_Hm, ↓m_g24 MR_Hm, ↓m_g25 MR_Hm, ↓m_g26 MR_Hm, ↓m_g27 MR_Hm, ↓m_ld0 MR_Hm, ↓m_ld1 MR_Hm, ↓m_ld2 MR_Hm, ↓m_ld3 MR_Hm, ↓m_ld4 MR_Hm, ↓m_ld5 MR_Hm, ↓m_ld6 MR_Hm, ↓m_ld7 MR_Hm, ↓m_ld8 MR_Hm, ↓m_ld9 MR_Hm, ↓m_ld10 MR_Hm, ↓m_ld11 MR_Hm, ↓m_ld12 MR_Hm, ↓m_ld13 MR_Hm, ↓m_ld14 MR_Hm, ↓m_ld15 MR_Hm, ↓m_ld16 MR_Hm, ↓m_ld17 MR_Hm, ↓m_ld18 MR_Hm, ↓m_ld19 MR_Hm, ↓m_rcv MR_Hm, ↓m_s0, ↓m_s1, ↓m_s2, ↓m_s3, ↓m_s4, ↓m_s5, ↓m_s6, ↓m_s7, ↓m_s8, ↓m_s9, ↓m_s10, ↓m_s11, ↓m_s12, ↓m_s13, ↓m_s14, ↓m_s15, ↓m_s16, ↓m_s17, ↓m_s18, ↓m_s19, ↓m_p0, ↓m_p1, ↓m_p2, ↓m_p3, ↓m_p4, ↓m_p5, ↓m_p6, ↓m_p7, upS_s, upS_g, upS_i, e_in1, e_in0, x_ck1, x_ck0, x_plain, ↓u_f_X9_isLesson, ↓u_f_X9_isTeacher, ↓u_f_X9_isGroup, ↓u_f_X9_isRoom, ↓u_f_X9_isVersion, ↓u_f_X9_isSlot, ↓u_f_X9_wrongPlace, ↓u_f_X9_wrongFree, ↓u_j_X9_wrongFree_37, ↓u_j_X9_wrongPlace_27, e_X9_isPlaced MR_Hm, Nat.reduceEqDiff, ↓u_f_X9_lacking]
theorem x_lackingBySeats_0 {m0 : Nat} {S : SS} (hV : VS S) {a : Int} (a0 : -2147483648 ≤ a) (a1 : a < 2147483648) (h1 : 0 ≤ a ∧ a ≤ 3)  : XO (f_X9_lackingBySeats m0 (iI a)) m0 S ((upS S 20 0 0)) 0 (fun res => res = iI (mxI (upS S 20 0 0) a 100)) := by
  obtain ⟨hb, hm, hv⟩ := hV
  have hm2 := hm
  unfold Bm at hm2
  intro P z hz
  refine ⟨iI (mxI (upS S 20 0 0) a 100), P, z, (upS S 20 0 0), ?_, FM.rfl, Sm.rfl, rfl, rfl⟩
  have hVJ : VS (upS S 20 0 0) := VS_m Sm.u0 ⟨hb, hm, hv⟩
  have e1 := e_lackL (MR_Hm (m0 := m0) (P := P) (S := upS S 20 0 0) (z := z)) hVJ (c := a) (by omega) (by omega)
  rw [u_f_X9_lackingBySeats]
  simp -implicitDefEqProofs (disch := omega) only [↓reduceIte, ↓e_lets, ↓e_ite, ↓e_cal, e_cal2, e_cal3, e_thr, e_nthrow, e_rtn, e_r0, e_r1, e_dv, iI_add, iI_sub, iI_mul, iI_neg, iI_div, iI_rem, iI_lt, iI_le, iI_eq, b_eq0, b_eq1, Int.reduceAdd, Int.reduceMul, Int.reduceSub, Int.reduceNeg, Int.reduceDiv, Int.reduceMod, Nat.reduceAdd, Bool.false_eq_true, eq_self, ltT, ltF, leT, leF, eqT, eqF, true_and, and_true, false_and, and_false, and_self, or_true, true_or, or_false, false_or, ne_eq, not_true_eq_false, not_false_eq_true, if_true, if_false, ite_true, ite_false, ite_not, some_none, some_some, none_some, none_none, li_0, li_1, li_2, li_3, li_4, li_5, li_6, li_7, li_8, li_9, li_10, li_11, li_12, li_13, li_14, li_15, li_16, li_17, li_18, li_19, li_20, li_21, li_22, li_23, li_24, li_25, li_26, li_27, li_28, li_29, li_30, li_31, li_32, li_63, li_64, li_99, li_100, li_128, li_240, li_256, li_512, li_960, li_1000, li_1022, li_1023, li_100000, li_m1, li_m1000, ↓m_g0 MR_Hm, ↓m_g1 MR_Hm, ↓m_g2 MR_Hm, ↓m_g3 MR_Hm, ↓m_g4 MR_Hm, ↓m_g5 MR_Hm, ↓m_g6 MR_Hm, ↓m_g7 MR_Hm, ↓m_g8 MR_Hm, ↓m_g9 MR_Hm, ↓m_g10 MR_Hm, ↓m_g11 MR_Hm, ↓m_g12 MR_Hm, ↓m_g13 MR_Hm, ↓m_g14 MR_Hm, ↓m_g15 MR_Hm, ↓m_g16 MR_Hm, ↓m_g17 MR_Hm, ↓m_g18 MR_Hm, ↓m_g19 MR_Hm, ↓m_g20 MR_Hm, ↓m_g21 MR_Hm, ↓m_g22 MR_Hm, ↓m_g23 MR_Hm, ↓m_g24 MR_Hm, ↓m_g25 MR_Hm, ↓m_g26 MR_Hm, ↓m_g27 MR_Hm, ↓m_ld0 MR_Hm, ↓m_ld1 MR_Hm, ↓m_ld2 MR_Hm, ↓m_ld3 MR_Hm, ↓m_ld4 MR_Hm, ↓m_ld5 MR_Hm, ↓m_ld6 MR_Hm, ↓m_ld7 MR_Hm, ↓m_ld8 MR_Hm, ↓m_ld9 MR_Hm, ↓m_ld10 MR_Hm, ↓m_ld11 MR_Hm, ↓m_ld12 MR_Hm, ↓m_ld13 MR_Hm, ↓m_ld14 MR_Hm, ↓m_ld15 MR_Hm, ↓m_ld16 MR_Hm, ↓m_ld17 MR_Hm, ↓m_ld18 MR_Hm, ↓m_ld19 MR_Hm, ↓m_rcv MR_Hm, ↓m_s0, ↓m_s1, ↓m_s2, ↓m_s3, ↓m_s4, ↓m_s5, ↓m_s6, ↓m_s7, ↓m_s8, ↓m_s9, ↓m_s10, ↓m_s11, ↓m_s12, ↓m_s13, ↓m_s14, ↓m_s15, ↓m_s16, ↓m_s17, ↓m_s18, ↓m_s19, ↓m_p0, ↓m_p1, ↓m_p2, ↓m_p3, ↓m_p4, ↓m_p5, ↓m_p6, ↓m_p7, upS_s, upS_g, upS_i, e_in1, e_in0, x_ck1, x_ck0, x_plain, ↓u_f_X9_isLesson, ↓u_f_X9_isTeacher, ↓u_f_X9_isGroup, ↓u_f_X9_isRoom, ↓u_f_X9_isVersion, ↓u_f_X9_isSlot, ↓u_f_X9_wrongPlace, ↓u_f_X9_wrongFree, ↓u_j_X9_wrongFree_37, ↓u_j_X9_wrongPlace_27, e_X9_isPlaced MR_Hm, Nat.reduceEqDiff, ↓e1, ↓u_f_X9_lacking]
