/-! PURE LAYER: the reference: places, the cheapest, the hardest, rows of booleans -/
theorem up2 {S : SS} {f : Nat} {i x y : Int} : upS (upS S f i x) f i y = upS S f i y := by
  funext g j
  unfold upS
  split <;> rfl
theorem upN {S : SS} {f : Nat} {i : Int} : upS S f i (S f i) = S := by
  funext g j
  unfold upS
  split
  · rename_i h
    rw [h.1, h.2]
  · rfl
def bR (q : Nat → Bool) : Nat → Int32 := fun i => iI (if q i = true then 1 else 0)
def bC (q : Nat → Bool) : Ce := aI 1 16 (bR q)
theorem b_ld {R : Type} {a : Nat} {q : Nat → Bool} {hs : Hs} (hq : hs.1 a = some (bC q)) {i : Int} (h0 : 0 ≤ i) (h1 : i < 16) {K : Int32 → OO R} : ldI 1 (some a) (iI i) K hs = K (iI (if q i.toNat = true then 1 else 0)) hs := by
  rw [x_ld (n := 16) (f := bR q) hq (iI_in h0 h1 (by omega)), iI_clamp h0 (by omega)]
  rfl
theorem b_st {R : Type} {a : Nat} {q : Nat → Bool} {hs : Hs} (hq : hs.1 a = some (bC q)) {i : Int} (h0 : 0 ≤ i) (h1 : i < 16) {x : Int} (hx : x = 0 ∨ x = 1) {K : OO R} : stZ (some a) (iI i) (iI x) K hs = K (hset hs.1 a (bC (fun k => if k = i.toNat then decide (x = 1) else q k)), hs.2) := by
  have h3 := iI_in h0 (n := 16) h1 (by omega)
  have h4 : iI x = 0 ∨ iI x = 1 := by
    rcases hx with rfl | rfl
    · exact Or.inl (by decide)
    · exact Or.inr (by decide)
  have h5 : hs.1 a = some (aI 1 16 (bR q)) := hq
  simp only [stZ, h5, h3, h4, true_and, not_false_eq_true, if_true]
  rw [iI_clamp h0 (by omega)]
  have e : upd (bR q) i.toNat (iI x) = bR (fun k => if k = i.toNat then decide (x = 1) else q k) := by
    funext k
    show (if k = i.toNat then iI x else iI (if q k = true then 1 else 0)) = iI (if (if k = i.toNat then decide (x = 1) else q k) = true then 1 else 0)
    by_cases c : k = i.toNat
    · rw [if_pos c, if_pos c]
      rcases hx with rfl | rfl <;> rfl
    · rw [if_neg c, if_neg c]
  rw [e]
  rfl
theorem MR_hset {S : SS} {m0 a : Nat} {e : Ce} {hs : Hs} (h : MR S m0 hs) (ha : a < m0 ∨ m0 + 20 < a) : MR S m0 (hset hs.1 a e, hs.2) := by
  refine ⟨?_, fun k hk => ?_⟩
  · show hset hs.1 a e m0 = _
    rw [hset_n (by omega)]
    exact h.1
  · show hset hs.1 a e (mA m0 k) = _
    rw [hset_n (by unfold mA; omega)]
    exact h.2 k hk
theorem Hm_hset {S : SS} {m0 a : Nat} {P : Hp} {e : Ce} (ha : a < m0 ∨ m0 + 20 < a) : hset (Hm m0 P S) a e = Hm m0 (hset P a e) S := by
  funext q
  by_cases c : q = a
  · subst c
    rw [hset_s]
    unfold Hm
    rw [if_neg (by omega), if_neg (by omega), hset_s]
  · rw [hset_n c]
    unfold Hm
    rw [hset_n c]
theorem Hm_out {S : SS} {m0 a : Nat} {P : Hp} (ha : a < m0 ∨ m0 + 20 < a) : Hm m0 P S a = P a := by
  unfold Hm
  rw [if_neg (by omega), if_neg (by omega)]
theorem e_poss {S : SS} {m0 : Nat} {hs : Hs} (h : MR S m0 hs) (hV : VS S) {l : Int} (l0 : 0 ≤ l) (l1 : l < S 20 4) {x : Int} (x0 : 0 ≤ x) (x1 : x < 240) : f_X9_isPossible m0 (iI l) (iI x) hs = some (.ok (iI (if poP S l x = true then 1 else 0)), hs) := by
  have hm2 := hV.2.1
  unfold Bm at hm2
  rw [e_X9_isPossible h hV.1 l0 (by omega) x0 x1 hV.2.1]
  exact fin_ok (ite_cg (poP_i hV l0 l1 x0 x1).symm)
theorem e_many {S : SS} {m0 : Nat} {hs : Hs} (h : MR S m0 hs) (hV : VS S) {l : Int} (l0 : 0 ≤ l) (l1 : l < S 20 4)  : f_X9_manyPossible m0 (iI l) hs = some (.ok (iI (cpS S l)), hs) := by
  have hm2 := hV.2.1
  unfold Bm at hm2
  rw [e_X9_manyPossible h hV.1 l0 (by omega) hV.2.1, mP_cp hV l0 l1]
theorem e_costAt {m0 : Nat} {P : Hp} {S : SS} {z : Nat × Nat} {l x : Int} (hm : Bm S) (l0 : 0 ≤ l) (l1 : l < S 20 4) (hV : VS (upS S 14 l x)) : f_X9_costAt m0 (iI l) (iI x) (Hm m0 P S, z) = some (.ok (iI (cst0 (upS S 14 l x))), (Hm m0 P S, z)) := by
  have hm2 := hm
  unfold Bm at hm2
  have e1 := e_X9_costNow (MR_Hm (m0 := m0) (P := P) (S := upS S 14 l x) (z := z)) hV
  unfold f_X9_costAt
  simp -implicitDefEqProofs (disch := omega) only [↓reduceIte, ↓e_lets, ↓e_ite, ↓e_cal, e_cal2, e_cal3, e_thr, e_nthrow, e_rtn, e_r0, e_r1, e_dv, iI_add, iI_sub, iI_mul, iI_neg, iI_div, iI_rem, iI_lt, iI_le, iI_eq, b_eq0, b_eq1, Int.reduceAdd, Int.reduceMul, Int.reduceSub, Int.reduceNeg, Int.reduceDiv, Int.reduceMod, Nat.reduceAdd, Bool.false_eq_true, eq_self, ltT, ltF, leT, leF, eqT, eqF, true_and, and_true, false_and, and_false, and_self, or_true, true_or, or_false, false_or, ne_eq, not_true_eq_false, not_false_eq_true, if_true, if_false, ite_true, ite_false, ite_not, some_none, some_some, none_some, none_none, li_0, li_1, li_2, li_3, li_4, li_5, li_6, li_7, li_8, li_9, li_10, li_11, li_12, li_13, li_14, li_15, li_16, li_17, li_18, li_19, li_20, li_21, li_22, li_23, li_24, li_25, li_26, li_27, li_28, li_29, li_30, li_31, li_32, li_63, li_64, li_99, li_100, li_128, li_240, li_256, li_512, li_960, li_1000, li_1022, li_1023, li_100000, li_m1, li_m1000, ↓m_g0 MR_Hm, ↓m_g1 MR_Hm, ↓m_g2 MR_Hm, ↓m_g3 MR_Hm, ↓m_g4 MR_Hm, ↓m_g5 MR_Hm, ↓m_g6 MR_Hm, ↓m_g7 MR_Hm, ↓m_g8 MR_Hm, ↓m_g9 MR_Hm, ↓m_g10 MR_Hm, ↓m_g11 MR_Hm, ↓m_g12 MR_Hm, ↓m_g13 MR_Hm, ↓m_g14 MR_Hm, ↓m_g15 MR_Hm, ↓m_g16 MR_Hm, ↓m_g17 MR_Hm, ↓m_g18 MR_Hm, ↓m_g19 MR_Hm, ↓m_g20 MR_Hm, ↓m_g21 MR_Hm, ↓m_g22 MR_Hm, ↓m_g23 MR_Hm, ↓m_g24 MR_Hm, ↓m_g25 MR_Hm, ↓m_g26 MR_Hm, ↓m_g27 MR_Hm, ↓m_ld0 MR_Hm, ↓m_ld1 MR_Hm, ↓m_ld2 MR_Hm, ↓m_ld3 MR_Hm, ↓m_ld4 MR_Hm, ↓m_ld5 MR_Hm, ↓m_ld6 MR_Hm, ↓m_ld7 MR_Hm, ↓m_ld8 MR_Hm, ↓m_ld9 MR_Hm, ↓m_ld10 MR_Hm, ↓m_ld11 MR_Hm, ↓m_ld12 MR_Hm, ↓m_ld13 MR_Hm, ↓m_ld14 MR_Hm, ↓m_ld15 MR_Hm, ↓m_ld16 MR_Hm, ↓m_ld17 MR_Hm, ↓m_ld18 MR_Hm, ↓m_ld19 MR_Hm, ↓m_rcv MR_Hm, ↓m_s0, ↓m_s1, ↓m_s2, ↓m_s3, ↓m_s4, ↓m_s5, ↓m_s6, ↓m_s7, ↓m_s8, ↓m_s9, ↓m_s10, ↓m_s11, ↓m_s12, ↓m_s13, ↓m_s14, ↓m_s15, ↓m_s16, ↓m_s17, ↓m_s18, ↓m_s19, ↓m_p0, ↓m_p1, ↓m_p2, ↓m_p3, ↓m_p4, ↓m_p5, ↓m_p6, ↓m_p7, e1]
  rw [up2, upN]
theorem e_X9_hardestOf {S : SS} {m0 : Nat} {hs : Hs} (h : MR S m0 hs) (hV : VS S) {a : Nat} {q : Nat → Bool} (hq : hs.1 a = some (bC q))  : f_X9_hardestOf m0 (some a) hs = some (.ok (iI (haQ S q)), hs) := by
  obtain ⟨hb, hm, hv⟩ := hV
  have hm2 := hm
  unfold Bm at hm2
  have h9 : (((S 20 4).toNat : Nat) : Int) = S 20 4 := by omega
  rw [u_f_X9_hardestOf, e_lets, e_lets, e_lets, li_0, li_m1]
  have hL : L_X9_hardestOf_7 (some m0) (some a) (fun v12 => rtn v12) 100000 (iI (amin q (fun k => cpS S k) 0)) (iI (if amin q (fun k => cpS S k) 0 < 0 then 0 else cpS S (amin q (fun k => cpS S k) 0))) (iI ((0 : Nat) : Int)) hs = rtn (iI (haQ S q)) hs := by
    refine loopD (fun f (qq : Int32 × Int32 × Int32) => L_X9_hardestOf_7 (some m0) (some a) (fun v12 => rtn v12) f qq.1 qq.2.1 qq.2.2 hs) (fun m => (iI (amin q (fun k => cpS S k) m), iI (if amin q (fun k => cpS S k) m < 0 then 0 else cpS S (amin q (fun k => cpS S k) m)), iI (m : Int))) (S 20 4).toNat _ (fun k f hk => ?_) (fun f => ?_) 100000 (by omega)
    · show L_X9_hardestOf_7 _ _ _ (f + 1) (iI (amin q (fun k => cpS S k) k)) (iI (if amin q (fun k => cpS S k) k < 0 then 0 else cpS S (amin q (fun k => cpS S k) k))) (iI (k : Int)) hs = L_X9_hardestOf_7 _ _ _ f (iI (amin q (fun k => cpS S k) (k + 1))) (iI (if amin q (fun k => cpS S k) (k + 1) < 0 then 0 else cpS S (amin q (fun k => cpS S k) (k + 1)))) (iI ((k + 1) : Int)) hs
      have k1 : (k : Int) < S 20 4 := by omega
      have e1 := e_many h ⟨hb, hm, hv⟩ (l := (k : Int)) (by omega) k1
      have e2 := fun K : Int32 → OO Int32 => b_ld hq (i := (k : Int)) (by omega) (by omega) (K := K)
      rw [Int.toNat_natCast] at e2
      have hab := amin_b q (fun k => cpS S k) k
      have hn : q k = false → amin q (fun k => cpS S k) (k + 1) = amin q (fun k => cpS S k) k := fun h => amin_no h
      have hnw : q k = true → (amin q (fun k => cpS S k) k < 0 ∨ cpS S k < cpS S ((amin q (fun k => cpS S k) k).toNat : Int)) → amin q (fun k => cpS S k) (k + 1) = k := fun h h2 => amin_new h h2
      have ho : 0 ≤ amin q (fun k => cpS S k) k → cpS S ((amin q (fun k => cpS S k) k).toNat : Int) ≤ cpS S k → amin q (fun k => cpS S k) (k + 1) = amin q (fun k => cpS S k) k := fun h h2 => amin_old h h2
      have hck := cpS_b S k
      have hca := cpS_b S (amin q (fun k => cpS S k) k)
      generalize amin q (fun k => cpS S k) (k + 1) = a1 at *
      generalize amin q (fun k => cpS S k) k = b at *
      rw [u_L_X9_hardestOf_7]
      cases d : q k
      · rw [d] at e2
        rw [hn d]
        simp -implicitDefEqProofs (disch := omega) only [↓reduceIte, ↓e_lets, ↓e_ite, ↓e_cal, e_cal2, e_cal3, e_thr, e_nthrow, e_rtn, e_r0, e_r1, e_dv, iI_add, iI_sub, iI_mul, iI_neg, iI_div, iI_rem, iI_lt, iI_le, iI_eq, b_eq0, b_eq1, Int.reduceAdd, Int.reduceMul, Int.reduceSub, Int.reduceNeg, Int.reduceDiv, Int.reduceMod, Nat.reduceAdd, Bool.false_eq_true, eq_self, ltT, ltF, leT, leF, eqT, eqF, true_and, and_true, false_and, and_false, and_self, or_true, true_or, or_false, false_or, ne_eq, not_true_eq_false, not_false_eq_true, if_true, if_false, ite_true, ite_false, ite_not, some_none, some_some, none_some, none_none, li_0, li_1, li_2, li_3, li_4, li_5, li_6, li_7, li_8, li_9, li_10, li_11, li_12, li_13, li_14, li_15, li_16, li_17, li_18, li_19, li_20, li_21, li_22, li_23, li_24, li_25, li_26, li_27, li_28, li_29, li_30, li_31, li_32, li_63, li_64, li_99, li_100, li_128, li_240, li_256, li_512, li_960, li_1000, li_1022, li_1023, li_100000, li_m1, li_m1000, ↓m_g0 h, ↓m_g1 h, ↓m_g2 h, ↓m_g3 h, ↓m_g4 h, ↓m_g5 h, ↓m_g6 h, ↓m_g7 h, ↓m_g8 h, ↓m_g9 h, ↓m_g10 h, ↓m_g11 h, ↓m_g12 h, ↓m_g13 h, ↓m_g14 h, ↓m_g15 h, ↓m_g16 h, ↓m_g17 h, ↓m_g18 h, ↓m_g19 h, ↓m_g20 h, ↓m_g21 h, ↓m_g22 h, ↓m_g23 h, ↓m_g24 h, ↓m_g25 h, ↓m_g26 h, ↓m_g27 h, ↓m_ld0 h, ↓m_ld1 h, ↓m_ld2 h, ↓m_ld3 h, ↓m_ld4 h, ↓m_ld5 h, ↓m_ld6 h, ↓m_ld7 h, ↓m_ld8 h, ↓m_ld9 h, ↓m_ld10 h, ↓m_ld11 h, ↓m_ld12 h, ↓m_ld13 h, ↓m_ld14 h, ↓m_ld15 h, ↓m_ld16 h, ↓m_ld17 h, ↓m_ld18 h, ↓m_ld19 h, ↓m_rcv h, e1, ↓e2, ↓u_j_X9_hardestOf_53, ↓u_j_X9_hardestOf_47]
      · rw [d] at e2
        by_cases d2 : b < 0
        · rw [hnw d (Or.inl d2)]
          simp -implicitDefEqProofs (disch := omega) only [↓reduceIte, ↓e_lets, ↓e_ite, ↓e_cal, e_cal2, e_cal3, e_thr, e_nthrow, e_rtn, e_r0, e_r1, e_dv, iI_add, iI_sub, iI_mul, iI_neg, iI_div, iI_rem, iI_lt, iI_le, iI_eq, b_eq0, b_eq1, Int.reduceAdd, Int.reduceMul, Int.reduceSub, Int.reduceNeg, Int.reduceDiv, Int.reduceMod, Nat.reduceAdd, Bool.false_eq_true, eq_self, ltT, ltF, leT, leF, eqT, eqF, true_and, and_true, false_and, and_false, and_self, or_true, true_or, or_false, false_or, ne_eq, not_true_eq_false, not_false_eq_true, if_true, if_false, ite_true, ite_false, ite_not, some_none, some_some, none_some, none_none, li_0, li_1, li_2, li_3, li_4, li_5, li_6, li_7, li_8, li_9, li_10, li_11, li_12, li_13, li_14, li_15, li_16, li_17, li_18, li_19, li_20, li_21, li_22, li_23, li_24, li_25, li_26, li_27, li_28, li_29, li_30, li_31, li_32, li_63, li_64, li_99, li_100, li_128, li_240, li_256, li_512, li_960, li_1000, li_1022, li_1023, li_100000, li_m1, li_m1000, ↓m_g0 h, ↓m_g1 h, ↓m_g2 h, ↓m_g3 h, ↓m_g4 h, ↓m_g5 h, ↓m_g6 h, ↓m_g7 h, ↓m_g8 h, ↓m_g9 h, ↓m_g10 h, ↓m_g11 h, ↓m_g12 h, ↓m_g13 h, ↓m_g14 h, ↓m_g15 h, ↓m_g16 h, ↓m_g17 h, ↓m_g18 h, ↓m_g19 h, ↓m_g20 h, ↓m_g21 h, ↓m_g22 h, ↓m_g23 h, ↓m_g24 h, ↓m_g25 h, ↓m_g26 h, ↓m_g27 h, ↓m_ld0 h, ↓m_ld1 h, ↓m_ld2 h, ↓m_ld3 h, ↓m_ld4 h, ↓m_ld5 h, ↓m_ld6 h, ↓m_ld7 h, ↓m_ld8 h, ↓m_ld9 h, ↓m_ld10 h, ↓m_ld11 h, ↓m_ld12 h, ↓m_ld13 h, ↓m_ld14 h, ↓m_ld15 h, ↓m_ld16 h, ↓m_ld17 h, ↓m_ld18 h, ↓m_ld19 h, ↓m_rcv h, e1, ↓e2, ↓u_j_X9_hardestOf_53, ↓u_j_X9_hardestOf_47]
        · have ha : ((b.toNat : Nat) : Int) = b := by omega
          rw [ha] at hnw ho
          by_cases d3 : cpS S k < cpS S b
          · rw [hnw d (Or.inr d3)]
            simp -implicitDefEqProofs (disch := omega) only [↓reduceIte, ↓e_lets, ↓e_ite, ↓e_cal, e_cal2, e_cal3, e_thr, e_nthrow, e_rtn, e_r0, e_r1, e_dv, iI_add, iI_sub, iI_mul, iI_neg, iI_div, iI_rem, iI_lt, iI_le, iI_eq, b_eq0, b_eq1, Int.reduceAdd, Int.reduceMul, Int.reduceSub, Int.reduceNeg, Int.reduceDiv, Int.reduceMod, Nat.reduceAdd, Bool.false_eq_true, eq_self, ltT, ltF, leT, leF, eqT, eqF, true_and, and_true, false_and, and_false, and_self, or_true, true_or, or_false, false_or, ne_eq, not_true_eq_false, not_false_eq_true, if_true, if_false, ite_true, ite_false, ite_not, some_none, some_some, none_some, none_none, li_0, li_1, li_2, li_3, li_4, li_5, li_6, li_7, li_8, li_9, li_10, li_11, li_12, li_13, li_14, li_15, li_16, li_17, li_18, li_19, li_20, li_21, li_22, li_23, li_24, li_25, li_26, li_27, li_28, li_29, li_30, li_31, li_32, li_63, li_64, li_99, li_100, li_128, li_240, li_256, li_512, li_960, li_1000, li_1022, li_1023, li_100000, li_m1, li_m1000, ↓m_g0 h, ↓m_g1 h, ↓m_g2 h, ↓m_g3 h, ↓m_g4 h, ↓m_g5 h, ↓m_g6 h, ↓m_g7 h, ↓m_g8 h, ↓m_g9 h, ↓m_g10 h, ↓m_g11 h, ↓m_g12 h, ↓m_g13 h, ↓m_g14 h, ↓m_g15 h, ↓m_g16 h, ↓m_g17 h, ↓m_g18 h, ↓m_g19 h, ↓m_g20 h, ↓m_g21 h, ↓m_g22 h, ↓m_g23 h, ↓m_g24 h, ↓m_g25 h, ↓m_g26 h, ↓m_g27 h, ↓m_ld0 h, ↓m_ld1 h, ↓m_ld2 h, ↓m_ld3 h, ↓m_ld4 h, ↓m_ld5 h, ↓m_ld6 h, ↓m_ld7 h, ↓m_ld8 h, ↓m_ld9 h, ↓m_ld10 h, ↓m_ld11 h, ↓m_ld12 h, ↓m_ld13 h, ↓m_ld14 h, ↓m_ld15 h, ↓m_ld16 h, ↓m_ld17 h, ↓m_ld18 h, ↓m_ld19 h, ↓m_rcv h, e1, ↓e2, ↓u_j_X9_hardestOf_53, ↓u_j_X9_hardestOf_47]
          · rw [ho (by omega) (by omega)]
            simp -implicitDefEqProofs (disch := omega) only [↓reduceIte, ↓e_lets, ↓e_ite, ↓e_cal, e_cal2, e_cal3, e_thr, e_nthrow, e_rtn, e_r0, e_r1, e_dv, iI_add, iI_sub, iI_mul, iI_neg, iI_div, iI_rem, iI_lt, iI_le, iI_eq, b_eq0, b_eq1, Int.reduceAdd, Int.reduceMul, Int.reduceSub, Int.reduceNeg, Int.reduceDiv, Int.reduceMod, Nat.reduceAdd, Bool.false_eq_true, eq_self, ltT, ltF, leT, leF, eqT, eqF, true_and, and_true, false_and, and_false, and_self, or_true, true_or, or_false, false_or, ne_eq, not_true_eq_false, not_false_eq_true, if_true, if_false, ite_true, ite_false, ite_not, some_none, some_some, none_some, none_none, li_0, li_1, li_2, li_3, li_4, li_5, li_6, li_7, li_8, li_9, li_10, li_11, li_12, li_13, li_14, li_15, li_16, li_17, li_18, li_19, li_20, li_21, li_22, li_23, li_24, li_25, li_26, li_27, li_28, li_29, li_30, li_31, li_32, li_63, li_64, li_99, li_100, li_128, li_240, li_256, li_512, li_960, li_1000, li_1022, li_1023, li_100000, li_m1, li_m1000, ↓m_g0 h, ↓m_g1 h, ↓m_g2 h, ↓m_g3 h, ↓m_g4 h, ↓m_g5 h, ↓m_g6 h, ↓m_g7 h, ↓m_g8 h, ↓m_g9 h, ↓m_g10 h, ↓m_g11 h, ↓m_g12 h, ↓m_g13 h, ↓m_g14 h, ↓m_g15 h, ↓m_g16 h, ↓m_g17 h, ↓m_g18 h, ↓m_g19 h, ↓m_g20 h, ↓m_g21 h, ↓m_g22 h, ↓m_g23 h, ↓m_g24 h, ↓m_g25 h, ↓m_g26 h, ↓m_g27 h, ↓m_ld0 h, ↓m_ld1 h, ↓m_ld2 h, ↓m_ld3 h, ↓m_ld4 h, ↓m_ld5 h, ↓m_ld6 h, ↓m_ld7 h, ↓m_ld8 h, ↓m_ld9 h, ↓m_ld10 h, ↓m_ld11 h, ↓m_ld12 h, ↓m_ld13 h, ↓m_ld14 h, ↓m_ld15 h, ↓m_ld16 h, ↓m_ld17 h, ↓m_ld18 h, ↓m_ld19 h, ↓m_rcv h, e1, ↓e2, ↓u_j_X9_hardestOf_53, ↓u_j_X9_hardestOf_47]
    · show L_X9_hardestOf_7 _ _ _ (f + 1) (iI (amin q (fun k => cpS S k) (S 20 4).toNat)) (iI (if amin q (fun k => cpS S k) (S 20 4).toNat < 0 then 0 else cpS S (amin q (fun k => cpS S k) (S 20 4).toNat))) (iI ((S 20 4).toNat : Int)) hs = _
      rw [h9, u_L_X9_hardestOf_7]
      simp -implicitDefEqProofs (disch := omega) only [↓reduceIte, ↓e_lets, ↓e_ite, ↓e_cal, e_cal2, e_cal3, e_thr, e_nthrow, e_rtn, e_r0, e_r1, e_dv, iI_add, iI_sub, iI_mul, iI_neg, iI_div, iI_rem, iI_lt, iI_le, iI_eq, b_eq0, b_eq1, Int.reduceAdd, Int.reduceMul, Int.reduceSub, Int.reduceNeg, Int.reduceDiv, Int.reduceMod, Nat.reduceAdd, Bool.false_eq_true, eq_self, ltT, ltF, leT, leF, eqT, eqF, true_and, and_true, false_and, and_false, and_self, or_true, true_or, or_false, false_or, ne_eq, not_true_eq_false, not_false_eq_true, if_true, if_false, ite_true, ite_false, ite_not, some_none, some_some, none_some, none_none, li_0, li_1, li_2, li_3, li_4, li_5, li_6, li_7, li_8, li_9, li_10, li_11, li_12, li_13, li_14, li_15, li_16, li_17, li_18, li_19, li_20, li_21, li_22, li_23, li_24, li_25, li_26, li_27, li_28, li_29, li_30, li_31, li_32, li_63, li_64, li_99, li_100, li_128, li_240, li_256, li_512, li_960, li_1000, li_1022, li_1023, li_100000, li_m1, li_m1000, ↓m_g0 h, ↓m_g1 h, ↓m_g2 h, ↓m_g3 h, ↓m_g4 h, ↓m_g5 h, ↓m_g6 h, ↓m_g7 h, ↓m_g8 h, ↓m_g9 h, ↓m_g10 h, ↓m_g11 h, ↓m_g12 h, ↓m_g13 h, ↓m_g14 h, ↓m_g15 h, ↓m_g16 h, ↓m_g17 h, ↓m_g18 h, ↓m_g19 h, ↓m_g20 h, ↓m_g21 h, ↓m_g22 h, ↓m_g23 h, ↓m_g24 h, ↓m_g25 h, ↓m_g26 h, ↓m_g27 h, ↓m_ld0 h, ↓m_ld1 h, ↓m_ld2 h, ↓m_ld3 h, ↓m_ld4 h, ↓m_ld5 h, ↓m_ld6 h, ↓m_ld7 h, ↓m_ld8 h, ↓m_ld9 h, ↓m_ld10 h, ↓m_ld11 h, ↓m_ld12 h, ↓m_ld13 h, ↓m_ld14 h, ↓m_ld15 h, ↓m_ld16 h, ↓m_ld17 h, ↓m_ld18 h, ↓m_ld19 h, ↓m_rcv h]
      rfl
  exact hL
theorem e_cheapestOf {m0 : Nat} {P : Hp} {S : SS} {z : Nat × Nat} (hV : VS S) {l : Int} (l0 : 0 ≤ l) (l1 : l < S 20 4) : f_X9_cheapestOf m0 (iI l) (Hm m0 P S, z) = some (.ok (iI (chP S l (-2))), (Hm m0 P S, z)) := by
  obtain ⟨hb, hm, hv⟩ := hV
  have hm2 := hm
  unfold Bm at hm2
  have hch := chP_all (S := S) ⟨hb, hm, hv⟩ l0 l1 (-2)
  have hok : ∀ q : Nat, (poP S l q && !decide ((q : Int) = -2)) = poP S l q := fun q => by rw [decide_eq_false (by omega)]; simp
  simp only [hok] at hch
  rw [u_f_X9_cheapestOf, e_lets, e_lets, e_lets, li_0, li_m1]
  have hVp : ∀ q : Nat, q < 240 → poP S l q = true → VS (upS S 14 l q) := fun q hq hp => by
    have h := poP_p (S := S) ⟨hb, hm, hv⟩ l0 l1 (x := (q : Int)) (by omega) (by omega) hp
    exact VS_pl ⟨hb, hm, hv⟩ (by omega) (by omega) (fun _ => ⟨h.1, h.2.1⟩)
  have hL : L_X9_cheapestOf_7 (some m0) (iI l) (fun v12 => rtn v12) 100000 (iI (amin (fun q => poP S l q) (fun q => cst0 (upS S 14 l q)) 0)) (iI (if amin (fun q => poP S l q) (fun q => cst0 (upS S 14 l q)) 0 < 0 then 0 else cst0 (upS S 14 l (amin (fun q => poP S l q) (fun q => cst0 (upS S 14 l q)) 0)))) (iI ((0 : Nat) : Int)) (Hm m0 P S, z) = rtn (iI (chP S l (-2))) (Hm m0 P S, z) := by
    refine loopD (fun f (qq : Int32 × Int32 × Int32) => L_X9_cheapestOf_7 (some m0) (iI l) (fun v12 => rtn v12) f qq.1 qq.2.1 qq.2.2 (Hm m0 P S, z)) (fun m => (iI (amin (fun q => poP S l q) (fun q => cst0 (upS S 14 l q)) m), iI (if amin (fun q => poP S l q) (fun q => cst0 (upS S 14 l q)) m < 0 then 0 else cst0 (upS S 14 l (amin (fun q => poP S l q) (fun q => cst0 (upS S 14 l q)) m))), iI (m : Int))) 240 _ (fun k f hk => ?_) (fun f => ?_) 100000 (by omega)
    · show L_X9_cheapestOf_7 _ _ _ (f + 1) (iI (amin (fun q => poP S l q) (fun q => cst0 (upS S 14 l q)) k)) (iI (if amin (fun q => poP S l q) (fun q => cst0 (upS S 14 l q)) k < 0 then 0 else cst0 (upS S 14 l (amin (fun q => poP S l q) (fun q => cst0 (upS S 14 l q)) k)))) (iI (k : Int)) (Hm m0 P S, z) = L_X9_cheapestOf_7 _ _ _ f (iI (amin (fun q => poP S l q) (fun q => cst0 (upS S 14 l q)) (k + 1))) (iI (if amin (fun q => poP S l q) (fun q => cst0 (upS S 14 l q)) (k + 1) < 0 then 0 else cst0 (upS S 14 l (amin (fun q => poP S l q) (fun q => cst0 (upS S 14 l q)) (k + 1))))) (iI ((k + 1) : Int)) (Hm m0 P S, z)
      have e1 := e_poss (MR_Hm (m0 := m0) (P := P) (S := S) (z := z)) ⟨hb, hm, hv⟩ l0 l1 (x := (k : Int)) (by omega) (by omega)
      have hab := amin_b (fun q => poP S l q) (fun q => cst0 (upS S 14 l q)) k
      have hak := amin_ok (fun q => poP S l q) (fun q => cst0 (upS S 14 l q)) k
      have hn : poP S l k = false → amin (fun q => poP S l q) (fun q => cst0 (upS S 14 l q)) (k + 1) = amin (fun q => poP S l q) (fun q => cst0 (upS S 14 l q)) k := fun h => amin_no h
      have hnw : poP S l k = true → (amin (fun q => poP S l q) (fun q => cst0 (upS S 14 l q)) k < 0 ∨ cst0 (upS S 14 l k) < cst0 (upS S 14 l ((amin (fun q => poP S l q) (fun q => cst0 (upS S 14 l q)) k).toNat : Int))) → amin (fun q => poP S l q) (fun q => cst0 (upS S 14 l q)) (k + 1) = k := fun h h2 => amin_new h h2
      have ho : 0 ≤ amin (fun q => poP S l q) (fun q => cst0 (upS S 14 l q)) k → cst0 (upS S 14 l ((amin (fun q => poP S l q) (fun q => cst0 (upS S 14 l q)) k).toNat : Int)) ≤ cst0 (upS S 14 l k) → amin (fun q => poP S l q) (fun q => cst0 (upS S 14 l q)) (k + 1) = amin (fun q => poP S l q) (fun q => cst0 (upS S 14 l q)) k := fun h h2 => amin_old h h2
      generalize amin (fun q => poP S l q) (fun q => cst0 (upS S 14 l q)) (k + 1) = a1 at *
      generalize amin (fun q => poP S l q) (fun q => cst0 (upS S 14 l q)) k = b at *
      rw [u_L_X9_cheapestOf_7]
      cases d : poP S l k
      · rw [d] at e1
        rw [hn d]
        simp -implicitDefEqProofs (disch := omega) only [↓reduceIte, ↓e_lets, ↓e_ite, ↓e_cal, e_cal2, e_cal3, e_thr, e_nthrow, e_rtn, e_r0, e_r1, e_dv, iI_add, iI_sub, iI_mul, iI_neg, iI_div, iI_rem, iI_lt, iI_le, iI_eq, b_eq0, b_eq1, Int.reduceAdd, Int.reduceMul, Int.reduceSub, Int.reduceNeg, Int.reduceDiv, Int.reduceMod, Nat.reduceAdd, Bool.false_eq_true, eq_self, ltT, ltF, leT, leF, eqT, eqF, true_and, and_true, false_and, and_false, and_self, or_true, true_or, or_false, false_or, ne_eq, not_true_eq_false, not_false_eq_true, if_true, if_false, ite_true, ite_false, ite_not, some_none, some_some, none_some, none_none, li_0, li_1, li_2, li_3, li_4, li_5, li_6, li_7, li_8, li_9, li_10, li_11, li_12, li_13, li_14, li_15, li_16, li_17, li_18, li_19, li_20, li_21, li_22, li_23, li_24, li_25, li_26, li_27, li_28, li_29, li_30, li_31, li_32, li_63, li_64, li_99, li_100, li_128, li_240, li_256, li_512, li_960, li_1000, li_1022, li_1023, li_100000, li_m1, li_m1000, ↓m_g0 MR_Hm, ↓m_g1 MR_Hm, ↓m_g2 MR_Hm, ↓m_g3 MR_Hm, ↓m_g4 MR_Hm, ↓m_g5 MR_Hm, ↓m_g6 MR_Hm, ↓m_g7 MR_Hm, ↓m_g8 MR_Hm, ↓m_g9 MR_Hm, ↓m_g10 MR_Hm, ↓m_g11 MR_Hm, ↓m_g12 MR_Hm, ↓m_g13 MR_Hm, ↓m_g14 MR_Hm, ↓m_g15 MR_Hm, ↓m_g16 MR_Hm, ↓m_g17 MR_Hm, ↓m_g18 MR_Hm, ↓m_g19 MR_Hm, ↓m_g20 MR_Hm, ↓m_g21 MR_Hm, ↓m_g22 MR_Hm, ↓m_g23 MR_Hm, ↓m_g24 MR_Hm, ↓m_g25 MR_Hm, ↓m_g26 MR_Hm, ↓m_g27 MR_Hm, ↓m_ld0 MR_Hm, ↓m_ld1 MR_Hm, ↓m_ld2 MR_Hm, ↓m_ld3 MR_Hm, ↓m_ld4 MR_Hm, ↓m_ld5 MR_Hm, ↓m_ld6 MR_Hm, ↓m_ld7 MR_Hm, ↓m_ld8 MR_Hm, ↓m_ld9 MR_Hm, ↓m_ld10 MR_Hm, ↓m_ld11 MR_Hm, ↓m_ld12 MR_Hm, ↓m_ld13 MR_Hm, ↓m_ld14 MR_Hm, ↓m_ld15 MR_Hm, ↓m_ld16 MR_Hm, ↓m_ld17 MR_Hm, ↓m_ld18 MR_Hm, ↓m_ld19 MR_Hm, ↓m_rcv MR_Hm, ↓m_s0, ↓m_s1, ↓m_s2, ↓m_s3, ↓m_s4, ↓m_s5, ↓m_s6, ↓m_s7, ↓m_s8, ↓m_s9, ↓m_s10, ↓m_s11, ↓m_s12, ↓m_s13, ↓m_s14, ↓m_s15, ↓m_s16, ↓m_s17, ↓m_s18, ↓m_s19, ↓m_p0, ↓m_p1, ↓m_p2, ↓m_p3, ↓m_p4, ↓m_p5, ↓m_p6, ↓m_p7, upS_s, upS_g, upS_i, e1, ↓u_j_X9_cheapestOf_56, ↓u_j_X9_cheapestOf_50]
      · rw [d] at e1
        have e2 := e_costAt (m0 := m0) (P := P) (z := z) hm l0 l1 (hVp k hk d)
        have hck := cst0_b (hVp k hk d)
        by_cases d2 : b < 0
        · rw [hnw d (Or.inl d2)]
          simp -implicitDefEqProofs (disch := omega) only [↓reduceIte, ↓e_lets, ↓e_ite, ↓e_cal, e_cal2, e_cal3, e_thr, e_nthrow, e_rtn, e_r0, e_r1, e_dv, iI_add, iI_sub, iI_mul, iI_neg, iI_div, iI_rem, iI_lt, iI_le, iI_eq, b_eq0, b_eq1, Int.reduceAdd, Int.reduceMul, Int.reduceSub, Int.reduceNeg, Int.reduceDiv, Int.reduceMod, Nat.reduceAdd, Bool.false_eq_true, eq_self, ltT, ltF, leT, leF, eqT, eqF, true_and, and_true, false_and, and_false, and_self, or_true, true_or, or_false, false_or, ne_eq, not_true_eq_false, not_false_eq_true, if_true, if_false, ite_true, ite_false, ite_not, some_none, some_some, none_some, none_none, li_0, li_1, li_2, li_3, li_4, li_5, li_6, li_7, li_8, li_9, li_10, li_11, li_12, li_13, li_14, li_15, li_16, li_17, li_18, li_19, li_20, li_21, li_22, li_23, li_24, li_25, li_26, li_27, li_28, li_29, li_30, li_31, li_32, li_63, li_64, li_99, li_100, li_128, li_240, li_256, li_512, li_960, li_1000, li_1022, li_1023, li_100000, li_m1, li_m1000, ↓m_g0 MR_Hm, ↓m_g1 MR_Hm, ↓m_g2 MR_Hm, ↓m_g3 MR_Hm, ↓m_g4 MR_Hm, ↓m_g5 MR_Hm, ↓m_g6 MR_Hm, ↓m_g7 MR_Hm, ↓m_g8 MR_Hm, ↓m_g9 MR_Hm, ↓m_g10 MR_Hm, ↓m_g11 MR_Hm, ↓m_g12 MR_Hm, ↓m_g13 MR_Hm, ↓m_g14 MR_Hm, ↓m_g15 MR_Hm, ↓m_g16 MR_Hm, ↓m_g17 MR_Hm, ↓m_g18 MR_Hm, ↓m_g19 MR_Hm, ↓m_g20 MR_Hm, ↓m_g21 MR_Hm, ↓m_g22 MR_Hm, ↓m_g23 MR_Hm, ↓m_g24 MR_Hm, ↓m_g25 MR_Hm, ↓m_g26 MR_Hm, ↓m_g27 MR_Hm, ↓m_ld0 MR_Hm, ↓m_ld1 MR_Hm, ↓m_ld2 MR_Hm, ↓m_ld3 MR_Hm, ↓m_ld4 MR_Hm, ↓m_ld5 MR_Hm, ↓m_ld6 MR_Hm, ↓m_ld7 MR_Hm, ↓m_ld8 MR_Hm, ↓m_ld9 MR_Hm, ↓m_ld10 MR_Hm, ↓m_ld11 MR_Hm, ↓m_ld12 MR_Hm, ↓m_ld13 MR_Hm, ↓m_ld14 MR_Hm, ↓m_ld15 MR_Hm, ↓m_ld16 MR_Hm, ↓m_ld17 MR_Hm, ↓m_ld18 MR_Hm, ↓m_ld19 MR_Hm, ↓m_rcv MR_Hm, ↓m_s0, ↓m_s1, ↓m_s2, ↓m_s3, ↓m_s4, ↓m_s5, ↓m_s6, ↓m_s7, ↓m_s8, ↓m_s9, ↓m_s10, ↓m_s11, ↓m_s12, ↓m_s13, ↓m_s14, ↓m_s15, ↓m_s16, ↓m_s17, ↓m_s18, ↓m_s19, ↓m_p0, ↓m_p1, ↓m_p2, ↓m_p3, ↓m_p4, ↓m_p5, ↓m_p6, ↓m_p7, upS_s, upS_g, upS_i, e1, e2, ↓u_j_X9_cheapestOf_56, ↓u_j_X9_cheapestOf_50]
        · have ha : ((b.toNat : Nat) : Int) = b := by omega
          have hcb := cst0_b (hVp b.toNat (by omega) (hak (by omega)))
          rw [ha] at hnw ho hcb
          by_cases d3 : cst0 (upS S 14 l k) < cst0 (upS S 14 l b)
          · rw [hnw d (Or.inr d3)]
            simp -implicitDefEqProofs (disch := omega) only [↓reduceIte, ↓e_lets, ↓e_ite, ↓e_cal, e_cal2, e_cal3, e_thr, e_nthrow, e_rtn, e_r0, e_r1, e_dv, iI_add, iI_sub, iI_mul, iI_neg, iI_div, iI_rem, iI_lt, iI_le, iI_eq, b_eq0, b_eq1, Int.reduceAdd, Int.reduceMul, Int.reduceSub, Int.reduceNeg, Int.reduceDiv, Int.reduceMod, Nat.reduceAdd, Bool.false_eq_true, eq_self, ltT, ltF, leT, leF, eqT, eqF, true_and, and_true, false_and, and_false, and_self, or_true, true_or, or_false, false_or, ne_eq, not_true_eq_false, not_false_eq_true, if_true, if_false, ite_true, ite_false, ite_not, some_none, some_some, none_some, none_none, li_0, li_1, li_2, li_3, li_4, li_5, li_6, li_7, li_8, li_9, li_10, li_11, li_12, li_13, li_14, li_15, li_16, li_17, li_18, li_19, li_20, li_21, li_22, li_23, li_24, li_25, li_26, li_27, li_28, li_29, li_30, li_31, li_32, li_63, li_64, li_99, li_100, li_128, li_240, li_256, li_512, li_960, li_1000, li_1022, li_1023, li_100000, li_m1, li_m1000, ↓m_g0 MR_Hm, ↓m_g1 MR_Hm, ↓m_g2 MR_Hm, ↓m_g3 MR_Hm, ↓m_g4 MR_Hm, ↓m_g5 MR_Hm, ↓m_g6 MR_Hm, ↓m_g7 MR_Hm, ↓m_g8 MR_Hm, ↓m_g9 MR_Hm, ↓m_g10 MR_Hm, ↓m_g11 MR_Hm, ↓m_g12 MR_Hm, ↓m_g13 MR_Hm, ↓m_g14 MR_Hm, ↓m_g15 MR_Hm, ↓m_g16 MR_Hm, ↓m_g17 MR_Hm, ↓m_g18 MR_Hm, ↓m_g19 MR_Hm, ↓m_g20 MR_Hm, ↓m_g21 MR_Hm, ↓m_g22 MR_Hm, ↓m_g23 MR_Hm, ↓m_g24 MR_Hm, ↓m_g25 MR_Hm, ↓m_g26 MR_Hm, ↓m_g27 MR_Hm, ↓m_ld0 MR_Hm, ↓m_ld1 MR_Hm, ↓m_ld2 MR_Hm, ↓m_ld3 MR_Hm, ↓m_ld4 MR_Hm, ↓m_ld5 MR_Hm, ↓m_ld6 MR_Hm, ↓m_ld7 MR_Hm, ↓m_ld8 MR_Hm, ↓m_ld9 MR_Hm, ↓m_ld10 MR_Hm, ↓m_ld11 MR_Hm, ↓m_ld12 MR_Hm, ↓m_ld13 MR_Hm, ↓m_ld14 MR_Hm, ↓m_ld15 MR_Hm, ↓m_ld16 MR_Hm, ↓m_ld17 MR_Hm, ↓m_ld18 MR_Hm, ↓m_ld19 MR_Hm, ↓m_rcv MR_Hm, ↓m_s0, ↓m_s1, ↓m_s2, ↓m_s3, ↓m_s4, ↓m_s5, ↓m_s6, ↓m_s7, ↓m_s8, ↓m_s9, ↓m_s10, ↓m_s11, ↓m_s12, ↓m_s13, ↓m_s14, ↓m_s15, ↓m_s16, ↓m_s17, ↓m_s18, ↓m_s19, ↓m_p0, ↓m_p1, ↓m_p2, ↓m_p3, ↓m_p4, ↓m_p5, ↓m_p6, ↓m_p7, upS_s, upS_g, upS_i, e1, e2, ↓u_j_X9_cheapestOf_56, ↓u_j_X9_cheapestOf_50]
          · rw [ho (by omega) (by omega)]
            simp -implicitDefEqProofs (disch := omega) only [↓reduceIte, ↓e_lets, ↓e_ite, ↓e_cal, e_cal2, e_cal3, e_thr, e_nthrow, e_rtn, e_r0, e_r1, e_dv, iI_add, iI_sub, iI_mul, iI_neg, iI_div, iI_rem, iI_lt, iI_le, iI_eq, b_eq0, b_eq1, Int.reduceAdd, Int.reduceMul, Int.reduceSub, Int.reduceNeg, Int.reduceDiv, Int.reduceMod, Nat.reduceAdd, Bool.false_eq_true, eq_self, ltT, ltF, leT, leF, eqT, eqF, true_and, and_true, false_and, and_false, and_self, or_true, true_or, or_false, false_or, ne_eq, not_true_eq_false, not_false_eq_true, if_true, if_false, ite_true, ite_false, ite_not, some_none, some_some, none_some, none_none, li_0, li_1, li_2, li_3, li_4, li_5, li_6, li_7, li_8, li_9, li_10, li_11, li_12, li_13, li_14, li_15, li_16, li_17, li_18, li_19, li_20, li_21, li_22, li_23, li_24, li_25, li_26, li_27, li_28, li_29, li_30, li_31, li_32, li_63, li_64, li_99, li_100, li_128, li_240, li_256, li_512, li_960, li_1000, li_1022, li_1023, li_100000, li_m1, li_m1000, ↓m_g0 MR_Hm, ↓m_g1 MR_Hm, ↓m_g2 MR_Hm, ↓m_g3 MR_Hm, ↓m_g4 MR_Hm, ↓m_g5 MR_Hm, ↓m_g6 MR_Hm, ↓m_g7 MR_Hm, ↓m_g8 MR_Hm, ↓m_g9 MR_Hm, ↓m_g10 MR_Hm, ↓m_g11 MR_Hm, ↓m_g12 MR_Hm, ↓m_g13 MR_Hm, ↓m_g14 MR_Hm, ↓m_g15 MR_Hm, ↓m_g16 MR_Hm, ↓m_g17 MR_Hm, ↓m_g18 MR_Hm, ↓m_g19 MR_Hm, ↓m_g20 MR_Hm, ↓m_g21 MR_Hm, ↓m_g22 MR_Hm, ↓m_g23 MR_Hm, ↓m_g24 MR_Hm, ↓m_g25 MR_Hm, ↓m_g26 MR_Hm, ↓m_g27 MR_Hm, ↓m_ld0 MR_Hm, ↓m_ld1 MR_Hm, ↓m_ld2 MR_Hm, ↓m_ld3 MR_Hm, ↓m_ld4 MR_Hm, ↓m_ld5 MR_Hm, ↓m_ld6 MR_Hm, ↓m_ld7 MR_Hm, ↓m_ld8 MR_Hm, ↓m_ld9 MR_Hm, ↓m_ld10 MR_Hm, ↓m_ld11 MR_Hm, ↓m_ld12 MR_Hm, ↓m_ld13 MR_Hm, ↓m_ld14 MR_Hm, ↓m_ld15 MR_Hm, ↓m_ld16 MR_Hm, ↓m_ld17 MR_Hm, ↓m_ld18 MR_Hm, ↓m_ld19 MR_Hm, ↓m_rcv MR_Hm, ↓m_s0, ↓m_s1, ↓m_s2, ↓m_s3, ↓m_s4, ↓m_s5, ↓m_s6, ↓m_s7, ↓m_s8, ↓m_s9, ↓m_s10, ↓m_s11, ↓m_s12, ↓m_s13, ↓m_s14, ↓m_s15, ↓m_s16, ↓m_s17, ↓m_s18, ↓m_s19, ↓m_p0, ↓m_p1, ↓m_p2, ↓m_p3, ↓m_p4, ↓m_p5, ↓m_p6, ↓m_p7, upS_s, upS_g, upS_i, e1, e2, ↓u_j_X9_cheapestOf_56, ↓u_j_X9_cheapestOf_50]
    · show L_X9_cheapestOf_7 _ _ _ (f + 1) (iI (amin (fun q => poP S l q) (fun q => cst0 (upS S 14 l q)) 240)) (iI (if amin (fun q => poP S l q) (fun q => cst0 (upS S 14 l q)) 240 < 0 then 0 else cst0 (upS S 14 l (amin (fun q => poP S l q) (fun q => cst0 (upS S 14 l q)) 240)))) (iI (240 : Int)) (Hm m0 P S, z) = _
      rw [hch, u_L_X9_cheapestOf_7]
      simp -implicitDefEqProofs (disch := omega) only [↓reduceIte, ↓e_lets, ↓e_ite, ↓e_cal, e_cal2, e_cal3, e_thr, e_nthrow, e_rtn, e_r0, e_r1, e_dv, iI_add, iI_sub, iI_mul, iI_neg, iI_div, iI_rem, iI_lt, iI_le, iI_eq, b_eq0, b_eq1, Int.reduceAdd, Int.reduceMul, Int.reduceSub, Int.reduceNeg, Int.reduceDiv, Int.reduceMod, Nat.reduceAdd, Bool.false_eq_true, eq_self, ltT, ltF, leT, leF, eqT, eqF, true_and, and_true, false_and, and_false, and_self, or_true, true_or, or_false, false_or, ne_eq, not_true_eq_false, not_false_eq_true, if_true, if_false, ite_true, ite_false, ite_not, some_none, some_some, none_some, none_none, li_0, li_1, li_2, li_3, li_4, li_5, li_6, li_7, li_8, li_9, li_10, li_11, li_12, li_13, li_14, li_15, li_16, li_17, li_18, li_19, li_20, li_21, li_22, li_23, li_24, li_25, li_26, li_27, li_28, li_29, li_30, li_31, li_32, li_63, li_64, li_99, li_100, li_128, li_240, li_256, li_512, li_960, li_1000, li_1022, li_1023, li_100000, li_m1, li_m1000, ↓m_g0 MR_Hm, ↓m_g1 MR_Hm, ↓m_g2 MR_Hm, ↓m_g3 MR_Hm, ↓m_g4 MR_Hm, ↓m_g5 MR_Hm, ↓m_g6 MR_Hm, ↓m_g7 MR_Hm, ↓m_g8 MR_Hm, ↓m_g9 MR_Hm, ↓m_g10 MR_Hm, ↓m_g11 MR_Hm, ↓m_g12 MR_Hm, ↓m_g13 MR_Hm, ↓m_g14 MR_Hm, ↓m_g15 MR_Hm, ↓m_g16 MR_Hm, ↓m_g17 MR_Hm, ↓m_g18 MR_Hm, ↓m_g19 MR_Hm, ↓m_g20 MR_Hm, ↓m_g21 MR_Hm, ↓m_g22 MR_Hm, ↓m_g23 MR_Hm, ↓m_g24 MR_Hm, ↓m_g25 MR_Hm, ↓m_g26 MR_Hm, ↓m_g27 MR_Hm, ↓m_ld0 MR_Hm, ↓m_ld1 MR_Hm, ↓m_ld2 MR_Hm, ↓m_ld3 MR_Hm, ↓m_ld4 MR_Hm, ↓m_ld5 MR_Hm, ↓m_ld6 MR_Hm, ↓m_ld7 MR_Hm, ↓m_ld8 MR_Hm, ↓m_ld9 MR_Hm, ↓m_ld10 MR_Hm, ↓m_ld11 MR_Hm, ↓m_ld12 MR_Hm, ↓m_ld13 MR_Hm, ↓m_ld14 MR_Hm, ↓m_ld15 MR_Hm, ↓m_ld16 MR_Hm, ↓m_ld17 MR_Hm, ↓m_ld18 MR_Hm, ↓m_ld19 MR_Hm, ↓m_rcv MR_Hm, ↓m_s0, ↓m_s1, ↓m_s2, ↓m_s3, ↓m_s4, ↓m_s5, ↓m_s6, ↓m_s7, ↓m_s8, ↓m_s9, ↓m_s10, ↓m_s11, ↓m_s12, ↓m_s13, ↓m_s14, ↓m_s15, ↓m_s16, ↓m_s17, ↓m_s18, ↓m_s19, ↓m_p0, ↓m_p1, ↓m_p2, ↓m_p3, ↓m_p4, ↓m_p5, ↓m_p6, ↓m_p7, upS_s, upS_g, upS_i]
  exact hL
theorem x_nwI {R : Type} {hs : Hs} {K : Nat → OO R} : nwI 1 (iI 16) 16 K hs = K hs.2.1 (hset hs.1 hs.2.1 (bC (fun _ => false)), hs.2.1 + 1, hs.2.2) := by
  unfold nwI
  rw [if_pos (by decide)]
  rfl
theorem e_X9_unplaced {m0 : Nat} {P : Hp} {S : SS} {z : Nat × Nat} (hV : VS S) (hz : z.1 < m0 ∨ m0 + 20 < z.1) : f_X9_unplaced m0 (Hm m0 P S, z) = some (.ok (some z.1), (Hm m0 (hset P z.1 (bC (fun k => decide ((k : Int) < S 20 4 ∧ S 14 k < 0)))) S, (z.1 + 1, z.2))) := by
  obtain ⟨hb, hm, hv⟩ := hV
  have hm2 := hm
  unfold Bm at hm2
  have h9 : (((S 20 4).toNat : Nat) : Int) = S 20 4 := by omega
  rw [u_f_X9_unplaced, li_16, x_nwI, e_lets, e_lets, li_0]
  show L_X9_unplaced_7 (some m0) (some z.1) (rtn (some z.1)) 100000 (iI 0) (hset (Hm m0 P S) z.1 (bC (fun _ => false)), (z.1 + 1, z.2)) = _
  rw [Hm_hset hz]
  have hL := loopD (fun f (t : Int32 × (Nat → Bool)) => L_X9_unplaced_7 (some m0) (some z.1) (rtn (some z.1)) f t.1 (Hm m0 (hset P z.1 (bC t.2)) S, (z.1 + 1, z.2))) (fun m => (iI (m : Int), fun k => decide (k < m ∧ S 14 k < 0))) (S 20 4).toNat (rtn (some z.1) (Hm m0 (hset P z.1 (bC (fun k => decide (k < (S 20 4).toNat ∧ S 14 k < 0)))) S, (z.1 + 1, z.2))) (fun k f hk => ?_) (fun f => ?_) 100000 (by omega)
  · have e1 : (fun k : Nat => decide (k < 0 ∧ S 14 k < 0)) = fun _ => false := funext (fun k => decide_eq_false (fun q => absurd q.1 (by omega)))
    have e2 : (fun k : Nat => decide (k < (S 20 4).toNat ∧ S 14 k < 0)) = fun k : Nat => decide ((k : Int) < S 20 4 ∧ S 14 k < 0) := funext (fun k => decide_eq_decide.mpr (by omega))
    rw [← e1]
    rw [e2] at hL
    exact hL
  · show L_X9_unplaced_7 (some m0) (some z.1) (rtn (some z.1)) (f + 1) (iI (k : Int)) (Hm m0 (hset P z.1 (bC (fun j => decide (j < k ∧ S 14 j < 0)))) S, (z.1 + 1, z.2)) = L_X9_unplaced_7 (some m0) (some z.1) (rtn (some z.1)) f (iI ((k : Int) + 1)) (Hm m0 (hset P z.1 (bC (fun j => decide (j < k + 1 ∧ S 14 j < 0)))) S, (z.1 + 1, z.2))
    have hk3 := hb (k : Int)
    have e1 := e_X9_isPlaced (MR_Hm (m0 := m0) (P := hset P z.1 (bC (fun j => decide (j < k ∧ S 14 j < 0)))) (S := S) (z := (z.1 + 1, z.2))) (l := (k : Int)) (by omega) (by omega) (by omega)
    have hq : (Hm m0 (hset P z.1 (bC (fun j => decide (j < k ∧ S 14 j < 0)))) S) z.1 = some (bC (fun j => decide (j < k ∧ S 14 j < 0))) := by rw [Hm_out hz, hset_s]
    have e2 : ∀ (x : Int) (K : OO (Option Nat)), x = 0 ∨ x = 1 → stZ (some z.1) (iI (k : Int)) (iI x) K (Hm m0 (hset P z.1 (bC (fun j => decide (j < k ∧ S 14 j < 0)))) S, (z.1 + 1, z.2)) = K (Hm m0 (hset P z.1 (bC (fun j => if j = k then decide (x = 1) else decide (j < k ∧ S 14 j < 0)))) S, (z.1 + 1, z.2)) := fun x K hx => by
      rw [b_st (hs := (Hm m0 (hset P z.1 (bC (fun j => decide (j < k ∧ S 14 j < 0)))) S, (z.1 + 1, z.2))) hq (by omega) (by omega) hx]
      show K (hset (Hm m0 (hset P z.1 _) S) z.1 _, _) = _
      rw [Hm_hset hz, hset2, Int.toNat_natCast]
    have e3 : ∀ x : Int, (x = 0 ∨ x = 1) → (x = 1 ↔ S 14 k < 0) → (fun j : Nat => if j = k then decide (x = 1) else decide (j < k ∧ S 14 j < 0)) = fun j : Nat => decide (j < k + 1 ∧ S 14 j < 0) := fun x _ hx => by
      funext j
      by_cases c : j = k
      · subst c
        rw [if_pos rfl]
        by_cases d : S 14 j < 0
        · rw [decide_eq_true (hx.mpr d), decide_eq_true ⟨by omega, d⟩]
        · rw [decide_eq_false (fun q => d (hx.mp q)), decide_eq_false (fun q => d q.2)]
      · rw [if_neg c]
        by_cases d : j < k ∧ S 14 j < 0
        · rw [decide_eq_true d, decide_eq_true ⟨by omega, d.2⟩]
        · rw [decide_eq_false d, decide_eq_false (fun q => d ⟨by omega, q.2⟩)]
    rw [u_L_X9_unplaced_7]
    by_cases c : 0 ≤ S 14 k
    · rw [if_pos c] at e1
      rw [← e3 0 (Or.inl rfl) (by omega)]
      simp -implicitDefEqProofs (disch := omega) only [↓reduceIte, ↓e_lets, ↓e_ite, ↓e_cal, e_cal2, e_cal3, e_thr, e_nthrow, e_rtn, e_r0, e_r1, e_dv, iI_add, iI_sub, iI_mul, iI_neg, iI_div, iI_rem, iI_lt, iI_le, iI_eq, b_eq0, b_eq1, Int.reduceAdd, Int.reduceMul, Int.reduceSub, Int.reduceNeg, Int.reduceDiv, Int.reduceMod, Nat.reduceAdd, Bool.false_eq_true, eq_self, ltT, ltF, leT, leF, eqT, eqF, true_and, and_true, false_and, and_false, and_self, or_true, true_or, or_false, false_or, ne_eq, not_true_eq_false, not_false_eq_true, if_true, if_false, ite_true, ite_false, ite_not, some_none, some_some, none_some, none_none, li_0, li_1, li_2, li_3, li_4, li_5, li_6, li_7, li_8, li_9, li_10, li_11, li_12, li_13, li_14, li_15, li_16, li_17, li_18, li_19, li_20, li_21, li_22, li_23, li_24, li_25, li_26, li_27, li_28, li_29, li_30, li_31, li_32, li_63, li_64, li_99, li_100, li_128, li_240, li_256, li_512, li_960, li_1000, li_1022, li_1023, li_100000, li_m1, li_m1000, ↓m_g0 MR_Hm, ↓m_g1 MR_Hm, ↓m_g2 MR_Hm, ↓m_g3 MR_Hm, ↓m_g4 MR_Hm, ↓m_g5 MR_Hm, ↓m_g6 MR_Hm, ↓m_g7 MR_Hm, ↓m_g8 MR_Hm, ↓m_g9 MR_Hm, ↓m_g10 MR_Hm, ↓m_g11 MR_Hm, ↓m_g12 MR_Hm, ↓m_g13 MR_Hm, ↓m_g14 MR_Hm, ↓m_g15 MR_Hm, ↓m_g16 MR_Hm, ↓m_g17 MR_Hm, ↓m_g18 MR_Hm, ↓m_g19 MR_Hm, ↓m_g20 MR_Hm, ↓m_g21 MR_Hm, ↓m_g22 MR_Hm, ↓m_g23 MR_Hm, ↓m_g24 MR_Hm, ↓m_g25 MR_Hm, ↓m_g26 MR_Hm, ↓m_g27 MR_Hm, ↓m_ld0 MR_Hm, ↓m_ld1 MR_Hm, ↓m_ld2 MR_Hm, ↓m_ld3 MR_Hm, ↓m_ld4 MR_Hm, ↓m_ld5 MR_Hm, ↓m_ld6 MR_Hm, ↓m_ld7 MR_Hm, ↓m_ld8 MR_Hm, ↓m_ld9 MR_Hm, ↓m_ld10 MR_Hm, ↓m_ld11 MR_Hm, ↓m_ld12 MR_Hm, ↓m_ld13 MR_Hm, ↓m_ld14 MR_Hm, ↓m_ld15 MR_Hm, ↓m_ld16 MR_Hm, ↓m_ld17 MR_Hm, ↓m_ld18 MR_Hm, ↓m_ld19 MR_Hm, ↓m_rcv MR_Hm, ↓m_s0, ↓m_s1, ↓m_s2, ↓m_s3, ↓m_s4, ↓m_s5, ↓m_s6, ↓m_s7, ↓m_s8, ↓m_s9, ↓m_s10, ↓m_s11, ↓m_s12, ↓m_s13, ↓m_s14, ↓m_s15, ↓m_s16, ↓m_s17, ↓m_s18, ↓m_s19, ↓m_p0, ↓m_p1, ↓m_p2, ↓m_p3, ↓m_p4, ↓m_p5, ↓m_p6, ↓m_p7, upS_s, upS_g, upS_i, e1, ↓u_j_X9_unplaced_30, ↓e2]
    · rw [if_neg c] at e1
      rw [← e3 1 (Or.inr rfl) (by omega)]
      simp -implicitDefEqProofs (disch := omega) only [↓reduceIte, ↓e_lets, ↓e_ite, ↓e_cal, e_cal2, e_cal3, e_thr, e_nthrow, e_rtn, e_r0, e_r1, e_dv, iI_add, iI_sub, iI_mul, iI_neg, iI_div, iI_rem, iI_lt, iI_le, iI_eq, b_eq0, b_eq1, Int.reduceAdd, Int.reduceMul, Int.reduceSub, Int.reduceNeg, Int.reduceDiv, Int.reduceMod, Nat.reduceAdd, Bool.false_eq_true, eq_self, ltT, ltF, leT, leF, eqT, eqF, true_and, and_true, false_and, and_false, and_self, or_true, true_or, or_false, false_or, ne_eq, not_true_eq_false, not_false_eq_true, if_true, if_false, ite_true, ite_false, ite_not, some_none, some_some, none_some, none_none, li_0, li_1, li_2, li_3, li_4, li_5, li_6, li_7, li_8, li_9, li_10, li_11, li_12, li_13, li_14, li_15, li_16, li_17, li_18, li_19, li_20, li_21, li_22, li_23, li_24, li_25, li_26, li_27, li_28, li_29, li_30, li_31, li_32, li_63, li_64, li_99, li_100, li_128, li_240, li_256, li_512, li_960, li_1000, li_1022, li_1023, li_100000, li_m1, li_m1000, ↓m_g0 MR_Hm, ↓m_g1 MR_Hm, ↓m_g2 MR_Hm, ↓m_g3 MR_Hm, ↓m_g4 MR_Hm, ↓m_g5 MR_Hm, ↓m_g6 MR_Hm, ↓m_g7 MR_Hm, ↓m_g8 MR_Hm, ↓m_g9 MR_Hm, ↓m_g10 MR_Hm, ↓m_g11 MR_Hm, ↓m_g12 MR_Hm, ↓m_g13 MR_Hm, ↓m_g14 MR_Hm, ↓m_g15 MR_Hm, ↓m_g16 MR_Hm, ↓m_g17 MR_Hm, ↓m_g18 MR_Hm, ↓m_g19 MR_Hm, ↓m_g20 MR_Hm, ↓m_g21 MR_Hm, ↓m_g22 MR_Hm, ↓m_g23 MR_Hm, ↓m_g24 MR_Hm, ↓m_g25 MR_Hm, ↓m_g26 MR_Hm, ↓m_g27 MR_Hm, ↓m_ld0 MR_Hm, ↓m_ld1 MR_Hm, ↓m_ld2 MR_Hm, ↓m_ld3 MR_Hm, ↓m_ld4 MR_Hm, ↓m_ld5 MR_Hm, ↓m_ld6 MR_Hm, ↓m_ld7 MR_Hm, ↓m_ld8 MR_Hm, ↓m_ld9 MR_Hm, ↓m_ld10 MR_Hm, ↓m_ld11 MR_Hm, ↓m_ld12 MR_Hm, ↓m_ld13 MR_Hm, ↓m_ld14 MR_Hm, ↓m_ld15 MR_Hm, ↓m_ld16 MR_Hm, ↓m_ld17 MR_Hm, ↓m_ld18 MR_Hm, ↓m_ld19 MR_Hm, ↓m_rcv MR_Hm, ↓m_s0, ↓m_s1, ↓m_s2, ↓m_s3, ↓m_s4, ↓m_s5, ↓m_s6, ↓m_s7, ↓m_s8, ↓m_s9, ↓m_s10, ↓m_s11, ↓m_s12, ↓m_s13, ↓m_s14, ↓m_s15, ↓m_s16, ↓m_s17, ↓m_s18, ↓m_s19, ↓m_p0, ↓m_p1, ↓m_p2, ↓m_p3, ↓m_p4, ↓m_p5, ↓m_p6, ↓m_p7, upS_s, upS_g, upS_i, e1, ↓u_j_X9_unplaced_30, ↓e2]
  · show L_X9_unplaced_7 (some m0) (some z.1) (rtn (some z.1)) (f + 1) (iI (((S 20 4).toNat : Nat) : Int)) _ = _
    rw [h9, u_L_X9_unplaced_7]
    simp -implicitDefEqProofs (disch := omega) only [↓reduceIte, ↓e_lets, ↓e_ite, ↓e_cal, e_cal2, e_cal3, e_thr, e_nthrow, e_rtn, e_r0, e_r1, e_dv, iI_add, iI_sub, iI_mul, iI_neg, iI_div, iI_rem, iI_lt, iI_le, iI_eq, b_eq0, b_eq1, Int.reduceAdd, Int.reduceMul, Int.reduceSub, Int.reduceNeg, Int.reduceDiv, Int.reduceMod, Nat.reduceAdd, Bool.false_eq_true, eq_self, ltT, ltF, leT, leF, eqT, eqF, true_and, and_true, false_and, and_false, and_self, or_true, true_or, or_false, false_or, ne_eq, not_true_eq_false, not_false_eq_true, if_true, if_false, ite_true, ite_false, ite_not, some_none, some_some, none_some, none_none, li_0, li_1, li_2, li_3, li_4, li_5, li_6, li_7, li_8, li_9, li_10, li_11, li_12, li_13, li_14, li_15, li_16, li_17, li_18, li_19, li_20, li_21, li_22, li_23, li_24, li_25, li_26, li_27, li_28, li_29, li_30, li_31, li_32, li_63, li_64, li_99, li_100, li_128, li_240, li_256, li_512, li_960, li_1000, li_1022, li_1023, li_100000, li_m1, li_m1000, ↓m_g0 MR_Hm, ↓m_g1 MR_Hm, ↓m_g2 MR_Hm, ↓m_g3 MR_Hm, ↓m_g4 MR_Hm, ↓m_g5 MR_Hm, ↓m_g6 MR_Hm, ↓m_g7 MR_Hm, ↓m_g8 MR_Hm, ↓m_g9 MR_Hm, ↓m_g10 MR_Hm, ↓m_g11 MR_Hm, ↓m_g12 MR_Hm, ↓m_g13 MR_Hm, ↓m_g14 MR_Hm, ↓m_g15 MR_Hm, ↓m_g16 MR_Hm, ↓m_g17 MR_Hm, ↓m_g18 MR_Hm, ↓m_g19 MR_Hm, ↓m_g20 MR_Hm, ↓m_g21 MR_Hm, ↓m_g22 MR_Hm, ↓m_g23 MR_Hm, ↓m_g24 MR_Hm, ↓m_g25 MR_Hm, ↓m_g26 MR_Hm, ↓m_g27 MR_Hm, ↓m_ld0 MR_Hm, ↓m_ld1 MR_Hm, ↓m_ld2 MR_Hm, ↓m_ld3 MR_Hm, ↓m_ld4 MR_Hm, ↓m_ld5 MR_Hm, ↓m_ld6 MR_Hm, ↓m_ld7 MR_Hm, ↓m_ld8 MR_Hm, ↓m_ld9 MR_Hm, ↓m_ld10 MR_Hm, ↓m_ld11 MR_Hm, ↓m_ld12 MR_Hm, ↓m_ld13 MR_Hm, ↓m_ld14 MR_Hm, ↓m_ld15 MR_Hm, ↓m_ld16 MR_Hm, ↓m_ld17 MR_Hm, ↓m_ld18 MR_Hm, ↓m_ld19 MR_Hm, ↓m_rcv MR_Hm, ↓m_s0, ↓m_s1, ↓m_s2, ↓m_s3, ↓m_s4, ↓m_s5, ↓m_s6, ↓m_s7, ↓m_s8, ↓m_s9, ↓m_s10, ↓m_s11, ↓m_s12, ↓m_s13, ↓m_s14, ↓m_s15, ↓m_s16, ↓m_s17, ↓m_s18, ↓m_s19, ↓m_p0, ↓m_p1, ↓m_p2, ↓m_p3, ↓m_p4, ↓m_p5, ↓m_p6, ↓m_p7, upS_s, upS_g, upS_i]

