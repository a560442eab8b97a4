/-! PURE LAYER: costs kept; lessons put and taken (class) -/
def adC (S : SS) (l s : Int) : Int := sumN (fun p => S 15 (p : Int) * adI S l p s) 4
theorem sumN_c {f g : Nat → Int} : ∀ n, (∀ k, k < n → f k = g k) → sumN f n = sumN g n := by
  intro n
  induction n with
  | zero => intro _; rfl
  | succ n ih =>
    intro h
    unfold sumN
    rw [ih (fun k hk => h k (by omega)), h n (by omega)]
theorem orN_c {f g : Nat → Int32} : ∀ n, (∀ k, k < n → f k = g k) → orN f n = orN g n := by
  intro n
  induction n with
  | zero => intro _; rfl
  | succ n ih =>
    intro h
    unfold orN
    rw [ih (fun k hk => h k (by omega)), h n (by omega)]
theorem e_addedCost {A : AA} {P : Hp} {S : SS} {K : KK} {z : Nat × Nat} (hA : GA A) (hb : Bn S) (hm : Bm S) (hv : Vl S) {l : Int} (l0 : 0 ≤ l) (l1 : l < S 20 4) (hL : LAn S K l (S 20 4).toNat) {s : Int} (s0 : 0 ≤ s) (s1 : s < 30) : f_X6_addedCost (A 13 0) (some (A 5 l)) (iI s) (Hc A P S K, z) = some (.ok (iI (adC S l s)), (Hc A P S K, z)) := by
  have hm2 := hm
  unfold Bm at hm2
  have hl2 := hv l l0 l1
  have hl3 := hb l
  unfold f_X6_addedCost
  rw [e_lets, e_lets, li_0]
  refine loopD (fun f (t : Int32 × Int32) => L_X6_addedCost_5 (some (A 13 0)) (some (A 5 l)) (iI s) (fun v => rtn v) f t.1 t.2 (Hc A P S K, z)) (fun m => (iI (sumN (fun p => S 15 (p : Int) * adI S l p s) m), iI (m : Int))) 4 _ (fun k f hk => ?_) (fun f => ?_) 100000 (by decide)
  · show L_X6_addedCost_5 _ _ _ _ (f + 1) (iI (sumN (fun p => S 15 (p : Int) * adI S l p s) k)) (iI (k : Int)) (Hc A P S K, z) = L_X6_addedCost_5 _ _ _ _ f (iI (sumN (fun p => S 15 (p : Int) * adI S l p s) k + S 15 (k : Int) * adI S l k s)) (iI ((k + 1 : Nat) : Int)) (Hc A P S K, z)
    rw [u_L_X6_addedCost_5, nat1]
    have hw := hb (k : Int)
    have e1 := e_addedTo (P := P) (K := K) (z := z) hA hb hm hv l0 l1 hL (p := (k : Int)) (by omega) (by omega) s0 s1
    by_cases c : S 15 (k : Int) = 0
    · rw [c, Int.zero_mul]
      simp (disch := omega) only [↓reduceIte, ↓e_lets, ↓e_ite, ↓e_cal, e_cal2, e_cal3, e_thr, e_nthrow, e_rtn, e_r0, e_r1, e_dv, iI_add, iI_sub, iI_mul, iI_neg, iI_div, iI_rem, iI_lt, iI_le, iI_eq, b_eq0, b_eq1, Int.reduceAdd, Int.reduceMul, Int.reduceSub, Int.reduceNeg, Int.reduceDiv, Int.reduceMod, Nat.reduceAdd, Bool.false_eq_true, eq_self, ltT, ltF, leT, leF, eqT, eqF, true_and, and_true, false_and, and_false, and_self, or_true, true_or, or_false, false_or, ne_eq, not_true_eq_false, not_false_eq_true, if_true, if_false, ite_true, ite_false, ite_not, some_none, some_some, none_some, none_none, A_eq hA, li_0, li_1, li_2, li_3, li_4, li_5, li_6, li_7, li_8, li_9, li_10, li_11, li_12, li_13, li_14, li_15, li_16, li_17, li_18, li_19, li_20, li_21, li_22, li_23, li_24, li_25, li_26, li_27, li_28, li_29, li_30, li_31, li_32, li_63, li_64, li_99, li_100, li_128, li_240, li_256, li_512, li_960, li_1000, li_1022, li_1023, li_100000, li_m1, li_m1000, ↓r_v0 hA, ↓r_c0 hA, ↓r_0_0 hA, ↓r_0_1 hA, ↓r_0_2 hA, ↓r_0_3 hA, ↓r_0_4 hA, ↓r_0_5 hA, ↓r_0_6 hA, ↓r_0_7 hA, ↓r_0_8 hA, ↓r_0_9 hA, ↓r_v1 hA, ↓r_c1 hA, ↓r_1_0 hA, ↓r_1_1 hA, ↓r_1_2 hA, ↓r_1_3 hA, ↓r_1_4 hA, ↓r_v2 hA, ↓r_c2 hA, ↓r_2_0 hA, ↓r_2_1 hA, ↓r_2_2 hA, ↓r_v4 hA, ↓r_c4 hA, ↓r_4_0 hA, ↓r_v5 hA, ↓r_c5 hA, ↓r_5_0 hA, ↓r_5_1 hA, ↓r_5_2 hA, ↓r_5_3 hA, ↓r_5_4 hA, ↓r_5_5 hA, ↓r_5_6p hA, ↓r_5_6n hA, ↓r_5_7p hA, ↓r_5_7n hA, ↓r_5_8 hA, ↓r_5_9 hA, ↓r_5_10 hA, ↓r_5_11 hA, ↓r_5_12 hA, ↓r_5_13 hA, ↓r_5_14 hA, ↓r_5_15 hA, ↓r_5_16 hA, ↓r_5_17 hA, ↓r_v11 hA, ↓r_c11 hA, ↓r_11_0 hA, ↓r_11_1p hA, ↓r_11_2 hA, ↓r_v13 hA, ↓r_c13 hA, ↓r_13_0 hA, ↓r_13_1 hA, ↓r_13_2 hA, ↓r_13_3 hA, ↓r_13_4 hA, ↓r_13_5 hA, ↓r_v14 hA, ↓r_c14 hA, ↓r_14_0 hA, ↓r_v15 hA, ↓r_c15 hA, ↓r_15_0 hA, ↓r_15_1 hA, ↓r_v16 hA, ↓r_c16 hA, ↓r_16_0 hA, r_l3 hA, ↓r_l3 hA, ↓r_n3 hA, r_a3 hA, r_l10 hA, ↓r_l10 hA, ↓r_n10 hA, r_a10 hA, r_l20 hA, ↓r_l20 hA, ↓r_n20 hA, r_a20 hA, r_l6 hA, ↓r_l6 hA, ↓r_n6 hA, r_a6 hA, r_l7 hA, ↓r_l7 hA, ↓r_n7 hA, r_a7 hA, r_l8 hA, ↓r_l8 hA, ↓r_n8 hA, r_a8 hA, r_l9 hA, ↓r_l9 hA, ↓r_n9 hA, r_a9 hA, r_l18 hA, ↓r_l18 hA, ↓r_n18 hA, r_a18 hA, r_l19 hA, ↓r_l19 hA, ↓r_n19 hA, r_a19 hA, r_l21 hA, ↓r_l21 hA, ↓r_n21 hA, r_a21 hA, r_l22 hA, ↓r_l22 hA, ↓r_n22 hA, r_a22 hA, r_l23 hA, ↓r_l23 hA, ↓r_n23 hA, r_a23 hA, r_l24 hA, ↓r_l24 hA, ↓r_n24 hA, r_a24 hA, r_l25 hA, ↓r_l25 hA, ↓r_n25 hA, r_a25 hA, r_l17 hA, ↓r_l17 hA, ↓r_n17 hA, r_sz0 hA, r_gt0 hA, r_sz1 hA, r_gt1 hA, r_sz2 hA, r_gt2 hA, r_sz3 hA, r_gt3 hA, w_s6 hA, w_s7 hA, w_s8 hA, w_s9 hA, w_s18 hA, w_s19 hA, w_s21 hA, w_s22 hA, w_s23 hA, w_s24 hA, w_s25 hA, w_f11 hA, w_f12 hA, w_f13 hA, w_f16 hA, e1, c, ↓u_j_X6_addedCost_45]
    · simp (disch := omega) only [↓reduceIte, ↓e_lets, ↓e_ite, ↓e_cal, e_cal2, e_cal3, e_thr, e_nthrow, e_rtn, e_r0, e_r1, e_dv, iI_add, iI_sub, iI_mul, iI_neg, iI_div, iI_rem, iI_lt, iI_le, iI_eq, b_eq0, b_eq1, Int.reduceAdd, Int.reduceMul, Int.reduceSub, Int.reduceNeg, Int.reduceDiv, Int.reduceMod, Nat.reduceAdd, Bool.false_eq_true, eq_self, ltT, ltF, leT, leF, eqT, eqF, true_and, and_true, false_and, and_false, and_self, or_true, true_or, or_false, false_or, ne_eq, not_true_eq_false, not_false_eq_true, if_true, if_false, ite_true, ite_false, ite_not, some_none, some_some, none_some, none_none, A_eq hA, li_0, li_1, li_2, li_3, li_4, li_5, li_6, li_7, li_8, li_9, li_10, li_11, li_12, li_13, li_14, li_15, li_16, li_17, li_18, li_19, li_20, li_21, li_22, li_23, li_24, li_25, li_26, li_27, li_28, li_29, li_30, li_31, li_32, li_63, li_64, li_99, li_100, li_128, li_240, li_256, li_512, li_960, li_1000, li_1022, li_1023, li_100000, li_m1, li_m1000, ↓r_v0 hA, ↓r_c0 hA, ↓r_0_0 hA, ↓r_0_1 hA, ↓r_0_2 hA, ↓r_0_3 hA, ↓r_0_4 hA, ↓r_0_5 hA, ↓r_0_6 hA, ↓r_0_7 hA, ↓r_0_8 hA, ↓r_0_9 hA, ↓r_v1 hA, ↓r_c1 hA, ↓r_1_0 hA, ↓r_1_1 hA, ↓r_1_2 hA, ↓r_1_3 hA, ↓r_1_4 hA, ↓r_v2 hA, ↓r_c2 hA, ↓r_2_0 hA, ↓r_2_1 hA, ↓r_2_2 hA, ↓r_v4 hA, ↓r_c4 hA, ↓r_4_0 hA, ↓r_v5 hA, ↓r_c5 hA, ↓r_5_0 hA, ↓r_5_1 hA, ↓r_5_2 hA, ↓r_5_3 hA, ↓r_5_4 hA, ↓r_5_5 hA, ↓r_5_6p hA, ↓r_5_6n hA, ↓r_5_7p hA, ↓r_5_7n hA, ↓r_5_8 hA, ↓r_5_9 hA, ↓r_5_10 hA, ↓r_5_11 hA, ↓r_5_12 hA, ↓r_5_13 hA, ↓r_5_14 hA, ↓r_5_15 hA, ↓r_5_16 hA, ↓r_5_17 hA, ↓r_v11 hA, ↓r_c11 hA, ↓r_11_0 hA, ↓r_11_1p hA, ↓r_11_2 hA, ↓r_v13 hA, ↓r_c13 hA, ↓r_13_0 hA, ↓r_13_1 hA, ↓r_13_2 hA, ↓r_13_3 hA, ↓r_13_4 hA, ↓r_13_5 hA, ↓r_v14 hA, ↓r_c14 hA, ↓r_14_0 hA, ↓r_v15 hA, ↓r_c15 hA, ↓r_15_0 hA, ↓r_15_1 hA, ↓r_v16 hA, ↓r_c16 hA, ↓r_16_0 hA, r_l3 hA, ↓r_l3 hA, ↓r_n3 hA, r_a3 hA, r_l10 hA, ↓r_l10 hA, ↓r_n10 hA, r_a10 hA, r_l20 hA, ↓r_l20 hA, ↓r_n20 hA, r_a20 hA, r_l6 hA, ↓r_l6 hA, ↓r_n6 hA, r_a6 hA, r_l7 hA, ↓r_l7 hA, ↓r_n7 hA, r_a7 hA, r_l8 hA, ↓r_l8 hA, ↓r_n8 hA, r_a8 hA, r_l9 hA, ↓r_l9 hA, ↓r_n9 hA, r_a9 hA, r_l18 hA, ↓r_l18 hA, ↓r_n18 hA, r_a18 hA, r_l19 hA, ↓r_l19 hA, ↓r_n19 hA, r_a19 hA, r_l21 hA, ↓r_l21 hA, ↓r_n21 hA, r_a21 hA, r_l22 hA, ↓r_l22 hA, ↓r_n22 hA, r_a22 hA, r_l23 hA, ↓r_l23 hA, ↓r_n23 hA, r_a23 hA, r_l24 hA, ↓r_l24 hA, ↓r_n24 hA, r_a24 hA, r_l25 hA, ↓r_l25 hA, ↓r_n25 hA, r_a25 hA, r_l17 hA, ↓r_l17 hA, ↓r_n17 hA, r_sz0 hA, r_gt0 hA, r_sz1 hA, r_gt1 hA, r_sz2 hA, r_gt2 hA, r_sz3 hA, r_gt3 hA, w_s6 hA, w_s7 hA, w_s8 hA, w_s9 hA, w_s18 hA, w_s19 hA, w_s21 hA, w_s22 hA, w_s23 hA, w_s24 hA, w_s25 hA, w_f11 hA, w_f12 hA, w_f13 hA, w_f16 hA, e1, c, ↓u_j_X6_addedCost_45]
  · show L_X6_addedCost_5 _ _ _ _ (f + 1) (iI (adC S l s)) (iI ((4 : Nat) : Int)) (Hc A P S K, z) = _
    rw [u_L_X6_addedCost_5]
    simp (disch := omega) only [↓reduceIte, ↓e_lets, ↓e_ite, ↓e_cal, e_cal2, e_cal3, e_thr, e_nthrow, e_rtn, e_r0, e_r1, e_dv, iI_add, iI_sub, iI_mul, iI_neg, iI_div, iI_rem, iI_lt, iI_le, iI_eq, b_eq0, b_eq1, Int.reduceAdd, Int.reduceMul, Int.reduceSub, Int.reduceNeg, Int.reduceDiv, Int.reduceMod, Nat.reduceAdd, Bool.false_eq_true, eq_self, ltT, ltF, leT, leF, eqT, eqF, true_and, and_true, false_and, and_false, and_self, or_true, true_or, or_false, false_or, ne_eq, not_true_eq_false, not_false_eq_true, if_true, if_false, ite_true, ite_false, ite_not, some_none, some_some, none_some, none_none, A_eq hA, li_0, li_1, li_2, li_3, li_4, li_5, li_6, li_7, li_8, li_9, li_10, li_11, li_12, li_13, li_14, li_15, li_16, li_17, li_18, li_19, li_20, li_21, li_22, li_23, li_24, li_25, li_26, li_27, li_28, li_29, li_30, li_31, li_32, li_63, li_64, li_99, li_100, li_128, li_240, li_256, li_512, li_960, li_1000, li_1022, li_1023, li_100000, li_m1, li_m1000, ↓r_v0 hA, ↓r_c0 hA, ↓r_0_0 hA, ↓r_0_1 hA, ↓r_0_2 hA, ↓r_0_3 hA, ↓r_0_4 hA, ↓r_0_5 hA, ↓r_0_6 hA, ↓r_0_7 hA, ↓r_0_8 hA, ↓r_0_9 hA, ↓r_v1 hA, ↓r_c1 hA, ↓r_1_0 hA, ↓r_1_1 hA, ↓r_1_2 hA, ↓r_1_3 hA, ↓r_1_4 hA, ↓r_v2 hA, ↓r_c2 hA, ↓r_2_0 hA, ↓r_2_1 hA, ↓r_2_2 hA, ↓r_v4 hA, ↓r_c4 hA, ↓r_4_0 hA, ↓r_v5 hA, ↓r_c5 hA, ↓r_5_0 hA, ↓r_5_1 hA, ↓r_5_2 hA, ↓r_5_3 hA, ↓r_5_4 hA, ↓r_5_5 hA, ↓r_5_6p hA, ↓r_5_6n hA, ↓r_5_7p hA, ↓r_5_7n hA, ↓r_5_8 hA, ↓r_5_9 hA, ↓r_5_10 hA, ↓r_5_11 hA, ↓r_5_12 hA, ↓r_5_13 hA, ↓r_5_14 hA, ↓r_5_15 hA, ↓r_5_16 hA, ↓r_5_17 hA, ↓r_v11 hA, ↓r_c11 hA, ↓r_11_0 hA, ↓r_11_1p hA, ↓r_11_2 hA, ↓r_v13 hA, ↓r_c13 hA, ↓r_13_0 hA, ↓r_13_1 hA, ↓r_13_2 hA, ↓r_13_3 hA, ↓r_13_4 hA, ↓r_13_5 hA, ↓r_v14 hA, ↓r_c14 hA, ↓r_14_0 hA, ↓r_v15 hA, ↓r_c15 hA, ↓r_15_0 hA, ↓r_15_1 hA, ↓r_v16 hA, ↓r_c16 hA, ↓r_16_0 hA, r_l3 hA, ↓r_l3 hA, ↓r_n3 hA, r_a3 hA, r_l10 hA, ↓r_l10 hA, ↓r_n10 hA, r_a10 hA, r_l20 hA, ↓r_l20 hA, ↓r_n20 hA, r_a20 hA, r_l6 hA, ↓r_l6 hA, ↓r_n6 hA, r_a6 hA, r_l7 hA, ↓r_l7 hA, ↓r_n7 hA, r_a7 hA, r_l8 hA, ↓r_l8 hA, ↓r_n8 hA, r_a8 hA, r_l9 hA, ↓r_l9 hA, ↓r_n9 hA, r_a9 hA, r_l18 hA, ↓r_l18 hA, ↓r_n18 hA, r_a18 hA, r_l19 hA, ↓r_l19 hA, ↓r_n19 hA, r_a19 hA, r_l21 hA, ↓r_l21 hA, ↓r_n21 hA, r_a21 hA, r_l22 hA, ↓r_l22 hA, ↓r_n22 hA, r_a22 hA, r_l23 hA, ↓r_l23 hA, ↓r_n23 hA, r_a23 hA, r_l24 hA, ↓r_l24 hA, ↓r_n24 hA, r_a24 hA, r_l25 hA, ↓r_l25 hA, ↓r_n25 hA, r_a25 hA, r_l17 hA, ↓r_l17 hA, ↓r_n17 hA, r_sz0 hA, r_gt0 hA, r_sz1 hA, r_gt1 hA, r_sz2 hA, r_gt2 hA, r_sz3 hA, r_gt3 hA, w_s6 hA, w_s7 hA, w_s8 hA, w_s9 hA, w_s18 hA, w_s19 hA, w_s21 hA, w_s22 hA, w_s23 hA, w_s24 hA, w_s25 hA, w_f11 hA, w_f12 hA, w_f13 hA, w_f16 hA]
/-- the amounts that are kept -/
def AmI (K : KK) (am : Int → Int) : Prop := ∀ p : Int, 0 ≤ p → p < 4 → K 21 0 p = iI (am p)
def coI (S : SS) (am : Int → Int) : Int := sumN (fun p => S 15 (p : Int) * am p) 4
theorem e_costKept {A : AA} {P : Hp} {S : SS} {K : KK} {z : Nat × Nat} (hA : GA A) (hb : Bn S) (hm : Bm S) (hv : Vl S) {am : Int → Int} (ha : AmI K am) : f_X6_costKept (A 13 0) (Hc A P S K, z) = some (.ok (iI (coI S am)), (Hc A P S K, z)) := by
  have hm2 := hm
  unfold Bm at hm2
  unfold f_X6_costKept
  rw [e_lets, e_lets, li_0]
  refine loopD (fun f (t : Int32 × Int32) => L_X6_costKept_4 (some (A 13 0)) (fun v => rtn v) f t.1 t.2 (Hc A P S K, z)) (fun m => (iI (sumN (fun p => S 15 (p : Int) * am p) m), iI (m : Int))) 4 _ (fun k f hk => ?_) (fun f => ?_) 100000 (by decide)
  · show L_X6_costKept_4 _ _ (f + 1) (iI (sumN (fun p => S 15 (p : Int) * am p) k)) (iI (k : Int)) (Hc A P S K, z) = L_X6_costKept_4 _ _ f (iI (sumN (fun p => S 15 (p : Int) * am p) k + S 15 (k : Int) * am k)) (iI ((k + 1 : Nat) : Int)) (Hc A P S K, z)
    rw [u_L_X6_costKept_4, nat1]
    have e1 := ha (k : Int) (by omega) (by omega)
    simp (disch := omega) only [↓reduceIte, ↓e_lets, ↓e_ite, ↓e_cal, e_cal2, e_cal3, e_thr, e_nthrow, e_rtn, e_r0, e_r1, e_dv, iI_add, iI_sub, iI_mul, iI_neg, iI_div, iI_rem, iI_lt, iI_le, iI_eq, b_eq0, b_eq1, Int.reduceAdd, Int.reduceMul, Int.reduceSub, Int.reduceNeg, Int.reduceDiv, Int.reduceMod, Nat.reduceAdd, Bool.false_eq_true, eq_self, ltT, ltF, leT, leF, eqT, eqF, true_and, and_true, false_and, and_false, and_self, or_true, true_or, or_false, false_or, ne_eq, not_true_eq_false, not_false_eq_true, if_true, if_false, ite_true, ite_false, ite_not, some_none, some_some, none_some, none_none, A_eq hA, li_0, li_1, li_2, li_3, li_4, li_5, li_6, li_7, li_8, li_9, li_10, li_11, li_12, li_13, li_14, li_15, li_16, li_17, li_18, li_19, li_20, li_21, li_22, li_23, li_24, li_25, li_26, li_27, li_28, li_29, li_30, li_31, li_32, li_63, li_64, li_99, li_100, li_128, li_240, li_256, li_512, li_960, li_1000, li_1022, li_1023, li_100000, li_m1, li_m1000, ↓r_v0 hA, ↓r_c0 hA, ↓r_0_0 hA, ↓r_0_1 hA, ↓r_0_2 hA, ↓r_0_3 hA, ↓r_0_4 hA, ↓r_0_5 hA, ↓r_0_6 hA, ↓r_0_7 hA, ↓r_0_8 hA, ↓r_0_9 hA, ↓r_v1 hA, ↓r_c1 hA, ↓r_1_0 hA, ↓r_1_1 hA, ↓r_1_2 hA, ↓r_1_3 hA, ↓r_1_4 hA, ↓r_v2 hA, ↓r_c2 hA, ↓r_2_0 hA, ↓r_2_1 hA, ↓r_2_2 hA, ↓r_v4 hA, ↓r_c4 hA, ↓r_4_0 hA, ↓r_v5 hA, ↓r_c5 hA, ↓r_5_0 hA, ↓r_5_1 hA, ↓r_5_2 hA, ↓r_5_3 hA, ↓r_5_4 hA, ↓r_5_5 hA, ↓r_5_6p hA, ↓r_5_6n hA, ↓r_5_7p hA, ↓r_5_7n hA, ↓r_5_8 hA, ↓r_5_9 hA, ↓r_5_10 hA, ↓r_5_11 hA, ↓r_5_12 hA, ↓r_5_13 hA, ↓r_5_14 hA, ↓r_5_15 hA, ↓r_5_16 hA, ↓r_5_17 hA, ↓r_v11 hA, ↓r_c11 hA, ↓r_11_0 hA, ↓r_11_1p hA, ↓r_11_2 hA, ↓r_v13 hA, ↓r_c13 hA, ↓r_13_0 hA, ↓r_13_1 hA, ↓r_13_2 hA, ↓r_13_3 hA, ↓r_13_4 hA, ↓r_13_5 hA, ↓r_v14 hA, ↓r_c14 hA, ↓r_14_0 hA, ↓r_v15 hA, ↓r_c15 hA, ↓r_15_0 hA, ↓r_15_1 hA, ↓r_v16 hA, ↓r_c16 hA, ↓r_16_0 hA, r_l3 hA, ↓r_l3 hA, ↓r_n3 hA, r_a3 hA, r_l10 hA, ↓r_l10 hA, ↓r_n10 hA, r_a10 hA, r_l20 hA, ↓r_l20 hA, ↓r_n20 hA, r_a20 hA, r_l6 hA, ↓r_l6 hA, ↓r_n6 hA, r_a6 hA, r_l7 hA, ↓r_l7 hA, ↓r_n7 hA, r_a7 hA, r_l8 hA, ↓r_l8 hA, ↓r_n8 hA, r_a8 hA, r_l9 hA, ↓r_l9 hA, ↓r_n9 hA, r_a9 hA, r_l18 hA, ↓r_l18 hA, ↓r_n18 hA, r_a18 hA, r_l19 hA, ↓r_l19 hA, ↓r_n19 hA, r_a19 hA, r_l21 hA, ↓r_l21 hA, ↓r_n21 hA, r_a21 hA, r_l22 hA, ↓r_l22 hA, ↓r_n22 hA, r_a22 hA, r_l23 hA, ↓r_l23 hA, ↓r_n23 hA, r_a23 hA, r_l24 hA, ↓r_l24 hA, ↓r_n24 hA, r_a24 hA, r_l25 hA, ↓r_l25 hA, ↓r_n25 hA, r_a25 hA, r_l17 hA, ↓r_l17 hA, ↓r_n17 hA, r_sz0 hA, r_gt0 hA, r_sz1 hA, r_gt1 hA, r_sz2 hA, r_gt2 hA, r_sz3 hA, r_gt3 hA, w_s6 hA, w_s7 hA, w_s8 hA, w_s9 hA, w_s18 hA, w_s19 hA, w_s21 hA, w_s22 hA, w_s23 hA, w_s24 hA, w_s25 hA, w_f11 hA, w_f12 hA, w_f13 hA, w_f16 hA, e1]
  · show L_X6_costKept_4 _ _ (f + 1) (iI (coI S am)) (iI ((4 : Nat) : Int)) (Hc A P S K, z) = _
    rw [u_L_X6_costKept_4]
    simp (disch := omega) only [↓reduceIte, ↓e_lets, ↓e_ite, ↓e_cal, e_cal2, e_cal3, e_thr, e_nthrow, e_rtn, e_r0, e_r1, e_dv, iI_add, iI_sub, iI_mul, iI_neg, iI_div, iI_rem, iI_lt, iI_le, iI_eq, b_eq0, b_eq1, Int.reduceAdd, Int.reduceMul, Int.reduceSub, Int.reduceNeg, Int.reduceDiv, Int.reduceMod, Nat.reduceAdd, Bool.false_eq_true, eq_self, ltT, ltF, leT, leF, eqT, eqF, true_and, and_true, false_and, and_false, and_self, or_true, true_or, or_false, false_or, ne_eq, not_true_eq_false, not_false_eq_true, if_true, if_false, ite_true, ite_false, ite_not, some_none, some_some, none_some, none_none, A_eq hA, li_0, li_1, li_2, li_3, li_4, li_5, li_6, li_7, li_8, li_9, li_10, li_11, li_12, li_13, li_14, li_15, li_16, li_17, li_18, li_19, li_20, li_21, li_22, li_23, li_24, li_25, li_26, li_27, li_28, li_29, li_30, li_31, li_32, li_63, li_64, li_99, li_100, li_128, li_240, li_256, li_512, li_960, li_1000, li_1022, li_1023, li_100000, li_m1, li_m1000, ↓r_v0 hA, ↓r_c0 hA, ↓r_0_0 hA, ↓r_0_1 hA, ↓r_0_2 hA, ↓r_0_3 hA, ↓r_0_4 hA, ↓r_0_5 hA, ↓r_0_6 hA, ↓r_0_7 hA, ↓r_0_8 hA, ↓r_0_9 hA, ↓r_v1 hA, ↓r_c1 hA, ↓r_1_0 hA, ↓r_1_1 hA, ↓r_1_2 hA, ↓r_1_3 hA, ↓r_1_4 hA, ↓r_v2 hA, ↓r_c2 hA, ↓r_2_0 hA, ↓r_2_1 hA, ↓r_2_2 hA, ↓r_v4 hA, ↓r_c4 hA, ↓r_4_0 hA, ↓r_v5 hA, ↓r_c5 hA, ↓r_5_0 hA, ↓r_5_1 hA, ↓r_5_2 hA, ↓r_5_3 hA, ↓r_5_4 hA, ↓r_5_5 hA, ↓r_5_6p hA, ↓r_5_6n hA, ↓r_5_7p hA, ↓r_5_7n hA, ↓r_5_8 hA, ↓r_5_9 hA, ↓r_5_10 hA, ↓r_5_11 hA, ↓r_5_12 hA, ↓r_5_13 hA, ↓r_5_14 hA, ↓r_5_15 hA, ↓r_5_16 hA, ↓r_5_17 hA, ↓r_v11 hA, ↓r_c11 hA, ↓r_11_0 hA, ↓r_11_1p hA, ↓r_11_2 hA, ↓r_v13 hA, ↓r_c13 hA, ↓r_13_0 hA, ↓r_13_1 hA, ↓r_13_2 hA, ↓r_13_3 hA, ↓r_13_4 hA, ↓r_13_5 hA, ↓r_v14 hA, ↓r_c14 hA, ↓r_14_0 hA, ↓r_v15 hA, ↓r_c15 hA, ↓r_15_0 hA, ↓r_15_1 hA, ↓r_v16 hA, ↓r_c16 hA, ↓r_16_0 hA, r_l3 hA, ↓r_l3 hA, ↓r_n3 hA, r_a3 hA, r_l10 hA, ↓r_l10 hA, ↓r_n10 hA, r_a10 hA, r_l20 hA, ↓r_l20 hA, ↓r_n20 hA, r_a20 hA, r_l6 hA, ↓r_l6 hA, ↓r_n6 hA, r_a6 hA, r_l7 hA, ↓r_l7 hA, ↓r_n7 hA, r_a7 hA, r_l8 hA, ↓r_l8 hA, ↓r_n8 hA, r_a8 hA, r_l9 hA, ↓r_l9 hA, ↓r_n9 hA, r_a9 hA, r_l18 hA, ↓r_l18 hA, ↓r_n18 hA, r_a18 hA, r_l19 hA, ↓r_l19 hA, ↓r_n19 hA, r_a19 hA, r_l21 hA, ↓r_l21 hA, ↓r_n21 hA, r_a21 hA, r_l22 hA, ↓r_l22 hA, ↓r_n22 hA, r_a22 hA, r_l23 hA, ↓r_l23 hA, ↓r_n23 hA, r_a23 hA, r_l24 hA, ↓r_l24 hA, ↓r_n24 hA, r_a24 hA, r_l25 hA, ↓r_l25 hA, ↓r_n25 hA, r_a25 hA, r_l17 hA, ↓r_l17 hA, ↓r_n17 hA, r_sz0 hA, r_gt0 hA, r_sz1 hA, r_gt1 hA, r_sz2 hA, r_gt2 hA, r_sz3 hA, r_gt3 hA, w_s6 hA, w_s7 hA, w_s8 hA, w_s9 hA, w_s18 hA, w_s19 hA, w_s21 hA, w_s22 hA, w_s23 hA, w_s24 hA, w_s25 hA, w_f11 hA, w_f12 hA, w_f13 hA, w_f16 hA]
/-- all but the caches and the amounts is as it was -/
def KX (K K2 : KK) : Prop := ∀ (k : Nat) (i j : Int), (k < 5 ∨ 9 < k) → k ≠ 21 → K2 k i j = K k i j
theorem KX.rfl {K : KK} : KX K K := fun _ _ _ _ _ => Eq.refl _
theorem KX.tr {K K2 K3 : KK} (h : KX K K2) (h2 : KX K2 K3) : KX K K3 := fun k i j hk h3 => (h2 k i j hk h3).trans (h k i j hk h3)
theorem KE.x {K K2 : KK} (h : KE K K2) : KX K K2 := fun k i j hk _ => h k i j hk
theorem KE.am {K K2 : KK} {am : Int → Int} (h : KE K K2) (ha : AmI K am) : AmI K2 am := fun p p0 p1 => (h 21 0 p (by decide)).trans (ha p p0 p1)
def chK (S : SS) (K : KK) (am : Int → Int) (l t : Int) (n : Int) : KK := rwK K 21 0 n (fun p => iI (am p + t * adI S l p (S 14 l / 8)))
theorem chK_k {S : SS} {K : KK} {am : Int → Int} {l t n i j : Int} {k : Nat} (h : k ≠ 21) : chK S K am l t n k i j = K k i j := rwK_k h
theorem LAn_k {S : SS} {K K2 : KK} {l : Int} {n : Nat} (h : ∀ k i j, k ≠ 21 → K2 k i j = K k i j) (hL : LAn S K l n) : LAn S K2 l n := by
  obtain ⟨g1, g2, g3, g4, g5, g6, g7⟩ := hL
  exact ⟨(h _ _ _ (by decide)).trans g1, (h _ _ _ (by decide)).trans g2, (h _ _ _ (by decide)).trans g3, (h _ _ _ (by decide)).trans g4, fun r r0 r1 => (h _ _ _ (by decide)).trans (g5 r r0 r1), fun r r0 r1 => (h _ _ _ (by decide)).trans (g6 r r0 r1), fun r r0 r1 => (h _ _ _ (by decide)).trans (g7 r r0 r1)⟩
theorem e_changeAmounts1 {A : AA} {P : Hp} {S : SS} {K : KK} {z : Nat × Nat} (hA : GA A) (hb : Bn S) (hm : Bm S) (hv : Vl S) {l : Int} (l0 : 0 ≤ l) (l1 : l < S 20 4) (hp : 0 ≤ S 14 l) (hL : LAn S K l (S 20 4).toNat) {am : Int → Int} (ha : AmI K am) (t : Int) : f_X6_changeAmounts (A 13 0) (some (A 5 l)) (iI t) (Hc A P S K, z) = some (.ok (), (Hc A P S (chK S K am l t 4), z)) := by
  have hm2 := hm
  unfold Bm at hm2
  have hl2 := hv l l0 l1
  have hl3 := hb l
  unfold f_X6_changeAmounts
  rw [e_lets, li_0]
  have h0 : (Hc A P S K, z) = (Hc A P S (chK S K am l t ((0 : Nat) : Int)), z) := by
    unfold chK
    rw [show ((0 : Nat) : Int) = 0 from rfl, rwK_0]
  rw [h0]
  refine loopD (fun f (q : KK × Int32) => L_X6_changeAmounts_2 (some (A 13 0)) (some (A 5 l)) (iI t) (rtn ()) f q.2 (Hc A P S q.1, z)) (fun m => (chK S K am l t (m : Int), iI (m : Int))) 4 _ (fun k f hk => ?_) (fun f => ?_) 100000 (by decide)
  · show L_X6_changeAmounts_2 _ _ _ _ (f + 1) (iI (k : Int)) (Hc A P S (chK S K am l t (k : Int)), z) = L_X6_changeAmounts_2 _ _ _ _ f (iI ((k + 1 : Nat) : Int)) (Hc A P S (chK S K am l t ((k + 1 : Nat) : Int)), z)
    have e1 := e_addedTo (P := P) (K := chK S K am l t (k : Int)) (z := z) hA hb hm hv l0 l1 (LAn_k (fun k i j h => chK_k h) hL) (p := (k : Int)) (by omega) (by omega) (s := S 14 l / 8) (by omega) (by omega)
    have e2 : chK S K am l t (k : Int) 21 0 (k : Int) = iI (am k) := by
      unfold chK
      rw [rwK_j (by omega), ha k (by omega) (by omega)]
    have e3 : up3 (chK S K am l t (k : Int)) 21 0 (k : Int) (iI (am k + t * adI S l k (S 14 l / 8))) = chK S K am l t ((k + 1 : Nat) : Int) := rwK_1 _ _ _ _ _
    rw [u_L_X6_changeAmounts_2]
    generalize hq : chK S K am l t ((k + 1 : Nat) : Int) = Kq at *
    rw [nat1]
    simp (disch := omega) only [↓reduceIte, ↓e_lets, ↓e_ite, ↓e_cal, e_cal2, e_cal3, e_thr, e_nthrow, e_rtn, e_r0, e_r1, e_dv, iI_add, iI_sub, iI_mul, iI_neg, iI_div, iI_rem, iI_lt, iI_le, iI_eq, b_eq0, b_eq1, Int.reduceAdd, Int.reduceMul, Int.reduceSub, Int.reduceNeg, Int.reduceDiv, Int.reduceMod, Nat.reduceAdd, Bool.false_eq_true, eq_self, ltT, ltF, leT, leF, eqT, eqF, true_and, and_true, false_and, and_false, and_self, or_true, true_or, or_false, false_or, ne_eq, not_true_eq_false, not_false_eq_true, if_true, if_false, ite_true, ite_false, ite_not, some_none, some_some, none_some, none_none, A_eq hA, li_0, li_1, li_2, li_3, li_4, li_5, li_6, li_7, li_8, li_9, li_10, li_11, li_12, li_13, li_14, li_15, li_16, li_17, li_18, li_19, li_20, li_21, li_22, li_23, li_24, li_25, li_26, li_27, li_28, li_29, li_30, li_31, li_32, li_63, li_64, li_99, li_100, li_128, li_240, li_256, li_512, li_960, li_1000, li_1022, li_1023, li_100000, li_m1, li_m1000, ↓r_v0 hA, ↓r_c0 hA, ↓r_0_0 hA, ↓r_0_1 hA, ↓r_0_2 hA, ↓r_0_3 hA, ↓r_0_4 hA, ↓r_0_5 hA, ↓r_0_6 hA, ↓r_0_7 hA, ↓r_0_8 hA, ↓r_0_9 hA, ↓r_v1 hA, ↓r_c1 hA, ↓r_1_0 hA, ↓r_1_1 hA, ↓r_1_2 hA, ↓r_1_3 hA, ↓r_1_4 hA, ↓r_v2 hA, ↓r_c2 hA, ↓r_2_0 hA, ↓r_2_1 hA, ↓r_2_2 hA, ↓r_v4 hA, ↓r_c4 hA, ↓r_4_0 hA, ↓r_v5 hA, ↓r_c5 hA, ↓r_5_0 hA, ↓r_5_1 hA, ↓r_5_2 hA, ↓r_5_3 hA, ↓r_5_4 hA, ↓r_5_5 hA, ↓r_5_6p hA, ↓r_5_6n hA, ↓r_5_7p hA, ↓r_5_7n hA, ↓r_5_8 hA, ↓r_5_9 hA, ↓r_5_10 hA, ↓r_5_11 hA, ↓r_5_12 hA, ↓r_5_13 hA, ↓r_5_14 hA, ↓r_5_15 hA, ↓r_5_16 hA, ↓r_5_17 hA, ↓r_v11 hA, ↓r_c11 hA, ↓r_11_0 hA, ↓r_11_1p hA, ↓r_11_2 hA, ↓r_v13 hA, ↓r_c13 hA, ↓r_13_0 hA, ↓r_13_1 hA, ↓r_13_2 hA, ↓r_13_3 hA, ↓r_13_4 hA, ↓r_13_5 hA, ↓r_v14 hA, ↓r_c14 hA, ↓r_14_0 hA, ↓r_v15 hA, ↓r_c15 hA, ↓r_15_0 hA, ↓r_15_1 hA, ↓r_v16 hA, ↓r_c16 hA, ↓r_16_0 hA, r_l3 hA, ↓r_l3 hA, ↓r_n3 hA, r_a3 hA, r_l10 hA, ↓r_l10 hA, ↓r_n10 hA, r_a10 hA, r_l20 hA, ↓r_l20 hA, ↓r_n20 hA, r_a20 hA, r_l6 hA, ↓r_l6 hA, ↓r_n6 hA, r_a6 hA, r_l7 hA, ↓r_l7 hA, ↓r_n7 hA, r_a7 hA, r_l8 hA, ↓r_l8 hA, ↓r_n8 hA, r_a8 hA, r_l9 hA, ↓r_l9 hA, ↓r_n9 hA, r_a9 hA, r_l18 hA, ↓r_l18 hA, ↓r_n18 hA, r_a18 hA, r_l19 hA, ↓r_l19 hA, ↓r_n19 hA, r_a19 hA, r_l21 hA, ↓r_l21 hA, ↓r_n21 hA, r_a21 hA, r_l22 hA, ↓r_l22 hA, ↓r_n22 hA, r_a22 hA, r_l23 hA, ↓r_l23 hA, ↓r_n23 hA, r_a23 hA, r_l24 hA, ↓r_l24 hA, ↓r_n24 hA, r_a24 hA, r_l25 hA, ↓r_l25 hA, ↓r_n25 hA, r_a25 hA, r_l17 hA, ↓r_l17 hA, ↓r_n17 hA, r_sz0 hA, r_gt0 hA, r_sz1 hA, r_gt1 hA, r_sz2 hA, r_gt2 hA, r_sz3 hA, r_gt3 hA, w_s6 hA, w_s7 hA, w_s8 hA, w_s9 hA, w_s18 hA, w_s19 hA, w_s21 hA, w_s22 hA, w_s23 hA, w_s24 hA, w_s25 hA, w_f11 hA, w_f12 hA, w_f13 hA, w_f16 hA, e1, e2, e3]
  · show L_X6_changeAmounts_2 _ _ _ _ (f + 1) (iI ((4 : Nat) : Int)) (Hc A P S (chK S K am l t ((4 : Nat) : Int)), z) = _
    rw [u_L_X6_changeAmounts_2]
    simp (disch := omega) only [↓reduceIte, ↓e_lets, ↓e_ite, ↓e_cal, e_cal2, e_cal3, e_thr, e_nthrow, e_rtn, e_r0, e_r1, e_dv, iI_add, iI_sub, iI_mul, iI_neg, iI_div, iI_rem, iI_lt, iI_le, iI_eq, b_eq0, b_eq1, Int.reduceAdd, Int.reduceMul, Int.reduceSub, Int.reduceNeg, Int.reduceDiv, Int.reduceMod, Nat.reduceAdd, Bool.false_eq_true, eq_self, ltT, ltF, leT, leF, eqT, eqF, true_and, and_true, false_and, and_false, and_self, or_true, true_or, or_false, false_or, ne_eq, not_true_eq_false, not_false_eq_true, if_true, if_false, ite_true, ite_false, ite_not, some_none, some_some, none_some, none_none, A_eq hA, li_0, li_1, li_2, li_3, li_4, li_5, li_6, li_7, li_8, li_9, li_10, li_11, li_12, li_13, li_14, li_15, li_16, li_17, li_18, li_19, li_20, li_21, li_22, li_23, li_24, li_25, li_26, li_27, li_28, li_29, li_30, li_31, li_32, li_63, li_64, li_99, li_100, li_128, li_240, li_256, li_512, li_960, li_1000, li_1022, li_1023, li_100000, li_m1, li_m1000, ↓r_v0 hA, ↓r_c0 hA, ↓r_0_0 hA, ↓r_0_1 hA, ↓r_0_2 hA, ↓r_0_3 hA, ↓r_0_4 hA, ↓r_0_5 hA, ↓r_0_6 hA, ↓r_0_7 hA, ↓r_0_8 hA, ↓r_0_9 hA, ↓r_v1 hA, ↓r_c1 hA, ↓r_1_0 hA, ↓r_1_1 hA, ↓r_1_2 hA, ↓r_1_3 hA, ↓r_1_4 hA, ↓r_v2 hA, ↓r_c2 hA, ↓r_2_0 hA, ↓r_2_1 hA, ↓r_2_2 hA, ↓r_v4 hA, ↓r_c4 hA, ↓r_4_0 hA, ↓r_v5 hA, ↓r_c5 hA, ↓r_5_0 hA, ↓r_5_1 hA, ↓r_5_2 hA, ↓r_5_3 hA, ↓r_5_4 hA, ↓r_5_5 hA, ↓r_5_6p hA, ↓r_5_6n hA, ↓r_5_7p hA, ↓r_5_7n hA, ↓r_5_8 hA, ↓r_5_9 hA, ↓r_5_10 hA, ↓r_5_11 hA, ↓r_5_12 hA, ↓r_5_13 hA, ↓r_5_14 hA, ↓r_5_15 hA, ↓r_5_16 hA, ↓r_5_17 hA, ↓r_v11 hA, ↓r_c11 hA, ↓r_11_0 hA, ↓r_11_1p hA, ↓r_11_2 hA, ↓r_v13 hA, ↓r_c13 hA, ↓r_13_0 hA, ↓r_13_1 hA, ↓r_13_2 hA, ↓r_13_3 hA, ↓r_13_4 hA, ↓r_13_5 hA, ↓r_v14 hA, ↓r_c14 hA, ↓r_14_0 hA, ↓r_v15 hA, ↓r_c15 hA, ↓r_15_0 hA, ↓r_15_1 hA, ↓r_v16 hA, ↓r_c16 hA, ↓r_16_0 hA, r_l3 hA, ↓r_l3 hA, ↓r_n3 hA, r_a3 hA, r_l10 hA, ↓r_l10 hA, ↓r_n10 hA, r_a10 hA, r_l20 hA, ↓r_l20 hA, ↓r_n20 hA, r_a20 hA, r_l6 hA, ↓r_l6 hA, ↓r_n6 hA, r_a6 hA, r_l7 hA, ↓r_l7 hA, ↓r_n7 hA, r_a7 hA, r_l8 hA, ↓r_l8 hA, ↓r_n8 hA, r_a8 hA, r_l9 hA, ↓r_l9 hA, ↓r_n9 hA, r_a9 hA, r_l18 hA, ↓r_l18 hA, ↓r_n18 hA, r_a18 hA, r_l19 hA, ↓r_l19 hA, ↓r_n19 hA, r_a19 hA, r_l21 hA, ↓r_l21 hA, ↓r_n21 hA, r_a21 hA, r_l22 hA, ↓r_l22 hA, ↓r_n22 hA, r_a22 hA, r_l23 hA, ↓r_l23 hA, ↓r_n23 hA, r_a23 hA, r_l24 hA, ↓r_l24 hA, ↓r_n24 hA, r_a24 hA, r_l25 hA, ↓r_l25 hA, ↓r_n25 hA, r_a25 hA, r_l17 hA, ↓r_l17 hA, ↓r_n17 hA, r_sz0 hA, r_gt0 hA, r_sz1 hA, r_gt1 hA, r_sz2 hA, r_gt2 hA, r_sz3 hA, r_gt3 hA, w_s6 hA, w_s7 hA, w_s8 hA, w_s9 hA, w_s18 hA, w_s19 hA, w_s21 hA, w_s22 hA, w_s23 hA, w_s24 hA, w_s25 hA, w_f11 hA, w_f12 hA, w_f13 hA, w_f16 hA]
    rfl
theorem e_changeAmounts0 {A : AA} {P : Hp} {S : SS} {K : KK} {z : Nat × Nat} (hA : GA A) (hb : Bn S) (hm : Bm S) (hv : Vl S) {l : Int} (l0 : 0 ≤ l) (l1 : l < S 20 4) (hp : S 14 l < 0) (t : Int) : f_X6_changeAmounts (A 13 0) (some (A 5 l)) (iI t) (Hc A P S K, z) = some (.ok (), (Hc A P S K, z)) := by
  have hm2 := hm
  unfold Bm at hm2
  have hl2 := hv l l0 l1
  have hl3 := hb l
  unfold f_X6_changeAmounts
  rw [e_lets, li_0, show (100000 : Nat) = 99999 + 1 by decide, u_L_X6_changeAmounts_2]
  simp (disch := omega) only [↓reduceIte, ↓e_lets, ↓e_ite, ↓e_cal, e_cal2, e_cal3, e_thr, e_nthrow, e_rtn, e_r0, e_r1, e_dv, iI_add, iI_sub, iI_mul, iI_neg, iI_div, iI_rem, iI_lt, iI_le, iI_eq, b_eq0, b_eq1, Int.reduceAdd, Int.reduceMul, Int.reduceSub, Int.reduceNeg, Int.reduceDiv, Int.reduceMod, Nat.reduceAdd, Bool.false_eq_true, eq_self, ltT, ltF, leT, leF, eqT, eqF, true_and, and_true, false_and, and_false, and_self, or_true, true_or, or_false, false_or, ne_eq, not_true_eq_false, not_false_eq_true, if_true, if_false, ite_true, ite_false, ite_not, some_none, some_some, none_some, none_none, A_eq hA, li_0, li_1, li_2, li_3, li_4, li_5, li_6, li_7, li_8, li_9, li_10, li_11, li_12, li_13, li_14, li_15, li_16, li_17, li_18, li_19, li_20, li_21, li_22, li_23, li_24, li_25, li_26, li_27, li_28, li_29, li_30, li_31, li_32, li_63, li_64, li_99, li_100, li_128, li_240, li_256, li_512, li_960, li_1000, li_1022, li_1023, li_100000, li_m1, li_m1000, ↓r_v0 hA, ↓r_c0 hA, ↓r_0_0 hA, ↓r_0_1 hA, ↓r_0_2 hA, ↓r_0_3 hA, ↓r_0_4 hA, ↓r_0_5 hA, ↓r_0_6 hA, ↓r_0_7 hA, ↓r_0_8 hA, ↓r_0_9 hA, ↓r_v1 hA, ↓r_c1 hA, ↓r_1_0 hA, ↓r_1_1 hA, ↓r_1_2 hA, ↓r_1_3 hA, ↓r_1_4 hA, ↓r_v2 hA, ↓r_c2 hA, ↓r_2_0 hA, ↓r_2_1 hA, ↓r_2_2 hA, ↓r_v4 hA, ↓r_c4 hA, ↓r_4_0 hA, ↓r_v5 hA, ↓r_c5 hA, ↓r_5_0 hA, ↓r_5_1 hA, ↓r_5_2 hA, ↓r_5_3 hA, ↓r_5_4 hA, ↓r_5_5 hA, ↓r_5_6p hA, ↓r_5_6n hA, ↓r_5_7p hA, ↓r_5_7n hA, ↓r_5_8 hA, ↓r_5_9 hA, ↓r_5_10 hA, ↓r_5_11 hA, ↓r_5_12 hA, ↓r_5_13 hA, ↓r_5_14 hA, ↓r_5_15 hA, ↓r_5_16 hA, ↓r_5_17 hA, ↓r_v11 hA, ↓r_c11 hA, ↓r_11_0 hA, ↓r_11_1p hA, ↓r_11_2 hA, ↓r_v13 hA, ↓r_c13 hA, ↓r_13_0 hA, ↓r_13_1 hA, ↓r_13_2 hA, ↓r_13_3 hA, ↓r_13_4 hA, ↓r_13_5 hA, ↓r_v14 hA, ↓r_c14 hA, ↓r_14_0 hA, ↓r_v15 hA, ↓r_c15 hA, ↓r_15_0 hA, ↓r_15_1 hA, ↓r_v16 hA, ↓r_c16 hA, ↓r_16_0 hA, r_l3 hA, ↓r_l3 hA, ↓r_n3 hA, r_a3 hA, r_l10 hA, ↓r_l10 hA, ↓r_n10 hA, r_a10 hA, r_l20 hA, ↓r_l20 hA, ↓r_n20 hA, r_a20 hA, r_l6 hA, ↓r_l6 hA, ↓r_n6 hA, r_a6 hA, r_l7 hA, ↓r_l7 hA, ↓r_n7 hA, r_a7 hA, r_l8 hA, ↓r_l8 hA, ↓r_n8 hA, r_a8 hA, r_l9 hA, ↓r_l9 hA, ↓r_n9 hA, r_a9 hA, r_l18 hA, ↓r_l18 hA, ↓r_n18 hA, r_a18 hA, r_l19 hA, ↓r_l19 hA, ↓r_n19 hA, r_a19 hA, r_l21 hA, ↓r_l21 hA, ↓r_n21 hA, r_a21 hA, r_l22 hA, ↓r_l22 hA, ↓r_n22 hA, r_a22 hA, r_l23 hA, ↓r_l23 hA, ↓r_n23 hA, r_a23 hA, r_l24 hA, ↓r_l24 hA, ↓r_n24 hA, r_a24 hA, r_l25 hA, ↓r_l25 hA, ↓r_n25 hA, r_a25 hA, r_l17 hA, ↓r_l17 hA, ↓r_n17 hA, r_sz0 hA, r_gt0 hA, r_sz1 hA, r_gt1 hA, r_sz2 hA, r_gt2 hA, r_sz3 hA, r_gt3 hA, w_s6 hA, w_s7 hA, w_s8 hA, w_s9 hA, w_s18 hA, w_s19 hA, w_s21 hA, w_s22 hA, w_s23 hA, w_s24 hA, w_s25 hA, w_f11 hA, w_f12 hA, w_f13 hA, w_f16 hA]
theorem cell_S14 {A : AA} {S : SS} {K : KK} {l x : Int} {k : Nat} {i : Int} (h : ¬ (k = 5 ∧ i = l)) : cell A (upS S 14 l x) K k i = cell A S K k i := by
  have e : ∀ f, f ≠ 14 → upS S 14 l x f = S f := fun f hf => upS_g hf
  have el : ∀ i, lcnt (upS S 14 l x) i = lcnt S i := fun i => by
    unfold lcnt
    rw [e 20 (by decide)]
  unfold cell
  split <;> simp only [cRoom, cTea, cLes, el, e 0 (by decide), e 1 (by decide), e 2 (by decide), e 3 (by decide), e 4 (by decide), e 5 (by decide), e 6 (by decide), e 7 (by decide), e 8 (by decide), e 9 (by decide), e 10 (by decide), e 11 (by decide), e 12 (by decide), e 13 (by decide), e 15 (by decide), e 16 (by decide), e 20 (by decide)]
  rw [upS_i (fun q => h ⟨rfl, q⟩)]
theorem numK_S {S S2 : SS} (h : S2 20 = S 20) (k : Nat) : numK S2 k = numK S k := by
  unfold numK
  split <;> simp only [h]
theorem live_S {S S2 : SS} (h : S2 20 = S 20) (k : Nat) (i : Int) : live S2 k i ↔ live S k i := by
  unfold live lcnt
  rw [numK_S h k]
  simp only [h]
theorem w_place {A : AA} {P : Hp} {S : SS} {K : KK} {z : Nat × Nat} (hA : GA A) {l : Int} (l0 : 0 ≤ l) (l1 : l < S 20 4) {s r : Int} (s0 : 0 ≤ s) (s1 : s < 30) (r0 : 0 ≤ r) (r1 : r < 8) {R : Type} {Kc : OO R} : pI (some (A 5 l)) 7 7 (iI s) (pR (some (A 5 l)) 7 6 (some (A 1 r)) Kc) (Hc A P S K, z) = Kc (Hc A P (upS S 14 l (8 * s + r)) K, z) := by
  have hl : live S 5 l := ⟨by decide, l0, l1, fun h => absurd h (by decide)⟩
  unfold pI pR
  rw [x_pV (hc_at hA hl) (show 7 < 18 by decide), x_pV hset_s (show 6 < _ by rw [List.length_set]; show 6 < 18; decide)]
  congr 2
  have e1 : ∀ (h : Hp) (a : Nat) (e1 e2 : Ce), hset (hset h a e1) a e2 = hset h a e2 := fun h a e1 e2 => by
    funext q
    unfold hset
    split <;> rfl
  rw [e1]
  refine hc_set hA hl (live_S (upS_g (by decide))) (fun k2 i2 _ _ hn => cell_S14 hn) ?_
  have e : ∀ f, f ≠ 14 → upS S 14 l (8 * s + r) f = S f := fun f hf => upS_g hf
  show aO 7 _ = aO 7 (cLes A (upS S 14 l (8 * s + r)) K l)
  congr 2
  simp only [cLes, upS_s, List.set_cons_zero, List.set_cons_succ, List.set, e 8 (by decide), e 9 (by decide), e 10 (by decide), e 11 (by decide), e 12 (by decide), e 13 (by decide)]
  rw [if_neg (show ¬ 8 * s + r < 0 by omega), if_neg (show ¬ 8 * s + r < 0 by omega), show (8 * s + r) % 8 = r by omega, show (8 * s + r) / 8 = s by omega]
theorem w_unplace {A : AA} {P : Hp} {S : SS} {K : KK} {z : Nat × Nat} (hA : GA A) {l : Int} (l0 : 0 ≤ l) (l1 : l < S 20 4) {R : Type} {Kc : OO R} : pI (some (A 5 l)) 7 7 (iI (-1)) (pR (some (A 5 l)) 7 6 none Kc) (Hc A P S K, z) = Kc (Hc A P (upS S 14 l (-1)) K, z) := by
  have hl : live S 5 l := ⟨by decide, l0, l1, fun h => absurd h (by decide)⟩
  unfold pI pR
  rw [x_pV (hc_at hA hl) (show 7 < 18 by decide), x_pV hset_s (show 6 < _ by rw [List.length_set]; show 6 < 18; decide)]
  congr 2
  have e1 : ∀ (h : Hp) (a : Nat) (e1 e2 : Ce), hset (hset h a e1) a e2 = hset h a e2 := fun h a e1 e2 => by
    funext q
    unfold hset
    split <;> rfl
  rw [e1]
  refine hc_set hA hl (live_S (upS_g (by decide))) (fun k2 i2 _ _ hn => cell_S14 hn) ?_
  have e : ∀ f, f ≠ 14 → upS S 14 l (-1) f = S f := fun f hf => upS_g hf
  show aO 7 _ = aO 7 (cLes A (upS S 14 l (-1)) K l)
  congr 2
  simp only [cLes, upS_s, List.set_cons_zero, List.set_cons_succ, List.set, e 8 (by decide), e 9 (by decide), e 10 (by decide), e 11 (by decide), e 12 (by decide), e 13 (by decide)]
  rfl
/-- a lesson's caches do not look at its own place -/
theorem pl_k {S : SS} {l x k : Int} (h : k ≠ l) : upS S 14 l x 14 k = S 14 k := upS_i h
theorem LAn_pl {S : SS} {K : KK} {l x : Int} {n : Nat} : LAn (upS S 14 l x) K l n ↔ LAn S K l n := by
  have e : ∀ f, f ≠ 14 → upS S 14 l x f = S f := fun f hf => upS_g hf
  have m : ∀ k : Int, k ≠ l → meM (upS S 14 l x) l k = meM S l k := fun k hk => by
    unfold meM
    rw [e 12 (by decide), pl_k hk]
  have t : ∀ k : Int, k ≠ l → tcM (upS S 14 l x) l k = tcM S l k := fun k hk => by
    unfold tcM
    rw [e 12 (by decide), pl_k hk]
  have h1 : teM (upS S 14 l x) l n = teM S l n := orN_c n (fun k _ => by
    rw [e 10 (by decide)]
    by_cases c : (k : Int) = l
    · rw [if_neg (fun q => q.1 c), if_neg (fun q => q.1 c)]
    · rw [pl_k c, m _ c])
  have h2 : grM (upS S 14 l x) l n = grM S l n := orN_c n (fun k _ => by
    rw [e 9 (by decide)]
    by_cases c : (k : Int) = l
    · rw [if_neg (fun q => q.1 c), if_neg (fun q => q.1 c)]
    · rw [pl_k c, m _ c])
  have h3 : ghM (upS S 14 l x) l n = ghM S l n := orN_c n (fun k _ => by
    rw [e 9 (by decide), e 12 (by decide)]
    by_cases c : (k : Int) = l
    · rw [if_neg (fun q => q.1 c), if_neg (fun q => q.1 c)]
    · rw [pl_k c])
  have h4 : ∀ r, roM (upS S 14 l x) l r n = roM S l r n := fun r => orN_c n (fun k _ => by
    by_cases c : (k : Int) = l
    · rw [if_neg (fun q => q.1 c), if_neg (fun q => q.1 c)]
    · rw [pl_k c, m _ c])
  have h5 : ∀ r, waM (upS S 14 l x) l r n = waM S l r n := fun r => orN_c n (fun k _ => by
    rw [e 9 (by decide), e 10 (by decide), e 0 (by decide)]
    by_cases c : (k : Int) = l
    · rw [if_neg (fun q => q.1 c), if_neg (fun q => q.1 c)]
    · rw [pl_k c, t _ c])
  have h6 : ∀ d, maN (upS S 14 l x) l d n = maN S l d n := fun d => sumN_c n (fun k _ => by
    rw [e 9 (by decide), e 13 (by decide)]
    by_cases c : (k : Int) = l
    · rw [if_neg (fun q => q.1 c), if_neg (fun q => q.1 c)]
    · rw [pl_k c])
  unfold LAn
  rw [h1, h2, h3, e 20 (by decide)]
  simp only [h4, h5, h6]
theorem adI_pl {S : SS} {l x p s : Int} : adI (upS S 14 l x) l p s = adI S l p s := by
  have e : ∀ f, f ≠ 14 → upS S 14 l x f = S f := fun f hf => upS_g hf
  have h3 : ∀ n, ghM (upS S 14 l x) l n = ghM S l n := fun n => orN_c n (fun k _ => by
    rw [e 9 (by decide), e 12 (by decide)]
    by_cases c : (k : Int) = l
    · rw [if_neg (fun q => q.1 c), if_neg (fun q => q.1 c)]
    · rw [pl_k c])
  have h6 : ∀ d n, maN (upS S 14 l x) l d n = maN S l d n := fun d n => sumN_c n (fun k _ => by
    rw [e 9 (by decide), e 13 (by decide)]
    by_cases c : (k : Int) = l
    · rw [if_neg (fun q => q.1 c), if_neg (fun q => q.1 c)]
    · rw [pl_k c])
  unfold adI wiN
  rw [h3, h6, e 20 (by decide), e 12 (by decide), e 4 (by decide), e 10 (by decide), e 6 (by decide)]
theorem adC_pl {S : SS} {l x s : Int} : adC (upS S 14 l x) l s = adC S l s := by
  unfold adC
  refine sumN_c 4 (fun k _ => ?_)
  rw [adI_pl, upS_g (show 15 ≠ 14 by decide)]
/-- the validity of a school with a lesson at another place -/
theorem Bn_pl {S : SS} {l x : Int} (hb : Bn S) (h0 : -1 ≤ x) (h1 : x < 240) : Bn (upS S 14 l x) := by
  have e : ∀ f, f ≠ 14 → upS S 14 l x f = S f := fun f hf => upS_g hf
  intro i
  have h := hb i
  rw [e 0 (by decide), e 1 (by decide), e 2 (by decide), e 3 (by decide), e 4 (by decide), e 5 (by decide), e 6 (by decide), e 7 (by decide), e 8 (by decide), e 9 (by decide), e 10 (by decide), e 11 (by decide), e 12 (by decide), e 13 (by decide), e 15 (by decide), e 16 (by decide)]
  by_cases c : i = l
  · subst c
    rw [upS_s]
    omega
  · rw [upS_i c]
    omega
theorem Bm_S {S S2 : SS} (h : S2 20 = S 20) (hm : Bm S) : Bm S2 := by
  unfold Bm at *
  rw [h]
  exact hm
theorem Vl_pl {S : SS} {l x : Int} (hv : Vl S) (hx : 0 ≤ x → x % 8 < S 20 1 ∧ x / 8 % 6 + S 12 l ≤ 6) : Vl (upS S 14 l x) := by
  have e : ∀ f, f ≠ 14 → upS S 14 l x f = S f := fun f hf => upS_g hf
  intro i h0 h1
  rw [e 20 (by decide)] at h1
  have h := hv i h0 h1
  rw [e 9 (by decide), e 10 (by decide), e 12 (by decide), e 20 (by decide)]
  by_cases c : i = l
  · subst c
    rw [upS_s]
    exact ⟨h.1, h.2.1, h.2.2.1, hx⟩
  · rw [upS_i c]
    exact h
theorem pl_same {S : SS} {l x : Int} (h : S 14 l = x) : upS S 14 l x = S := by
  funext f i
  unfold upS
  split
  · rename_i c
    rw [c.1, c.2, h]
  · rfl
theorem pl_pl {S : SS} {l x y : Int} : upS (upS S 14 l x) 14 l y = upS S 14 l y := by
  funext f i
  unfold upS
  split <;> rfl
theorem e_take1 {A : AA} {P : Hp} {S : SS} {K : KK} {z : Nat × Nat} (hA : GA A) (hb : Bn S) (hm : Bm S) (hv : Vl S) {l : Int} (l0 : 0 ≤ l) (l1 : l < S 20 4) (hp : 0 ≤ S 14 l) {am : Int → Int} (ha : AmI K am) : ∃ K2, f_X6_take (A 13 0) (some (A 5 l)) (Hc A P S K, z) = some (.ok (), (Hc A P (upS S 14 l (-1)) K2, z)) ∧ KX K K2 ∧ AmI K2 (fun p => am p - adI S l p (S 14 l / 8)) := by
  have hm2 := hm
  unfold Bm at hm2
  have hl2 := hv l l0 l1
  have hl3 := hb l
  obtain ⟨K1, e1, h1, h2, h3⟩ := e_lookAround (P := P) (K := K) (z := z) hA hb hm hv l0 l1
  have e2 := e_changeAmounts1 (P := P) (K := K1) (z := z) hA hb hm hv l0 l1 hp h2 (h1.am ha) (-1)
  refine ⟨chK S K1 am l (-1) 4, ?_, h1.x.tr (fun k i j _ h => chK_k h), fun p p0 p1 => ?_⟩
  · unfold f_X6_take
    simp (disch := omega) only [↓reduceIte, ↓e_lets, ↓e_ite, ↓e_cal, e_cal2, e_cal3, e_thr, e_nthrow, e_rtn, e_r0, e_r1, e_dv, iI_add, iI_sub, iI_mul, iI_neg, iI_div, iI_rem, iI_lt, iI_le, iI_eq, b_eq0, b_eq1, Int.reduceAdd, Int.reduceMul, Int.reduceSub, Int.reduceNeg, Int.reduceDiv, Int.reduceMod, Nat.reduceAdd, Bool.false_eq_true, eq_self, ltT, ltF, leT, leF, eqT, eqF, true_and, and_true, false_and, and_false, and_self, or_true, true_or, or_false, false_or, ne_eq, not_true_eq_false, not_false_eq_true, if_true, if_false, ite_true, ite_false, ite_not, some_none, some_some, none_some, none_none, A_eq hA, li_0, li_1, li_2, li_3, li_4, li_5, li_6, li_7, li_8, li_9, li_10, li_11, li_12, li_13, li_14, li_15, li_16, li_17, li_18, li_19, li_20, li_21, li_22, li_23, li_24, li_25, li_26, li_27, li_28, li_29, li_30, li_31, li_32, li_63, li_64, li_99, li_100, li_128, li_240, li_256, li_512, li_960, li_1000, li_1022, li_1023, li_100000, li_m1, li_m1000, ↓r_v0 hA, ↓r_c0 hA, ↓r_0_0 hA, ↓r_0_1 hA, ↓r_0_2 hA, ↓r_0_3 hA, ↓r_0_4 hA, ↓r_0_5 hA, ↓r_0_6 hA, ↓r_0_7 hA, ↓r_0_8 hA, ↓r_0_9 hA, ↓r_v1 hA, ↓r_c1 hA, ↓r_1_0 hA, ↓r_1_1 hA, ↓r_1_2 hA, ↓r_1_3 hA, ↓r_1_4 hA, ↓r_v2 hA, ↓r_c2 hA, ↓r_2_0 hA, ↓r_2_1 hA, ↓r_2_2 hA, ↓r_v4 hA, ↓r_c4 hA, ↓r_4_0 hA, ↓r_v5 hA, ↓r_c5 hA, ↓r_5_0 hA, ↓r_5_1 hA, ↓r_5_2 hA, ↓r_5_3 hA, ↓r_5_4 hA, ↓r_5_5 hA, ↓r_5_6p hA, ↓r_5_6n hA, ↓r_5_7p hA, ↓r_5_7n hA, ↓r_5_8 hA, ↓r_5_9 hA, ↓r_5_10 hA, ↓r_5_11 hA, ↓r_5_12 hA, ↓r_5_13 hA, ↓r_5_14 hA, ↓r_5_15 hA, ↓r_5_16 hA, ↓r_5_17 hA, ↓r_v11 hA, ↓r_c11 hA, ↓r_11_0 hA, ↓r_11_1p hA, ↓r_11_2 hA, ↓r_v13 hA, ↓r_c13 hA, ↓r_13_0 hA, ↓r_13_1 hA, ↓r_13_2 hA, ↓r_13_3 hA, ↓r_13_4 hA, ↓r_13_5 hA, ↓r_v14 hA, ↓r_c14 hA, ↓r_14_0 hA, ↓r_v15 hA, ↓r_c15 hA, ↓r_15_0 hA, ↓r_15_1 hA, ↓r_v16 hA, ↓r_c16 hA, ↓r_16_0 hA, r_l3 hA, ↓r_l3 hA, ↓r_n3 hA, r_a3 hA, r_l10 hA, ↓r_l10 hA, ↓r_n10 hA, r_a10 hA, r_l20 hA, ↓r_l20 hA, ↓r_n20 hA, r_a20 hA, r_l6 hA, ↓r_l6 hA, ↓r_n6 hA, r_a6 hA, r_l7 hA, ↓r_l7 hA, ↓r_n7 hA, r_a7 hA, r_l8 hA, ↓r_l8 hA, ↓r_n8 hA, r_a8 hA, r_l9 hA, ↓r_l9 hA, ↓r_n9 hA, r_a9 hA, r_l18 hA, ↓r_l18 hA, ↓r_n18 hA, r_a18 hA, r_l19 hA, ↓r_l19 hA, ↓r_n19 hA, r_a19 hA, r_l21 hA, ↓r_l21 hA, ↓r_n21 hA, r_a21 hA, r_l22 hA, ↓r_l22 hA, ↓r_n22 hA, r_a22 hA, r_l23 hA, ↓r_l23 hA, ↓r_n23 hA, r_a23 hA, r_l24 hA, ↓r_l24 hA, ↓r_n24 hA, r_a24 hA, r_l25 hA, ↓r_l25 hA, ↓r_n25 hA, r_a25 hA, r_l17 hA, ↓r_l17 hA, ↓r_n17 hA, r_sz0 hA, r_gt0 hA, r_sz1 hA, r_gt1 hA, r_sz2 hA, r_gt2 hA, r_sz3 hA, r_gt3 hA, w_s6 hA, w_s7 hA, w_s8 hA, w_s9 hA, w_s18 hA, w_s19 hA, w_s21 hA, w_s22 hA, w_s23 hA, w_s24 hA, w_s25 hA, w_f11 hA, w_f12 hA, w_f13 hA, w_f16 hA, e1, e2, ↓w_unplace hA l0 l1]
  · unfold chK
    rw [rwK_s p0 p1]
    dsimp only
    congr 1
    omega
theorem e_take0 {A : AA} {P : Hp} {S : SS} {K : KK} {z : Nat × Nat} (hA : GA A) (hb : Bn S) (hm : Bm S) (hv : Vl S) {l : Int} (l0 : 0 ≤ l) (l1 : l < S 20 4) (hp : S 14 l < 0) : ∃ K2, f_X6_take (A 13 0) (some (A 5 l)) (Hc A P S K, z) = some (.ok (), (Hc A P S K2, z)) ∧ KE K K2 := by
  have hm2 := hm
  unfold Bm at hm2
  have hl2 := hv l l0 l1
  have hl3 := hb l
  obtain ⟨K1, e1, h1, h2, h3⟩ := e_lookAround (P := P) (K := K) (z := z) hA hb hm hv l0 l1
  have e2 := e_changeAmounts0 (P := P) (K := K1) (z := z) hA hb hm hv l0 l1 hp (-1)
  have e3 : upS S 14 l (-1) = S := pl_same (by omega)
  refine ⟨K1, ?_, h1⟩
  unfold f_X6_take
  simp (disch := omega) only [↓reduceIte, ↓e_lets, ↓e_ite, ↓e_cal, e_cal2, e_cal3, e_thr, e_nthrow, e_rtn, e_r0, e_r1, e_dv, iI_add, iI_sub, iI_mul, iI_neg, iI_div, iI_rem, iI_lt, iI_le, iI_eq, b_eq0, b_eq1, Int.reduceAdd, Int.reduceMul, Int.reduceSub, Int.reduceNeg, Int.reduceDiv, Int.reduceMod, Nat.reduceAdd, Bool.false_eq_true, eq_self, ltT, ltF, leT, leF, eqT, eqF, true_and, and_true, false_and, and_false, and_self, or_true, true_or, or_false, false_or, ne_eq, not_true_eq_false, not_false_eq_true, if_true, if_false, ite_true, ite_false, ite_not, some_none, some_some, none_some, none_none, A_eq hA, li_0, li_1, li_2, li_3, li_4, li_5, li_6, li_7, li_8, li_9, li_10, li_11, li_12, li_13, li_14, li_15, li_16, li_17, li_18, li_19, li_20, li_21, li_22, li_23, li_24, li_25, li_26, li_27, li_28, li_29, li_30, li_31, li_32, li_63, li_64, li_99, li_100, li_128, li_240, li_256, li_512, li_960, li_1000, li_1022, li_1023, li_100000, li_m1, li_m1000, ↓r_v0 hA, ↓r_c0 hA, ↓r_0_0 hA, ↓r_0_1 hA, ↓r_0_2 hA, ↓r_0_3 hA, ↓r_0_4 hA, ↓r_0_5 hA, ↓r_0_6 hA, ↓r_0_7 hA, ↓r_0_8 hA, ↓r_0_9 hA, ↓r_v1 hA, ↓r_c1 hA, ↓r_1_0 hA, ↓r_1_1 hA, ↓r_1_2 hA, ↓r_1_3 hA, ↓r_1_4 hA, ↓r_v2 hA, ↓r_c2 hA, ↓r_2_0 hA, ↓r_2_1 hA, ↓r_2_2 hA, ↓r_v4 hA, ↓r_c4 hA, ↓r_4_0 hA, ↓r_v5 hA, ↓r_c5 hA, ↓r_5_0 hA, ↓r_5_1 hA, ↓r_5_2 hA, ↓r_5_3 hA, ↓r_5_4 hA, ↓r_5_5 hA, ↓r_5_6p hA, ↓r_5_6n hA, ↓r_5_7p hA, ↓r_5_7n hA, ↓r_5_8 hA, ↓r_5_9 hA, ↓r_5_10 hA, ↓r_5_11 hA, ↓r_5_12 hA, ↓r_5_13 hA, ↓r_5_14 hA, ↓r_5_15 hA, ↓r_5_16 hA, ↓r_5_17 hA, ↓r_v11 hA, ↓r_c11 hA, ↓r_11_0 hA, ↓r_11_1p hA, ↓r_11_2 hA, ↓r_v13 hA, ↓r_c13 hA, ↓r_13_0 hA, ↓r_13_1 hA, ↓r_13_2 hA, ↓r_13_3 hA, ↓r_13_4 hA, ↓r_13_5 hA, ↓r_v14 hA, ↓r_c14 hA, ↓r_14_0 hA, ↓r_v15 hA, ↓r_c15 hA, ↓r_15_0 hA, ↓r_15_1 hA, ↓r_v16 hA, ↓r_c16 hA, ↓r_16_0 hA, r_l3 hA, ↓r_l3 hA, ↓r_n3 hA, r_a3 hA, r_l10 hA, ↓r_l10 hA, ↓r_n10 hA, r_a10 hA, r_l20 hA, ↓r_l20 hA, ↓r_n20 hA, r_a20 hA, r_l6 hA, ↓r_l6 hA, ↓r_n6 hA, r_a6 hA, r_l7 hA, ↓r_l7 hA, ↓r_n7 hA, r_a7 hA, r_l8 hA, ↓r_l8 hA, ↓r_n8 hA, r_a8 hA, r_l9 hA, ↓r_l9 hA, ↓r_n9 hA, r_a9 hA, r_l18 hA, ↓r_l18 hA, ↓r_n18 hA, r_a18 hA, r_l19 hA, ↓r_l19 hA, ↓r_n19 hA, r_a19 hA, r_l21 hA, ↓r_l21 hA, ↓r_n21 hA, r_a21 hA, r_l22 hA, ↓r_l22 hA, ↓r_n22 hA, r_a22 hA, r_l23 hA, ↓r_l23 hA, ↓r_n23 hA, r_a23 hA, r_l24 hA, ↓r_l24 hA, ↓r_n24 hA, r_a24 hA, r_l25 hA, ↓r_l25 hA, ↓r_n25 hA, r_a25 hA, r_l17 hA, ↓r_l17 hA, ↓r_n17 hA, r_sz0 hA, r_gt0 hA, r_sz1 hA, r_gt1 hA, r_sz2 hA, r_gt2 hA, r_sz3 hA, r_gt3 hA, w_s6 hA, w_s7 hA, w_s8 hA, w_s9 hA, w_s18 hA, w_s19 hA, w_s21 hA, w_s22 hA, w_s23 hA, w_s24 hA, w_s25 hA, w_f11 hA, w_f12 hA, w_f13 hA, w_f16 hA, e1, e2, ↓w_unplace hA l0 l1, e3]
theorem e_put {A : AA} {P : Hp} {S : SS} {K : KK} {z : Nat × Nat} (hA : GA A) (hb : Bn S) (hm : Bm S) (hv : Vl S) {l : Int} (l0 : 0 ≤ l) (l1 : l < S 20 4) {r : Int} (r0 : 0 ≤ r) (r1 : r < S 20 1) {s : Int} (s0 : 0 ≤ s) (s1 : s < 30) (hf : s % 6 + S 12 l ≤ 6) {am : Int → Int} (ha : AmI K am) : ∃ K2, f_X6_put (A 13 0) (some (A 5 l)) (iI s) (some (A 1 r)) (Hc A P S K, z) = some (.ok (), (Hc A P (upS S 14 l (8 * s + r)) K2, z)) ∧ KX K K2 ∧ AmI K2 (fun p => am p - (if 0 ≤ S 14 l then adI S l p (S 14 l / 8) else 0) + adI S l p s) := by
  have hm2 := hm
  unfold Bm at hm2
  have hl2 := hv l l0 l1
  have hl3 := hb l
  obtain ⟨K1, e1, h1, h2, h3⟩ := e_lookAround (P := P) (K := K) (z := z) hA hb hm hv l0 l1
  have hb2 : Bn (upS S 14 l (8 * s + r)) := Bn_pl hb (by omega) (by omega)
  have hm3 : Bm (upS S 14 l (8 * s + r)) := Bm_S (upS_g (by decide)) hm
  have hv2 : Vl (upS S 14 l (8 * s + r)) := Vl_pl hv (fun _ => by rw [show (8 * s + r) % 8 = r by omega, show (8 * s + r) / 8 = s by omega]; omega)
  have e20 : upS S 14 l (8 * s + r) 20 = S 20 := upS_g (by decide)
  have l2 : l < upS S 14 l (8 * s + r) 20 4 := by rw [e20]; exact l1
  by_cases c : 0 ≤ S 14 l
  · have e2 := e_changeAmounts1 (P := P) (K := K1) (z := z) hA hb hm hv l0 l1 c h2 (h1.am ha) (-1)
    have ha2 : AmI (chK S K1 am l (-1) 4) (fun p => am p - adI S l p (S 14 l / 8)) := fun p p0 p1 => by
      unfold chK
      rw [rwK_s p0 p1]
      dsimp only
      congr 1
      omega
    have h4 : LAn (upS S 14 l (8 * s + r)) (chK S K1 am l (-1) 4) l (upS S 14 l (8 * s + r) 20 4).toNat := by
      rw [LAn_pl, e20]
      exact LAn_k (fun k i j h => chK_k h) h2
    have e4 := e_changeAmounts1 (P := P) (K := chK S K1 am l (-1) 4) (z := z) hA hb2 hm3 hv2 l0 l2 (by rw [upS_s]; omega) h4 ha2 1
    refine ⟨chK (upS S 14 l (8 * s + r)) (chK S K1 am l (-1) 4) (fun p => am p - adI S l p (S 14 l / 8)) l 1 4, ?_, (h1.x.tr (fun k i j _ h => chK_k h)).tr (fun k i j _ h => chK_k h), fun p p0 p1 => ?_⟩
    · unfold f_X6_put
      simp (disch := omega) only [↓reduceIte, ↓e_lets, ↓e_ite, ↓e_cal, e_cal2, e_cal3, e_thr, e_nthrow, e_rtn, e_r0, e_r1, e_dv, iI_add, iI_sub, iI_mul, iI_neg, iI_div, iI_rem, iI_lt, iI_le, iI_eq, b_eq0, b_eq1, Int.reduceAdd, Int.reduceMul, Int.reduceSub, Int.reduceNeg, Int.reduceDiv, Int.reduceMod, Nat.reduceAdd, Bool.false_eq_true, eq_self, ltT, ltF, leT, leF, eqT, eqF, true_and, and_true, false_and, and_false, and_self, or_true, true_or, or_false, false_or, ne_eq, not_true_eq_false, not_false_eq_true, if_true, if_false, ite_true, ite_false, ite_not, some_none, some_some, none_some, none_none, A_eq hA, li_0, li_1, li_2, li_3, li_4, li_5, li_6, li_7, li_8, li_9, li_10, li_11, li_12, li_13, li_14, li_15, li_16, li_17, li_18, li_19, li_20, li_21, li_22, li_23, li_24, li_25, li_26, li_27, li_28, li_29, li_30, li_31, li_32, li_63, li_64, li_99, li_100, li_128, li_240, li_256, li_512, li_960, li_1000, li_1022, li_1023, li_100000, li_m1, li_m1000, ↓r_v0 hA, ↓r_c0 hA, ↓r_0_0 hA, ↓r_0_1 hA, ↓r_0_2 hA, ↓r_0_3 hA, ↓r_0_4 hA, ↓r_0_5 hA, ↓r_0_6 hA, ↓r_0_7 hA, ↓r_0_8 hA, ↓r_0_9 hA, ↓r_v1 hA, ↓r_c1 hA, ↓r_1_0 hA, ↓r_1_1 hA, ↓r_1_2 hA, ↓r_1_3 hA, ↓r_1_4 hA, ↓r_v2 hA, ↓r_c2 hA, ↓r_2_0 hA, ↓r_2_1 hA, ↓r_2_2 hA, ↓r_v4 hA, ↓r_c4 hA, ↓r_4_0 hA, ↓r_v5 hA, ↓r_c5 hA, ↓r_5_0 hA, ↓r_5_1 hA, ↓r_5_2 hA, ↓r_5_3 hA, ↓r_5_4 hA, ↓r_5_5 hA, ↓r_5_6p hA, ↓r_5_6n hA, ↓r_5_7p hA, ↓r_5_7n hA, ↓r_5_8 hA, ↓r_5_9 hA, ↓r_5_10 hA, ↓r_5_11 hA, ↓r_5_12 hA, ↓r_5_13 hA, ↓r_5_14 hA, ↓r_5_15 hA, ↓r_5_16 hA, ↓r_5_17 hA, ↓r_v11 hA, ↓r_c11 hA, ↓r_11_0 hA, ↓r_11_1p hA, ↓r_11_2 hA, ↓r_v13 hA, ↓r_c13 hA, ↓r_13_0 hA, ↓r_13_1 hA, ↓r_13_2 hA, ↓r_13_3 hA, ↓r_13_4 hA, ↓r_13_5 hA, ↓r_v14 hA, ↓r_c14 hA, ↓r_14_0 hA, ↓r_v15 hA, ↓r_c15 hA, ↓r_15_0 hA, ↓r_15_1 hA, ↓r_v16 hA, ↓r_c16 hA, ↓r_16_0 hA, r_l3 hA, ↓r_l3 hA, ↓r_n3 hA, r_a3 hA, r_l10 hA, ↓r_l10 hA, ↓r_n10 hA, r_a10 hA, r_l20 hA, ↓r_l20 hA, ↓r_n20 hA, r_a20 hA, r_l6 hA, ↓r_l6 hA, ↓r_n6 hA, r_a6 hA, r_l7 hA, ↓r_l7 hA, ↓r_n7 hA, r_a7 hA, r_l8 hA, ↓r_l8 hA, ↓r_n8 hA, r_a8 hA, r_l9 hA, ↓r_l9 hA, ↓r_n9 hA, r_a9 hA, r_l18 hA, ↓r_l18 hA, ↓r_n18 hA, r_a18 hA, r_l19 hA, ↓r_l19 hA, ↓r_n19 hA, r_a19 hA, r_l21 hA, ↓r_l21 hA, ↓r_n21 hA, r_a21 hA, r_l22 hA, ↓r_l22 hA, ↓r_n22 hA, r_a22 hA, r_l23 hA, ↓r_l23 hA, ↓r_n23 hA, r_a23 hA, r_l24 hA, ↓r_l24 hA, ↓r_n24 hA, r_a24 hA, r_l25 hA, ↓r_l25 hA, ↓r_n25 hA, r_a25 hA, r_l17 hA, ↓r_l17 hA, ↓r_n17 hA, r_sz0 hA, r_gt0 hA, r_sz1 hA, r_gt1 hA, r_sz2 hA, r_gt2 hA, r_sz3 hA, r_gt3 hA, w_s6 hA, w_s7 hA, w_s8 hA, w_s9 hA, w_s18 hA, w_s19 hA, w_s21 hA, w_s22 hA, w_s23 hA, w_s24 hA, w_s25 hA, w_f11 hA, w_f12 hA, w_f13 hA, w_f16 hA, e1, e2, e4, ↓w_place hA l0 l1]
    · unfold chK
      rw [rwK_s p0 p1, upS_s]
      dsimp only
      rw [adI_pl, if_pos c, show (8 * s + r) / 8 = s by omega]
      congr 1
      omega
  · have e2 := e_changeAmounts0 (P := P) (K := K1) (z := z) hA hb hm hv l0 l1 (by omega) (-1)
    have h4 : LAn (upS S 14 l (8 * s + r)) K1 l (upS S 14 l (8 * s + r) 20 4).toNat := by
      rw [LAn_pl, e20]
      exact h2
    have e4 := e_changeAmounts1 (P := P) (K := K1) (z := z) hA hb2 hm3 hv2 l0 l2 (by rw [upS_s]; omega) h4 (h1.am ha) 1
    refine ⟨chK (upS S 14 l (8 * s + r)) K1 am l 1 4, ?_, h1.x.tr (fun k i j _ h => chK_k h), fun p p0 p1 => ?_⟩
    · unfold f_X6_put
      simp (disch := omega) only [↓reduceIte, ↓e_lets, ↓e_ite, ↓e_cal, e_cal2, e_cal3, e_thr, e_nthrow, e_rtn, e_r0, e_r1, e_dv, iI_add, iI_sub, iI_mul, iI_neg, iI_div, iI_rem, iI_lt, iI_le, iI_eq, b_eq0, b_eq1, Int.reduceAdd, Int.reduceMul, Int.reduceSub, Int.reduceNeg, Int.reduceDiv, Int.reduceMod, Nat.reduceAdd, Bool.false_eq_true, eq_self, ltT, ltF, leT, leF, eqT, eqF, true_and, and_true, false_and, and_false, and_self, or_true, true_or, or_false, false_or, ne_eq, not_true_eq_false, not_false_eq_true, if_true, if_false, ite_true, ite_false, ite_not, some_none, some_some, none_some, none_none, A_eq hA, li_0, li_1, li_2, li_3, li_4, li_5, li_6, li_7, li_8, li_9, li_10, li_11, li_12, li_13, li_14, li_15, li_16, li_17, li_18, li_19, li_20, li_21, li_22, li_23, li_24, li_25, li_26, li_27, li_28, li_29, li_30, li_31, li_32, li_63, li_64, li_99, li_100, li_128, li_240, li_256, li_512, li_960, li_1000, li_1022, li_1023, li_100000, li_m1, li_m1000, ↓r_v0 hA, ↓r_c0 hA, ↓r_0_0 hA, ↓r_0_1 hA, ↓r_0_2 hA, ↓r_0_3 hA, ↓r_0_4 hA, ↓r_0_5 hA, ↓r_0_6 hA, ↓r_0_7 hA, ↓r_0_8 hA, ↓r_0_9 hA, ↓r_v1 hA, ↓r_c1 hA, ↓r_1_0 hA, ↓r_1_1 hA, ↓r_1_2 hA, ↓r_1_3 hA, ↓r_1_4 hA, ↓r_v2 hA, ↓r_c2 hA, ↓r_2_0 hA, ↓r_2_1 hA, ↓r_2_2 hA, ↓r_v4 hA, ↓r_c4 hA, ↓r_4_0 hA, ↓r_v5 hA, ↓r_c5 hA, ↓r_5_0 hA, ↓r_5_1 hA, ↓r_5_2 hA, ↓r_5_3 hA, ↓r_5_4 hA, ↓r_5_5 hA, ↓r_5_6p hA, ↓r_5_6n hA, ↓r_5_7p hA, ↓r_5_7n hA, ↓r_5_8 hA, ↓r_5_9 hA, ↓r_5_10 hA, ↓r_5_11 hA, ↓r_5_12 hA, ↓r_5_13 hA, ↓r_5_14 hA, ↓r_5_15 hA, ↓r_5_16 hA, ↓r_5_17 hA, ↓r_v11 hA, ↓r_c11 hA, ↓r_11_0 hA, ↓r_11_1p hA, ↓r_11_2 hA, ↓r_v13 hA, ↓r_c13 hA, ↓r_13_0 hA, ↓r_13_1 hA, ↓r_13_2 hA, ↓r_13_3 hA, ↓r_13_4 hA, ↓r_13_5 hA, ↓r_v14 hA, ↓r_c14 hA, ↓r_14_0 hA, ↓r_v15 hA, ↓r_c15 hA, ↓r_15_0 hA, ↓r_15_1 hA, ↓r_v16 hA, ↓r_c16 hA, ↓r_16_0 hA, r_l3 hA, ↓r_l3 hA, ↓r_n3 hA, r_a3 hA, r_l10 hA, ↓r_l10 hA, ↓r_n10 hA, r_a10 hA, r_l20 hA, ↓r_l20 hA, ↓r_n20 hA, r_a20 hA, r_l6 hA, ↓r_l6 hA, ↓r_n6 hA, r_a6 hA, r_l7 hA, ↓r_l7 hA, ↓r_n7 hA, r_a7 hA, r_l8 hA, ↓r_l8 hA, ↓r_n8 hA, r_a8 hA, r_l9 hA, ↓r_l9 hA, ↓r_n9 hA, r_a9 hA, r_l18 hA, ↓r_l18 hA, ↓r_n18 hA, r_a18 hA, r_l19 hA, ↓r_l19 hA, ↓r_n19 hA, r_a19 hA, r_l21 hA, ↓r_l21 hA, ↓r_n21 hA, r_a21 hA, r_l22 hA, ↓r_l22 hA, ↓r_n22 hA, r_a22 hA, r_l23 hA, ↓r_l23 hA, ↓r_n23 hA, r_a23 hA, r_l24 hA, ↓r_l24 hA, ↓r_n24 hA, r_a24 hA, r_l25 hA, ↓r_l25 hA, ↓r_n25 hA, r_a25 hA, r_l17 hA, ↓r_l17 hA, ↓r_n17 hA, r_sz0 hA, r_gt0 hA, r_sz1 hA, r_gt1 hA, r_sz2 hA, r_gt2 hA, r_sz3 hA, r_gt3 hA, w_s6 hA, w_s7 hA, w_s8 hA, w_s9 hA, w_s18 hA, w_s19 hA, w_s21 hA, w_s22 hA, w_s23 hA, w_s24 hA, w_s25 hA, w_f11 hA, w_f12 hA, w_f13 hA, w_f16 hA, e1, e2, e4, ↓w_place hA l0 l1]
    · unfold chK
      rw [rwK_s p0 p1, upS_s]
      dsimp only
      rw [adI_pl, if_neg c, show (8 * s + r) / 8 = s by omega]
      congr 1
      omega
