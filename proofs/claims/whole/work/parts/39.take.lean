/-! PURE LAYER: the amounts of a table; sets of lessons taken; repairs (class) -/
def VS (S : SS) : Prop := Bn S ∧ Bm S ∧ Vl S
def CI (S : SS) (K : KK) : Prop := AmI K (amt S)
theorem amt_pl {S : SS} (hV : VS S) {l s r p : Int} (l0 : 0 ≤ l) (l1 : l < S 20 4) (s0 : 0 ≤ s) (s1 : s < 30) (hf : s % 6 + S 12 l ≤ 6) (r0 : 0 ≤ r) (r1 : r < 8) (p0 : 0 ≤ p) (p1 : p < 4) : amt (upS S 14 l (8 * s + r)) p = amt (upS S 14 l (-1)) p + adI S l p s := amt_plT hV.1 hV.2.2 l0 l1 s0 s1 hf r0 r1
theorem VS_pl {S : SS} {l x : Int} (h : VS S) (h0 : -1 ≤ x) (h1 : x < 240) (hx : 0 ≤ x → x % 8 < S 20 1 ∧ x / 8 % 6 + S 12 l ≤ 6) : VS (upS S 14 l x) := ⟨Bn_pl h.1 h0 h1, Bm_S (upS_g (by decide)) h.2.1, Vl_pl h.2.2 hx⟩
theorem CI_KE {S : SS} {K K2 : KK} (h : KE K K2) (hC : CI S K) : CI S K2 := h.am hC
theorem e_tk {A : AA} {P : Hp} {S : SS} {K : KK} {z : Nat × Nat} (hA : GA A) (hV : VS S) (hC : CI S K) {l : Int} (l0 : 0 ≤ l) (l1 : l < S 20 4)  : ∃ K2, f_X6_take (A 13 0) (some (A 5 l)) (Hc A P S K, z) = some (.ok (), (Hc A P (upS S 14 l (-1)) K2, z)) ∧ KX K K2 ∧ CI (upS S 14 l (-1)) K2 := by
  obtain ⟨hb, hm, hv⟩ := hV
  have hm2 := hm
  unfold Bm at hm2
  have hl2 := hv l l0 l1
  have hl3 := hb l
  by_cases c : 0 ≤ S 14 l
  · obtain ⟨K2, e, h1, h2⟩ := e_take1 (P := P) (K := K) (z := z) hA hb hm hv l0 l1 c hC
    refine ⟨K2, e, h1, fun p p0 p1 => ?_⟩
    have h3 := amt_pl (S := S) ⟨hb, hm, hv⟩ (l := l) (s := S 14 l / 8) (r := S 14 l % 8) l0 l1 (by omega) (by omega) (by omega) (by omega) (by omega) p0 p1
    rw [pl_same (show S 14 l = 8 * (S 14 l / 8) + S 14 l % 8 by omega)] at h3
    rw [h2 p p0 p1]
    dsimp only
    congr 1
    omega
  · obtain ⟨K2, e, h1⟩ := e_take0 (P := P) (K := K) (z := z) hA hb hm hv l0 l1 (by omega)
    rw [pl_same (show S 14 l = -1 by omega)]
    exact ⟨K2, e, h1.x, CI_KE h1 hC⟩
theorem e_pt {A : AA} {P : Hp} {S : SS} {K : KK} {z : Nat × Nat} (hA : GA A) (hV : VS S) (hC : CI S K) {l : Int} (l0 : 0 ≤ l) (l1 : l < S 20 4) {r : Int} (r0 : 0 ≤ r) (r1 : r < S 20 1) {s : Int} (s0 : 0 ≤ s) (s1 : s < 30) (hf : s % 6 + S 12 l ≤ 6) : ∃ K2, f_X6_put (A 13 0) (some (A 5 l)) (iI s) (some (A 1 r)) (Hc A P S K, z) = some (.ok (), (Hc A P (upS S 14 l (8 * s + r)) K2, z)) ∧ KX K K2 ∧ CI (upS S 14 l (8 * s + r)) K2 := by
  obtain ⟨hb, hm, hv⟩ := hV
  have hm2 := hm
  unfold Bm at hm2
  have hl2 := hv l l0 l1
  have hl3 := hb l
  obtain ⟨K2, e, h1, h2⟩ := e_put (P := P) (K := K) (z := z) hA hb hm hv l0 l1 r0 r1 s0 s1 hf hC
  refine ⟨K2, e, h1, fun p p0 p1 => ?_⟩
  have h3 := amt_pl (S := S) ⟨hb, hm, hv⟩ (l := l) (s := s) (r := r) l0 l1 s0 s1 hf r0 (by omega) p0 p1
  rw [h2 p p0 p1]
  dsimp only
  congr 1
  by_cases c : 0 ≤ S 14 l
  · have h4 := amt_pl (S := S) ⟨hb, hm, hv⟩ (l := l) (s := S 14 l / 8) (r := S 14 l % 8) l0 l1 (by omega) (by omega) (by omega) (by omega) (by omega) p0 p1
    rw [pl_same (show S 14 l = 8 * (S 14 l / 8) + S 14 l % 8 by omega)] at h4
    rw [if_pos c]
    omega
  · rw [pl_same (show S 14 l = -1 by omega)] at h3
    rw [if_neg c]
    omega
theorem e_putAt {A : AA} {P : Hp} {S : SS} {K : KK} {z : Nat × Nat} (hA : GA A) (hV : VS S) (hC : CI S K) {l : Int} (l0 : 0 ≤ l) (l1 : l < S 20 4) {x : Int} (x0 : 0 ≤ x) (x1 : x < 240) (hr : x % 8 < S 20 1) (hf : x / 8 % 6 + S 12 l ≤ 6) : ∃ K2, f_X6_putAt (A 13 0) (some (A 5 l)) (iI x) (Hc A P S K, z) = some (.ok (), (Hc A P (upS S 14 l x) K2, z)) ∧ KX K K2 ∧ CI (upS S 14 l x) K2 := by
  obtain ⟨hb, hm, hv⟩ := hV
  have hm2 := hm
  unfold Bm at hm2
  have hl2 := hv l l0 l1
  have hl3 := hb l
  obtain ⟨K2, e, h1, h2⟩ := e_pt (P := P) (K := K) (z := z) hA ⟨hb, hm, hv⟩ hC l0 l1 (r := x % 8) (by omega) hr (s := x / 8) (by omega) (by omega) hf
  rw [show 8 * (x / 8) + x % 8 = x by omega] at e h2
  refine ⟨K2, ?_, h1, h2⟩
  unfold f_X6_putAt
  simp -implicitDefEqProofs (disch := omega) only [↓reduceIte, ↓e_lets, ↓e_ite, ↓e_cal, e_cal2, e_cal3, e_thr, e_nthrow, e_rtn, e_r0, e_r1, e_dv, iI_add, iI_sub, iI_mul, iI_neg, iI_div, iI_rem, iI_lt, iI_le, iI_eq, b_eq0, b_eq1, Int.reduceAdd, Int.reduceMul, Int.reduceSub, Int.reduceNeg, Int.reduceDiv, Int.reduceMod, Nat.reduceAdd, Bool.false_eq_true, eq_self, ltT, ltF, leT, leF, eqT, eqF, true_and, and_true, false_and, and_false, and_self, or_true, true_or, or_false, false_or, ne_eq, not_true_eq_false, not_false_eq_true, if_true, if_false, ite_true, ite_false, ite_not, some_none, some_some, none_some, none_none, A_eq hA, li_0, li_1, li_2, li_3, li_4, li_5, li_6, li_7, li_8, li_9, li_10, li_11, li_12, li_13, li_14, li_15, li_16, li_17, li_18, li_19, li_20, li_21, li_22, li_23, li_24, li_25, li_26, li_27, li_28, li_29, li_30, li_31, li_32, li_63, li_64, li_99, li_100, li_128, li_240, li_256, li_512, li_960, li_1000, li_1022, li_1023, li_100000, li_m1, li_m1000, ↓r_v0 hA, ↓r_c0 hA, ↓r_0_0 hA, ↓r_0_1 hA, ↓r_0_2 hA, ↓r_0_3 hA, ↓r_0_4 hA, ↓r_0_5 hA, ↓r_0_6 hA, ↓r_0_7 hA, ↓r_0_8 hA, ↓r_0_9 hA, ↓r_v1 hA, ↓r_c1 hA, ↓r_1_0 hA, ↓r_1_1 hA, ↓r_1_2 hA, ↓r_1_3 hA, ↓r_1_4 hA, ↓r_v2 hA, ↓r_c2 hA, ↓r_2_0 hA, ↓r_2_1 hA, ↓r_2_2 hA, ↓r_v4 hA, ↓r_c4 hA, ↓r_4_0 hA, ↓r_v5 hA, ↓r_c5 hA, ↓r_5_0 hA, ↓r_5_1 hA, ↓r_5_2 hA, ↓r_5_3 hA, ↓r_5_4 hA, ↓r_5_5 hA, ↓r_5_6p hA, ↓r_5_6n hA, ↓r_5_7p hA, ↓r_5_7n hA, ↓r_5_8 hA, ↓r_5_9 hA, ↓r_5_10 hA, ↓r_5_11 hA, ↓r_5_12 hA, ↓r_5_13 hA, ↓r_5_14 hA, ↓r_5_15 hA, ↓r_5_16 hA, ↓r_5_17 hA, ↓r_v11 hA, ↓r_c11 hA, ↓r_11_0 hA, ↓r_11_1p hA, ↓r_11_2 hA, ↓r_v13 hA, ↓r_c13 hA, ↓r_13_0 hA, ↓r_13_1 hA, ↓r_13_2 hA, ↓r_13_3 hA, ↓r_13_4 hA, ↓r_13_5 hA, ↓r_v14 hA, ↓r_c14 hA, ↓r_14_0 hA, ↓r_v15 hA, ↓r_c15 hA, ↓r_15_0 hA, ↓r_15_1 hA, ↓r_v16 hA, ↓r_c16 hA, ↓r_16_0 hA, r_l3 hA, ↓r_l3 hA, ↓r_n3 hA, r_a3 hA, r_l10 hA, ↓r_l10 hA, ↓r_n10 hA, r_a10 hA, r_l20 hA, ↓r_l20 hA, ↓r_n20 hA, r_a20 hA, r_l6 hA, ↓r_l6 hA, ↓r_n6 hA, r_a6 hA, r_l7 hA, ↓r_l7 hA, ↓r_n7 hA, r_a7 hA, r_l8 hA, ↓r_l8 hA, ↓r_n8 hA, r_a8 hA, r_l9 hA, ↓r_l9 hA, ↓r_n9 hA, r_a9 hA, r_l18 hA, ↓r_l18 hA, ↓r_n18 hA, r_a18 hA, r_l19 hA, ↓r_l19 hA, ↓r_n19 hA, r_a19 hA, r_l21 hA, ↓r_l21 hA, ↓r_n21 hA, r_a21 hA, r_l22 hA, ↓r_l22 hA, ↓r_n22 hA, r_a22 hA, r_l23 hA, ↓r_l23 hA, ↓r_n23 hA, r_a23 hA, r_l24 hA, ↓r_l24 hA, ↓r_n24 hA, r_a24 hA, r_l25 hA, ↓r_l25 hA, ↓r_n25 hA, r_a25 hA, r_l17 hA, ↓r_l17 hA, ↓r_n17 hA, r_sz0 hA, r_gt0 hA, r_sz1 hA, r_gt1 hA, r_sz2 hA, r_gt2 hA, r_sz3 hA, r_gt3 hA, w_s6 hA, w_s7 hA, w_s8 hA, w_s9 hA, w_s18 hA, w_s19 hA, w_s21 hA, w_s22 hA, w_s23 hA, w_s24 hA, w_s25 hA, w_f11 hA, w_f12 hA, w_f13 hA, w_f16 hA, e]
theorem e_putAtN {A : AA} {P : Hp} {S : SS} {K : KK} {z : Nat × Nat} (hA : GA A) (hb : Bn S) (hm : Bm S) (hv : Vl S) {l : Int} (l0 : 0 ≤ l) (l1 : l < S 20 4)  : f_X6_putAt (A 13 0) (some (A 5 l)) (iI (-1)) (Hc A P S K, z) = some (.ok (), (Hc A P S K, z)) := by
  have hm2 := hm
  unfold Bm at hm2
  have hl2 := hv l l0 l1
  have hl3 := hb l
  unfold f_X6_putAt
  simp -implicitDefEqProofs (disch := omega) only [↓reduceIte, ↓e_lets, ↓e_ite, ↓e_cal, e_cal2, e_cal3, e_thr, e_nthrow, e_rtn, e_r0, e_r1, e_dv, iI_add, iI_sub, iI_mul, iI_neg, iI_div, iI_rem, iI_lt, iI_le, iI_eq, b_eq0, b_eq1, Int.reduceAdd, Int.reduceMul, Int.reduceSub, Int.reduceNeg, Int.reduceDiv, Int.reduceMod, Nat.reduceAdd, Bool.false_eq_true, eq_self, ltT, ltF, leT, leF, eqT, eqF, true_and, and_true, false_and, and_false, and_self, or_true, true_or, or_false, false_or, ne_eq, not_true_eq_false, not_false_eq_true, if_true, if_false, ite_true, ite_false, ite_not, some_none, some_some, none_some, none_none, A_eq hA, li_0, li_1, li_2, li_3, li_4, li_5, li_6, li_7, li_8, li_9, li_10, li_11, li_12, li_13, li_14, li_15, li_16, li_17, li_18, li_19, li_20, li_21, li_22, li_23, li_24, li_25, li_26, li_27, li_28, li_29, li_30, li_31, li_32, li_63, li_64, li_99, li_100, li_128, li_240, li_256, li_512, li_960, li_1000, li_1022, li_1023, li_100000, li_m1, li_m1000, ↓r_v0 hA, ↓r_c0 hA, ↓r_0_0 hA, ↓r_0_1 hA, ↓r_0_2 hA, ↓r_0_3 hA, ↓r_0_4 hA, ↓r_0_5 hA, ↓r_0_6 hA, ↓r_0_7 hA, ↓r_0_8 hA, ↓r_0_9 hA, ↓r_v1 hA, ↓r_c1 hA, ↓r_1_0 hA, ↓r_1_1 hA, ↓r_1_2 hA, ↓r_1_3 hA, ↓r_1_4 hA, ↓r_v2 hA, ↓r_c2 hA, ↓r_2_0 hA, ↓r_2_1 hA, ↓r_2_2 hA, ↓r_v4 hA, ↓r_c4 hA, ↓r_4_0 hA, ↓r_v5 hA, ↓r_c5 hA, ↓r_5_0 hA, ↓r_5_1 hA, ↓r_5_2 hA, ↓r_5_3 hA, ↓r_5_4 hA, ↓r_5_5 hA, ↓r_5_6p hA, ↓r_5_6n hA, ↓r_5_7p hA, ↓r_5_7n hA, ↓r_5_8 hA, ↓r_5_9 hA, ↓r_5_10 hA, ↓r_5_11 hA, ↓r_5_12 hA, ↓r_5_13 hA, ↓r_5_14 hA, ↓r_5_15 hA, ↓r_5_16 hA, ↓r_5_17 hA, ↓r_v11 hA, ↓r_c11 hA, ↓r_11_0 hA, ↓r_11_1p hA, ↓r_11_2 hA, ↓r_v13 hA, ↓r_c13 hA, ↓r_13_0 hA, ↓r_13_1 hA, ↓r_13_2 hA, ↓r_13_3 hA, ↓r_13_4 hA, ↓r_13_5 hA, ↓r_v14 hA, ↓r_c14 hA, ↓r_14_0 hA, ↓r_v15 hA, ↓r_c15 hA, ↓r_15_0 hA, ↓r_15_1 hA, ↓r_v16 hA, ↓r_c16 hA, ↓r_16_0 hA, r_l3 hA, ↓r_l3 hA, ↓r_n3 hA, r_a3 hA, r_l10 hA, ↓r_l10 hA, ↓r_n10 hA, r_a10 hA, r_l20 hA, ↓r_l20 hA, ↓r_n20 hA, r_a20 hA, r_l6 hA, ↓r_l6 hA, ↓r_n6 hA, r_a6 hA, r_l7 hA, ↓r_l7 hA, ↓r_n7 hA, r_a7 hA, r_l8 hA, ↓r_l8 hA, ↓r_n8 hA, r_a8 hA, r_l9 hA, ↓r_l9 hA, ↓r_n9 hA, r_a9 hA, r_l18 hA, ↓r_l18 hA, ↓r_n18 hA, r_a18 hA, r_l19 hA, ↓r_l19 hA, ↓r_n19 hA, r_a19 hA, r_l21 hA, ↓r_l21 hA, ↓r_n21 hA, r_a21 hA, r_l22 hA, ↓r_l22 hA, ↓r_n22 hA, r_a22 hA, r_l23 hA, ↓r_l23 hA, ↓r_n23 hA, r_a23 hA, r_l24 hA, ↓r_l24 hA, ↓r_n24 hA, r_a24 hA, r_l25 hA, ↓r_l25 hA, ↓r_n25 hA, r_a25 hA, r_l17 hA, ↓r_l17 hA, ↓r_n17 hA, r_sz0 hA, r_gt0 hA, r_sz1 hA, r_gt1 hA, r_sz2 hA, r_gt2 hA, r_sz3 hA, r_gt3 hA, w_s6 hA, w_s7 hA, w_s8 hA, w_s9 hA, w_s18 hA, w_s19 hA, w_s21 hA, w_s22 hA, w_s23 hA, w_s24 hA, w_s25 hA, w_f11 hA, w_f12 hA, w_f13 hA, w_f16 hA]
theorem e_isPast {A : AA} {P : Hp} {S : SS} {K : KK} {z : Nat × Nat} (hA : GA A) (hb : Bn S) (hm : Bm S) (hv : Vl S) {l : Int} (l0 : 0 ≤ l) (l1 : l < S 20 4)  : f_X6_isPast (A 13 0) (some (A 5 l)) (Hc A P S K, z) = some (.ok (iI (if 0 ≤ S 14 l ∧ S 14 l / 8 / 6 < S 20 6 then 1 else 0)), (Hc A P S K, z)) := by
  have hm2 := hm
  unfold Bm at hm2
  have hl2 := hv l l0 l1
  have hl3 := hb l
  unfold f_X6_isPast
  by_cases c : 0 ≤ S 14 l
  · by_cases d : S 14 l / 8 / 6 < S 20 6
    · simp -implicitDefEqProofs (disch := omega) only [↓reduceIte, ↓e_lets, ↓e_ite, ↓e_cal, e_cal2, e_cal3, e_thr, e_nthrow, e_rtn, e_r0, e_r1, e_dv, iI_add, iI_sub, iI_mul, iI_neg, iI_div, iI_rem, iI_lt, iI_le, iI_eq, b_eq0, b_eq1, Int.reduceAdd, Int.reduceMul, Int.reduceSub, Int.reduceNeg, Int.reduceDiv, Int.reduceMod, Nat.reduceAdd, Bool.false_eq_true, eq_self, ltT, ltF, leT, leF, eqT, eqF, true_and, and_true, false_and, and_false, and_self, or_true, true_or, or_false, false_or, ne_eq, not_true_eq_false, not_false_eq_true, if_true, if_false, ite_true, ite_false, ite_not, some_none, some_some, none_some, none_none, A_eq hA, li_0, li_1, li_2, li_3, li_4, li_5, li_6, li_7, li_8, li_9, li_10, li_11, li_12, li_13, li_14, li_15, li_16, li_17, li_18, li_19, li_20, li_21, li_22, li_23, li_24, li_25, li_26, li_27, li_28, li_29, li_30, li_31, li_32, li_63, li_64, li_99, li_100, li_128, li_240, li_256, li_512, li_960, li_1000, li_1022, li_1023, li_100000, li_m1, li_m1000, ↓r_v0 hA, ↓r_c0 hA, ↓r_0_0 hA, ↓r_0_1 hA, ↓r_0_2 hA, ↓r_0_3 hA, ↓r_0_4 hA, ↓r_0_5 hA, ↓r_0_6 hA, ↓r_0_7 hA, ↓r_0_8 hA, ↓r_0_9 hA, ↓r_v1 hA, ↓r_c1 hA, ↓r_1_0 hA, ↓r_1_1 hA, ↓r_1_2 hA, ↓r_1_3 hA, ↓r_1_4 hA, ↓r_v2 hA, ↓r_c2 hA, ↓r_2_0 hA, ↓r_2_1 hA, ↓r_2_2 hA, ↓r_v4 hA, ↓r_c4 hA, ↓r_4_0 hA, ↓r_v5 hA, ↓r_c5 hA, ↓r_5_0 hA, ↓r_5_1 hA, ↓r_5_2 hA, ↓r_5_3 hA, ↓r_5_4 hA, ↓r_5_5 hA, ↓r_5_6p hA, ↓r_5_6n hA, ↓r_5_7p hA, ↓r_5_7n hA, ↓r_5_8 hA, ↓r_5_9 hA, ↓r_5_10 hA, ↓r_5_11 hA, ↓r_5_12 hA, ↓r_5_13 hA, ↓r_5_14 hA, ↓r_5_15 hA, ↓r_5_16 hA, ↓r_5_17 hA, ↓r_v11 hA, ↓r_c11 hA, ↓r_11_0 hA, ↓r_11_1p hA, ↓r_11_2 hA, ↓r_v13 hA, ↓r_c13 hA, ↓r_13_0 hA, ↓r_13_1 hA, ↓r_13_2 hA, ↓r_13_3 hA, ↓r_13_4 hA, ↓r_13_5 hA, ↓r_v14 hA, ↓r_c14 hA, ↓r_14_0 hA, ↓r_v15 hA, ↓r_c15 hA, ↓r_15_0 hA, ↓r_15_1 hA, ↓r_v16 hA, ↓r_c16 hA, ↓r_16_0 hA, r_l3 hA, ↓r_l3 hA, ↓r_n3 hA, r_a3 hA, r_l10 hA, ↓r_l10 hA, ↓r_n10 hA, r_a10 hA, r_l20 hA, ↓r_l20 hA, ↓r_n20 hA, r_a20 hA, r_l6 hA, ↓r_l6 hA, ↓r_n6 hA, r_a6 hA, r_l7 hA, ↓r_l7 hA, ↓r_n7 hA, r_a7 hA, r_l8 hA, ↓r_l8 hA, ↓r_n8 hA, r_a8 hA, r_l9 hA, ↓r_l9 hA, ↓r_n9 hA, r_a9 hA, r_l18 hA, ↓r_l18 hA, ↓r_n18 hA, r_a18 hA, r_l19 hA, ↓r_l19 hA, ↓r_n19 hA, r_a19 hA, r_l21 hA, ↓r_l21 hA, ↓r_n21 hA, r_a21 hA, r_l22 hA, ↓r_l22 hA, ↓r_n22 hA, r_a22 hA, r_l23 hA, ↓r_l23 hA, ↓r_n23 hA, r_a23 hA, r_l24 hA, ↓r_l24 hA, ↓r_n24 hA, r_a24 hA, r_l25 hA, ↓r_l25 hA, ↓r_n25 hA, r_a25 hA, r_l17 hA, ↓r_l17 hA, ↓r_n17 hA, r_sz0 hA, r_gt0 hA, r_sz1 hA, r_gt1 hA, r_sz2 hA, r_gt2 hA, r_sz3 hA, r_gt3 hA, w_s6 hA, w_s7 hA, w_s8 hA, w_s9 hA, w_s18 hA, w_s19 hA, w_s21 hA, w_s22 hA, w_s23 hA, w_s24 hA, w_s25 hA, w_f11 hA, w_f12 hA, w_f13 hA, w_f16 hA]
    · simp -implicitDefEqProofs (disch := omega) only [↓reduceIte, ↓e_lets, ↓e_ite, ↓e_cal, e_cal2, e_cal3, e_thr, e_nthrow, e_rtn, e_r0, e_r1, e_dv, iI_add, iI_sub, iI_mul, iI_neg, iI_div, iI_rem, iI_lt, iI_le, iI_eq, b_eq0, b_eq1, Int.reduceAdd, Int.reduceMul, Int.reduceSub, Int.reduceNeg, Int.reduceDiv, Int.reduceMod, Nat.reduceAdd, Bool.false_eq_true, eq_self, ltT, ltF, leT, leF, eqT, eqF, true_and, and_true, false_and, and_false, and_self, or_true, true_or, or_false, false_or, ne_eq, not_true_eq_false, not_false_eq_true, if_true, if_false, ite_true, ite_false, ite_not, some_none, some_some, none_some, none_none, A_eq hA, li_0, li_1, li_2, li_3, li_4, li_5, li_6, li_7, li_8, li_9, li_10, li_11, li_12, li_13, li_14, li_15, li_16, li_17, li_18, li_19, li_20, li_21, li_22, li_23, li_24, li_25, li_26, li_27, li_28, li_29, li_30, li_31, li_32, li_63, li_64, li_99, li_100, li_128, li_240, li_256, li_512, li_960, li_1000, li_1022, li_1023, li_100000, li_m1, li_m1000, ↓r_v0 hA, ↓r_c0 hA, ↓r_0_0 hA, ↓r_0_1 hA, ↓r_0_2 hA, ↓r_0_3 hA, ↓r_0_4 hA, ↓r_0_5 hA, ↓r_0_6 hA, ↓r_0_7 hA, ↓r_0_8 hA, ↓r_0_9 hA, ↓r_v1 hA, ↓r_c1 hA, ↓r_1_0 hA, ↓r_1_1 hA, ↓r_1_2 hA, ↓r_1_3 hA, ↓r_1_4 hA, ↓r_v2 hA, ↓r_c2 hA, ↓r_2_0 hA, ↓r_2_1 hA, ↓r_2_2 hA, ↓r_v4 hA, ↓r_c4 hA, ↓r_4_0 hA, ↓r_v5 hA, ↓r_c5 hA, ↓r_5_0 hA, ↓r_5_1 hA, ↓r_5_2 hA, ↓r_5_3 hA, ↓r_5_4 hA, ↓r_5_5 hA, ↓r_5_6p hA, ↓r_5_6n hA, ↓r_5_7p hA, ↓r_5_7n hA, ↓r_5_8 hA, ↓r_5_9 hA, ↓r_5_10 hA, ↓r_5_11 hA, ↓r_5_12 hA, ↓r_5_13 hA, ↓r_5_14 hA, ↓r_5_15 hA, ↓r_5_16 hA, ↓r_5_17 hA, ↓r_v11 hA, ↓r_c11 hA, ↓r_11_0 hA, ↓r_11_1p hA, ↓r_11_2 hA, ↓r_v13 hA, ↓r_c13 hA, ↓r_13_0 hA, ↓r_13_1 hA, ↓r_13_2 hA, ↓r_13_3 hA, ↓r_13_4 hA, ↓r_13_5 hA, ↓r_v14 hA, ↓r_c14 hA, ↓r_14_0 hA, ↓r_v15 hA, ↓r_c15 hA, ↓r_15_0 hA, ↓r_15_1 hA, ↓r_v16 hA, ↓r_c16 hA, ↓r_16_0 hA, r_l3 hA, ↓r_l3 hA, ↓r_n3 hA, r_a3 hA, r_l10 hA, ↓r_l10 hA, ↓r_n10 hA, r_a10 hA, r_l20 hA, ↓r_l20 hA, ↓r_n20 hA, r_a20 hA, r_l6 hA, ↓r_l6 hA, ↓r_n6 hA, r_a6 hA, r_l7 hA, ↓r_l7 hA, ↓r_n7 hA, r_a7 hA, r_l8 hA, ↓r_l8 hA, ↓r_n8 hA, r_a8 hA, r_l9 hA, ↓r_l9 hA, ↓r_n9 hA, r_a9 hA, r_l18 hA, ↓r_l18 hA, ↓r_n18 hA, r_a18 hA, r_l19 hA, ↓r_l19 hA, ↓r_n19 hA, r_a19 hA, r_l21 hA, ↓r_l21 hA, ↓r_n21 hA, r_a21 hA, r_l22 hA, ↓r_l22 hA, ↓r_n22 hA, r_a22 hA, r_l23 hA, ↓r_l23 hA, ↓r_n23 hA, r_a23 hA, r_l24 hA, ↓r_l24 hA, ↓r_n24 hA, r_a24 hA, r_l25 hA, ↓r_l25 hA, ↓r_n25 hA, r_a25 hA, r_l17 hA, ↓r_l17 hA, ↓r_n17 hA, r_sz0 hA, r_gt0 hA, r_sz1 hA, r_gt1 hA, r_sz2 hA, r_gt2 hA, r_sz3 hA, r_gt3 hA, w_s6 hA, w_s7 hA, w_s8 hA, w_s9 hA, w_s18 hA, w_s19 hA, w_s21 hA, w_s22 hA, w_s23 hA, w_s24 hA, w_s25 hA, w_f11 hA, w_f12 hA, w_f13 hA, w_f16 hA]
  · simp -implicitDefEqProofs (disch := omega) only [↓reduceIte, ↓e_lets, ↓e_ite, ↓e_cal, e_cal2, e_cal3, e_thr, e_nthrow, e_rtn, e_r0, e_r1, e_dv, iI_add, iI_sub, iI_mul, iI_neg, iI_div, iI_rem, iI_lt, iI_le, iI_eq, b_eq0, b_eq1, Int.reduceAdd, Int.reduceMul, Int.reduceSub, Int.reduceNeg, Int.reduceDiv, Int.reduceMod, Nat.reduceAdd, Bool.false_eq_true, eq_self, ltT, ltF, leT, leF, eqT, eqF, true_and, and_true, false_and, and_false, and_self, or_true, true_or, or_false, false_or, ne_eq, not_true_eq_false, not_false_eq_true, if_true, if_false, ite_true, ite_false, ite_not, some_none, some_some, none_some, none_none, A_eq hA, li_0, li_1, li_2, li_3, li_4, li_5, li_6, li_7, li_8, li_9, li_10, li_11, li_12, li_13, li_14, li_15, li_16, li_17, li_18, li_19, li_20, li_21, li_22, li_23, li_24, li_25, li_26, li_27, li_28, li_29, li_30, li_31, li_32, li_63, li_64, li_99, li_100, li_128, li_240, li_256, li_512, li_960, li_1000, li_1022, li_1023, li_100000, li_m1, li_m1000, ↓r_v0 hA, ↓r_c0 hA, ↓r_0_0 hA, ↓r_0_1 hA, ↓r_0_2 hA, ↓r_0_3 hA, ↓r_0_4 hA, ↓r_0_5 hA, ↓r_0_6 hA, ↓r_0_7 hA, ↓r_0_8 hA, ↓r_0_9 hA, ↓r_v1 hA, ↓r_c1 hA, ↓r_1_0 hA, ↓r_1_1 hA, ↓r_1_2 hA, ↓r_1_3 hA, ↓r_1_4 hA, ↓r_v2 hA, ↓r_c2 hA, ↓r_2_0 hA, ↓r_2_1 hA, ↓r_2_2 hA, ↓r_v4 hA, ↓r_c4 hA, ↓r_4_0 hA, ↓r_v5 hA, ↓r_c5 hA, ↓r_5_0 hA, ↓r_5_1 hA, ↓r_5_2 hA, ↓r_5_3 hA, ↓r_5_4 hA, ↓r_5_5 hA, ↓r_5_6p hA, ↓r_5_6n hA, ↓r_5_7p hA, ↓r_5_7n hA, ↓r_5_8 hA, ↓r_5_9 hA, ↓r_5_10 hA, ↓r_5_11 hA, ↓r_5_12 hA, ↓r_5_13 hA, ↓r_5_14 hA, ↓r_5_15 hA, ↓r_5_16 hA, ↓r_5_17 hA, ↓r_v11 hA, ↓r_c11 hA, ↓r_11_0 hA, ↓r_11_1p hA, ↓r_11_2 hA, ↓r_v13 hA, ↓r_c13 hA, ↓r_13_0 hA, ↓r_13_1 hA, ↓r_13_2 hA, ↓r_13_3 hA, ↓r_13_4 hA, ↓r_13_5 hA, ↓r_v14 hA, ↓r_c14 hA, ↓r_14_0 hA, ↓r_v15 hA, ↓r_c15 hA, ↓r_15_0 hA, ↓r_15_1 hA, ↓r_v16 hA, ↓r_c16 hA, ↓r_16_0 hA, r_l3 hA, ↓r_l3 hA, ↓r_n3 hA, r_a3 hA, r_l10 hA, ↓r_l10 hA, ↓r_n10 hA, r_a10 hA, r_l20 hA, ↓r_l20 hA, ↓r_n20 hA, r_a20 hA, r_l6 hA, ↓r_l6 hA, ↓r_n6 hA, r_a6 hA, r_l7 hA, ↓r_l7 hA, ↓r_n7 hA, r_a7 hA, r_l8 hA, ↓r_l8 hA, ↓r_n8 hA, r_a8 hA, r_l9 hA, ↓r_l9 hA, ↓r_n9 hA, r_a9 hA, r_l18 hA, ↓r_l18 hA, ↓r_n18 hA, r_a18 hA, r_l19 hA, ↓r_l19 hA, ↓r_n19 hA, r_a19 hA, r_l21 hA, ↓r_l21 hA, ↓r_n21 hA, r_a21 hA, r_l22 hA, ↓r_l22 hA, ↓r_n22 hA, r_a22 hA, r_l23 hA, ↓r_l23 hA, ↓r_n23 hA, r_a23 hA, r_l24 hA, ↓r_l24 hA, ↓r_n24 hA, r_a24 hA, r_l25 hA, ↓r_l25 hA, ↓r_n25 hA, r_a25 hA, r_l17 hA, ↓r_l17 hA, ↓r_n17 hA, r_sz0 hA, r_gt0 hA, r_sz1 hA, r_gt1 hA, r_sz2 hA, r_gt2 hA, r_sz3 hA, r_gt3 hA, w_s6 hA, w_s7 hA, w_s8 hA, w_s9 hA, w_s18 hA, w_s19 hA, w_s21 hA, w_s22 hA, w_s23 hA, w_s24 hA, w_s25 hA, w_f11 hA, w_f12 hA, w_f13 hA, w_f16 hA]
theorem e_isFree {A : AA} {P : Hp} {S : SS} {K : KK} {z : Nat × Nat} (hA : GA A) (hb : Bn S) (hm : Bm S) (hv : Vl S) {l : Int} (l0 : 0 ≤ l) (l1 : l < S 20 4)  : f_X6_isFree (A 13 0) (some (A 5 l)) (Hc A P S K, z) = some (.ok (iI (if S 8 l = 0 ∧ ¬ (0 ≤ S 14 l ∧ S 14 l / 8 / 6 < S 20 6) then 1 else 0)), (Hc A P S K, z)) := by
  have hm2 := hm
  unfold Bm at hm2
  have hl2 := hv l l0 l1
  have hl3 := hb l
  have e1 := e_isPast (P := P) (K := K) (z := z) hA hb hm hv l0 l1
  unfold f_X6_isFree
  by_cases c : S 8 l = 0
  · by_cases d : 0 ≤ S 14 l ∧ S 14 l / 8 / 6 < S 20 6
    · rw [if_pos d] at e1
      rw [if_neg (fun q => q.2 d)]
      simp -implicitDefEqProofs (disch := omega) only [↓reduceIte, ↓e_lets, ↓e_ite, ↓e_cal, e_cal2, e_cal3, e_thr, e_nthrow, e_rtn, e_r0, e_r1, e_dv, iI_add, iI_sub, iI_mul, iI_neg, iI_div, iI_rem, iI_lt, iI_le, iI_eq, b_eq0, b_eq1, Int.reduceAdd, Int.reduceMul, Int.reduceSub, Int.reduceNeg, Int.reduceDiv, Int.reduceMod, Nat.reduceAdd, Bool.false_eq_true, eq_self, ltT, ltF, leT, leF, eqT, eqF, true_and, and_true, false_and, and_false, and_self, or_true, true_or, or_false, false_or, ne_eq, not_true_eq_false, not_false_eq_true, if_true, if_false, ite_true, ite_false, ite_not, some_none, some_some, none_some, none_none, A_eq hA, li_0, li_1, li_2, li_3, li_4, li_5, li_6, li_7, li_8, li_9, li_10, li_11, li_12, li_13, li_14, li_15, li_16, li_17, li_18, li_19, li_20, li_21, li_22, li_23, li_24, li_25, li_26, li_27, li_28, li_29, li_30, li_31, li_32, li_63, li_64, li_99, li_100, li_128, li_240, li_256, li_512, li_960, li_1000, li_1022, li_1023, li_100000, li_m1, li_m1000, ↓r_v0 hA, ↓r_c0 hA, ↓r_0_0 hA, ↓r_0_1 hA, ↓r_0_2 hA, ↓r_0_3 hA, ↓r_0_4 hA, ↓r_0_5 hA, ↓r_0_6 hA, ↓r_0_7 hA, ↓r_0_8 hA, ↓r_0_9 hA, ↓r_v1 hA, ↓r_c1 hA, ↓r_1_0 hA, ↓r_1_1 hA, ↓r_1_2 hA, ↓r_1_3 hA, ↓r_1_4 hA, ↓r_v2 hA, ↓r_c2 hA, ↓r_2_0 hA, ↓r_2_1 hA, ↓r_2_2 hA, ↓r_v4 hA, ↓r_c4 hA, ↓r_4_0 hA, ↓r_v5 hA, ↓r_c5 hA, ↓r_5_0 hA, ↓r_5_1 hA, ↓r_5_2 hA, ↓r_5_3 hA, ↓r_5_4 hA, ↓r_5_5 hA, ↓r_5_6p hA, ↓r_5_6n hA, ↓r_5_7p hA, ↓r_5_7n hA, ↓r_5_8 hA, ↓r_5_9 hA, ↓r_5_10 hA, ↓r_5_11 hA, ↓r_5_12 hA, ↓r_5_13 hA, ↓r_5_14 hA, ↓r_5_15 hA, ↓r_5_16 hA, ↓r_5_17 hA, ↓r_v11 hA, ↓r_c11 hA, ↓r_11_0 hA, ↓r_11_1p hA, ↓r_11_2 hA, ↓r_v13 hA, ↓r_c13 hA, ↓r_13_0 hA, ↓r_13_1 hA, ↓r_13_2 hA, ↓r_13_3 hA, ↓r_13_4 hA, ↓r_13_5 hA, ↓r_v14 hA, ↓r_c14 hA, ↓r_14_0 hA, ↓r_v15 hA, ↓r_c15 hA, ↓r_15_0 hA, ↓r_15_1 hA, ↓r_v16 hA, ↓r_c16 hA, ↓r_16_0 hA, r_l3 hA, ↓r_l3 hA, ↓r_n3 hA, r_a3 hA, r_l10 hA, ↓r_l10 hA, ↓r_n10 hA, r_a10 hA, r_l20 hA, ↓r_l20 hA, ↓r_n20 hA, r_a20 hA, r_l6 hA, ↓r_l6 hA, ↓r_n6 hA, r_a6 hA, r_l7 hA, ↓r_l7 hA, ↓r_n7 hA, r_a7 hA, r_l8 hA, ↓r_l8 hA, ↓r_n8 hA, r_a8 hA, r_l9 hA, ↓r_l9 hA, ↓r_n9 hA, r_a9 hA, r_l18 hA, ↓r_l18 hA, ↓r_n18 hA, r_a18 hA, r_l19 hA, ↓r_l19 hA, ↓r_n19 hA, r_a19 hA, r_l21 hA, ↓r_l21 hA, ↓r_n21 hA, r_a21 hA, r_l22 hA, ↓r_l22 hA, ↓r_n22 hA, r_a22 hA, r_l23 hA, ↓r_l23 hA, ↓r_n23 hA, r_a23 hA, r_l24 hA, ↓r_l24 hA, ↓r_n24 hA, r_a24 hA, r_l25 hA, ↓r_l25 hA, ↓r_n25 hA, r_a25 hA, r_l17 hA, ↓r_l17 hA, ↓r_n17 hA, r_sz0 hA, r_gt0 hA, r_sz1 hA, r_gt1 hA, r_sz2 hA, r_gt2 hA, r_sz3 hA, r_gt3 hA, w_s6 hA, w_s7 hA, w_s8 hA, w_s9 hA, w_s18 hA, w_s19 hA, w_s21 hA, w_s22 hA, w_s23 hA, w_s24 hA, w_s25 hA, w_f11 hA, w_f12 hA, w_f13 hA, w_f16 hA, e1]
    · rw [if_neg d] at e1
      rw [if_pos ⟨c, d⟩]
      simp -implicitDefEqProofs (disch := omega) only [↓reduceIte, ↓e_lets, ↓e_ite, ↓e_cal, e_cal2, e_cal3, e_thr, e_nthrow, e_rtn, e_r0, e_r1, e_dv, iI_add, iI_sub, iI_mul, iI_neg, iI_div, iI_rem, iI_lt, iI_le, iI_eq, b_eq0, b_eq1, Int.reduceAdd, Int.reduceMul, Int.reduceSub, Int.reduceNeg, Int.reduceDiv, Int.reduceMod, Nat.reduceAdd, Bool.false_eq_true, eq_self, ltT, ltF, leT, leF, eqT, eqF, true_and, and_true, false_and, and_false, and_self, or_true, true_or, or_false, false_or, ne_eq, not_true_eq_false, not_false_eq_true, if_true, if_false, ite_true, ite_false, ite_not, some_none, some_some, none_some, none_none, A_eq hA, li_0, li_1, li_2, li_3, li_4, li_5, li_6, li_7, li_8, li_9, li_10, li_11, li_12, li_13, li_14, li_15, li_16, li_17, li_18, li_19, li_20, li_21, li_22, li_23, li_24, li_25, li_26, li_27, li_28, li_29, li_30, li_31, li_32, li_63, li_64, li_99, li_100, li_128, li_240, li_256, li_512, li_960, li_1000, li_1022, li_1023, li_100000, li_m1, li_m1000, ↓r_v0 hA, ↓r_c0 hA, ↓r_0_0 hA, ↓r_0_1 hA, ↓r_0_2 hA, ↓r_0_3 hA, ↓r_0_4 hA, ↓r_0_5 hA, ↓r_0_6 hA, ↓r_0_7 hA, ↓r_0_8 hA, ↓r_0_9 hA, ↓r_v1 hA, ↓r_c1 hA, ↓r_1_0 hA, ↓r_1_1 hA, ↓r_1_2 hA, ↓r_1_3 hA, ↓r_1_4 hA, ↓r_v2 hA, ↓r_c2 hA, ↓r_2_0 hA, ↓r_2_1 hA, ↓r_2_2 hA, ↓r_v4 hA, ↓r_c4 hA, ↓r_4_0 hA, ↓r_v5 hA, ↓r_c5 hA, ↓r_5_0 hA, ↓r_5_1 hA, ↓r_5_2 hA, ↓r_5_3 hA, ↓r_5_4 hA, ↓r_5_5 hA, ↓r_5_6p hA, ↓r_5_6n hA, ↓r_5_7p hA, ↓r_5_7n hA, ↓r_5_8 hA, ↓r_5_9 hA, ↓r_5_10 hA, ↓r_5_11 hA, ↓r_5_12 hA, ↓r_5_13 hA, ↓r_5_14 hA, ↓r_5_15 hA, ↓r_5_16 hA, ↓r_5_17 hA, ↓r_v11 hA, ↓r_c11 hA, ↓r_11_0 hA, ↓r_11_1p hA, ↓r_11_2 hA, ↓r_v13 hA, ↓r_c13 hA, ↓r_13_0 hA, ↓r_13_1 hA, ↓r_13_2 hA, ↓r_13_3 hA, ↓r_13_4 hA, ↓r_13_5 hA, ↓r_v14 hA, ↓r_c14 hA, ↓r_14_0 hA, ↓r_v15 hA, ↓r_c15 hA, ↓r_15_0 hA, ↓r_15_1 hA, ↓r_v16 hA, ↓r_c16 hA, ↓r_16_0 hA, r_l3 hA, ↓r_l3 hA, ↓r_n3 hA, r_a3 hA, r_l10 hA, ↓r_l10 hA, ↓r_n10 hA, r_a10 hA, r_l20 hA, ↓r_l20 hA, ↓r_n20 hA, r_a20 hA, r_l6 hA, ↓r_l6 hA, ↓r_n6 hA, r_a6 hA, r_l7 hA, ↓r_l7 hA, ↓r_n7 hA, r_a7 hA, r_l8 hA, ↓r_l8 hA, ↓r_n8 hA, r_a8 hA, r_l9 hA, ↓r_l9 hA, ↓r_n9 hA, r_a9 hA, r_l18 hA, ↓r_l18 hA, ↓r_n18 hA, r_a18 hA, r_l19 hA, ↓r_l19 hA, ↓r_n19 hA, r_a19 hA, r_l21 hA, ↓r_l21 hA, ↓r_n21 hA, r_a21 hA, r_l22 hA, ↓r_l22 hA, ↓r_n22 hA, r_a22 hA, r_l23 hA, ↓r_l23 hA, ↓r_n23 hA, r_a23 hA, r_l24 hA, ↓r_l24 hA, ↓r_n24 hA, r_a24 hA, r_l25 hA, ↓r_l25 hA, ↓r_n25 hA, r_a25 hA, r_l17 hA, ↓r_l17 hA, ↓r_n17 hA, r_sz0 hA, r_gt0 hA, r_sz1 hA, r_gt1 hA, r_sz2 hA, r_gt2 hA, r_sz3 hA, r_gt3 hA, w_s6 hA, w_s7 hA, w_s8 hA, w_s9 hA, w_s18 hA, w_s19 hA, w_s21 hA, w_s22 hA, w_s23 hA, w_s24 hA, w_s25 hA, w_f11 hA, w_f12 hA, w_f13 hA, w_f16 hA, e1]
  · rw [if_neg (fun q => c q.1)]
    simp -implicitDefEqProofs (disch := omega) only [↓reduceIte, ↓e_lets, ↓e_ite, ↓e_cal, e_cal2, e_cal3, e_thr, e_nthrow, e_rtn, e_r0, e_r1, e_dv, iI_add, iI_sub, iI_mul, iI_neg, iI_div, iI_rem, iI_lt, iI_le, iI_eq, b_eq0, b_eq1, Int.reduceAdd, Int.reduceMul, Int.reduceSub, Int.reduceNeg, Int.reduceDiv, Int.reduceMod, Nat.reduceAdd, Bool.false_eq_true, eq_self, ltT, ltF, leT, leF, eqT, eqF, true_and, and_true, false_and, and_false, and_self, or_true, true_or, or_false, false_or, ne_eq, not_true_eq_false, not_false_eq_true, if_true, if_false, ite_true, ite_false, ite_not, some_none, some_some, none_some, none_none, A_eq hA, li_0, li_1, li_2, li_3, li_4, li_5, li_6, li_7, li_8, li_9, li_10, li_11, li_12, li_13, li_14, li_15, li_16, li_17, li_18, li_19, li_20, li_21, li_22, li_23, li_24, li_25, li_26, li_27, li_28, li_29, li_30, li_31, li_32, li_63, li_64, li_99, li_100, li_128, li_240, li_256, li_512, li_960, li_1000, li_1022, li_1023, li_100000, li_m1, li_m1000, ↓r_v0 hA, ↓r_c0 hA, ↓r_0_0 hA, ↓r_0_1 hA, ↓r_0_2 hA, ↓r_0_3 hA, ↓r_0_4 hA, ↓r_0_5 hA, ↓r_0_6 hA, ↓r_0_7 hA, ↓r_0_8 hA, ↓r_0_9 hA, ↓r_v1 hA, ↓r_c1 hA, ↓r_1_0 hA, ↓r_1_1 hA, ↓r_1_2 hA, ↓r_1_3 hA, ↓r_1_4 hA, ↓r_v2 hA, ↓r_c2 hA, ↓r_2_0 hA, ↓r_2_1 hA, ↓r_2_2 hA, ↓r_v4 hA, ↓r_c4 hA, ↓r_4_0 hA, ↓r_v5 hA, ↓r_c5 hA, ↓r_5_0 hA, ↓r_5_1 hA, ↓r_5_2 hA, ↓r_5_3 hA, ↓r_5_4 hA, ↓r_5_5 hA, ↓r_5_6p hA, ↓r_5_6n hA, ↓r_5_7p hA, ↓r_5_7n hA, ↓r_5_8 hA, ↓r_5_9 hA, ↓r_5_10 hA, ↓r_5_11 hA, ↓r_5_12 hA, ↓r_5_13 hA, ↓r_5_14 hA, ↓r_5_15 hA, ↓r_5_16 hA, ↓r_5_17 hA, ↓r_v11 hA, ↓r_c11 hA, ↓r_11_0 hA, ↓r_11_1p hA, ↓r_11_2 hA, ↓r_v13 hA, ↓r_c13 hA, ↓r_13_0 hA, ↓r_13_1 hA, ↓r_13_2 hA, ↓r_13_3 hA, ↓r_13_4 hA, ↓r_13_5 hA, ↓r_v14 hA, ↓r_c14 hA, ↓r_14_0 hA, ↓r_v15 hA, ↓r_c15 hA, ↓r_15_0 hA, ↓r_15_1 hA, ↓r_v16 hA, ↓r_c16 hA, ↓r_16_0 hA, r_l3 hA, ↓r_l3 hA, ↓r_n3 hA, r_a3 hA, r_l10 hA, ↓r_l10 hA, ↓r_n10 hA, r_a10 hA, r_l20 hA, ↓r_l20 hA, ↓r_n20 hA, r_a20 hA, r_l6 hA, ↓r_l6 hA, ↓r_n6 hA, r_a6 hA, r_l7 hA, ↓r_l7 hA, ↓r_n7 hA, r_a7 hA, r_l8 hA, ↓r_l8 hA, ↓r_n8 hA, r_a8 hA, r_l9 hA, ↓r_l9 hA, ↓r_n9 hA, r_a9 hA, r_l18 hA, ↓r_l18 hA, ↓r_n18 hA, r_a18 hA, r_l19 hA, ↓r_l19 hA, ↓r_n19 hA, r_a19 hA, r_l21 hA, ↓r_l21 hA, ↓r_n21 hA, r_a21 hA, r_l22 hA, ↓r_l22 hA, ↓r_n22 hA, r_a22 hA, r_l23 hA, ↓r_l23 hA, ↓r_n23 hA, r_a23 hA, r_l24 hA, ↓r_l24 hA, ↓r_n24 hA, r_a24 hA, r_l25 hA, ↓r_l25 hA, ↓r_n25 hA, r_a25 hA, r_l17 hA, ↓r_l17 hA, ↓r_n17 hA, r_sz0 hA, r_gt0 hA, r_sz1 hA, r_gt1 hA, r_sz2 hA, r_gt2 hA, r_sz3 hA, r_gt3 hA, w_s6 hA, w_s7 hA, w_s8 hA, w_s9 hA, w_s18 hA, w_s19 hA, w_s21 hA, w_s22 hA, w_s23 hA, w_s24 hA, w_s25 hA, w_f11 hA, w_f12 hA, w_f13 hA, w_f16 hA, e1]
def setM (p : Nat → Bool) (n : Nat) : Int32 := orN (fun k => if p k = true then iI 1 <<< (iI (k : Int) &&& iI 31) else iI 0) n
set_option maxRecDepth 100000 in
theorem bit_has : ∀ k : Fin 32, ∀ s : Fin 32, bHas ((1 : Int32) <<< (iI (k.val : Int) &&& 31)) (iI (s.val : Int)) = decide (s.val = k.val) := by decide +kernel
theorem bHas_bitk {k s : Nat} (hk : k < 32) (hs : s < 32) : bHas (iI 1 <<< (iI (k : Int) &&& iI 31)) (iI (s : Int)) = decide (s = k) := by
  rw [← li_1, ← li_31]
  exact bit_has ⟨k, hk⟩ ⟨s, hs⟩
theorem bHas_orN (f : Nat → Int32) {s : Nat} (hs : s < 32) : ∀ n, bHas (orN f n) (iI (s : Int)) = true ↔ ∃ k, k < n ∧ bHas (f k) (iI (s : Int)) = true := by
  intro n
  induction n with
  | zero =>
    show bHas (iI 0) _ = true ↔ _
    rw [bHas_00 s hs]
    exact ⟨fun h => absurd h (by decide), fun ⟨k, h, _⟩ => absurd h (by omega)⟩
  | succ n ih =>
    show bHas (orN f n ||| f n) _ = true ↔ _
    rw [bHas_or _ _ hs, Bool.or_eq_true, ih]
    constructor
    · rintro (⟨k, h1, h2⟩ | h)
      · exact ⟨k, by omega, h2⟩
      · exact ⟨n, by omega, h⟩
    · rintro ⟨k, h1, h2⟩
      by_cases c : k = n
      · subst c; exact Or.inr h2
      · exact Or.inl ⟨k, by omega, h2⟩
theorem bHas_setM (p : Nat → Bool) {n s : Nat} (hn : n ≤ 32) (hs : s < 32) : bHas (setM p n) (iI (s : Int)) = (decide (s < n) && p s) := by
  have h := bHas_orN (fun k => if p k = true then iI 1 <<< (iI (k : Int) &&& iI 31) else iI 0) hs n
  have h2 : (bHas (setM p n) (iI (s : Int)) = true) ↔ (decide (s < n) && p s) = true := by
    refine h.trans ?_
    constructor
    · rintro ⟨k, h1, h2⟩
      by_cases c : p k = true
      · rw [if_pos c, bHas_bitk (by omega) hs] at h2
        have e : s = k := by simpa using h2
        subst e
        simp [h1, c]
      · rw [if_neg c, bHas_00 s hs] at h2
        exact absurd h2 (by decide)
    · intro h1
      have h1 : s < n ∧ p s = true := by simpa using h1
      refine ⟨s, h1.1, ?_⟩
      rw [if_pos h1.2, bHas_bitk hs hs]
      simp
  cases h3 : bHas (setM p n) (iI (s : Int)) <;> cases h4 : (decide (s < n) && p s) <;> simp_all
/-- the school without some lessons' places -/
def rmS (S : SS) (q : Nat → Bool) (n : Int) : SS := fun f i => if f = 14 ∧ 0 ≤ i ∧ i < n ∧ q i.toNat = true then -1 else S f i
theorem rmS_g {S : SS} {q : Nat → Bool} {n : Int} {f : Nat} (h : f ≠ 14) : rmS S q n f = S f := funext (fun i => if_neg (fun z => h z.1))
theorem rmS_0 (S : SS) (q : Nat → Bool) : rmS S q 0 = S := by
  funext f i
  exact if_neg (fun z => by omega)
theorem rmS_1 (S : SS) (q : Nat → Bool) (n : Nat) (h : q n = true) : upS (rmS S q n) 14 n (-1) = rmS S q ((n + 1 : Nat) : Int) := by
  funext f i
  unfold upS rmS
  by_cases c : f = 14
  · subst c
    by_cases d : i = n
    · subst d
      rw [if_pos ⟨rfl, rfl⟩, if_pos ⟨rfl, by omega, by omega, by simpa using h⟩]
    · rw [if_neg (fun z => d z.2)]
      by_cases e : 0 ≤ i ∧ i < n ∧ q i.toNat = true
      · rw [if_pos ⟨rfl, e.1, e.2.1, e.2.2⟩, if_pos ⟨rfl, e.1, by omega, e.2.2⟩]
      · rw [if_neg (fun z => e z.2), if_neg (fun z => e ⟨z.2.1, by omega, z.2.2.2⟩)]
  · rw [if_neg (fun z => c z.1), if_neg (fun z => c z.1), if_neg (fun z => c z.1)]
theorem rmS_2 (S : SS) (q : Nat → Bool) (n : Nat) (h : q n = false) : rmS S q ((n + 1 : Nat) : Int) = rmS S q n := by
  funext f i
  unfold rmS
  by_cases e : f = 14 ∧ 0 ≤ i ∧ i < n ∧ q i.toNat = true
  · rw [if_pos e, if_pos ⟨e.1, e.2.1, by omega, e.2.2.2⟩]
  · rw [if_neg e, if_neg (fun z => ?_)]
    by_cases d : i = n
    · subst d
      have h2 := z.2.2.2
      simp [h] at h2
    · exact e ⟨z.1, z.2.1, by omega, z.2.2.2⟩
theorem VS_rm {S : SS} (h : VS S) (q : Nat → Bool) : ∀ n : Nat, (n : Int) ≤ S 20 4 → VS (rmS S q n) := by
  intro n
  induction n with
  | zero => intro _; rw [show ((0 : Nat) : Int) = 0 from rfl, rmS_0]; exact h
  | succ n ih =>
    intro hn
    have h1 := ih (by omega)
    cases c : q n
    · rw [rmS_2 S q n c]; exact h1
    · rw [← rmS_1 S q n c]; exact VS_pl h1 (by decide) (by decide) (fun h => absurd h (by decide))
theorem e_takeAll {A : AA} {P : Hp} {S : SS} {K : KK} {z : Nat × Nat} (hA : GA A) (hV : VS S) (hC : CI S K) (x : Int32) : ∃ K2, f_X6_takeAll (A 13 0) x (Hc A P S K, z) = some (.ok (), (Hc A P (rmS S (fun k => bHas x (iI (k : Int))) (S 20 4)) K2, z)) ∧ KX K K2 ∧ CI (rmS S (fun k => bHas x (iI (k : Int))) (S 20 4)) K2 := by
  obtain ⟨hb, hm, hv⟩ := hV
  have hm2 := hm
  unfold Bm at hm2
  generalize hq : (fun k : Nat => bHas x (iI (k : Int))) = q
  have hqk : ∀ k : Nat, bHas x (iI (k : Int)) = q k := fun k => by rw [← hq]
  have h9 : (((S 20 4).toNat : Nat) : Int) = S 20 4 := by omega
  have hL := loopDE (fun f (t : SS × Int32) (T : KK) => L_X6_takeAll_2 (some (A 13 0)) x (rtn ()) f t.2 (Hc A P t.1 T, z)) (fun m => (rmS S q m, iI (m : Int))) (fun m T => KX K T ∧ CI (rmS S q m) T) (S 20 4).toNat (fun T => some (.ok (), (Hc A P (rmS S q (((S 20 4).toNat : Nat) : Int)) T, z))) (fun k f T hk hI => ?_) (fun f T hI => ?_) 100000 K (by omega) ⟨KX.rfl, by rw [show ((0 : Nat) : Int) = 0 from rfl, rmS_0]; exact hC⟩
  · obtain ⟨K2, h1, h2⟩ := hL
    rw [h9] at h1 h2
    refine ⟨K2, ?_, h1⟩
    unfold f_X6_takeAll
    rw [e_lets, li_0]
    rw [show ((0 : Nat) : Int) = 0 from rfl, rmS_0] at h2
    exact h2
  · have e20 : rmS S q (k : Int) 20 = S 20 := rmS_g (by decide)
    have e4 : rmS S q (k : Int) 20 4 = S 20 4 := by rw [e20]
    have k1 : (k : Int) < S 20 4 := by omega
    have k2 : (k : Int) < rmS S q (k : Int) 20 4 := by rw [e4]; exact k1
    obtain ⟨T2, e1, h1, h2⟩ := e_tk (P := P) (z := z) hA (VS_rm ⟨hb, hm, hv⟩ q k (by omega)) hI.2 (l := (k : Int)) (by omega) k2
    cases d : q k
    · refine ⟨T, ⟨hI.1, by rw [rmS_2 S q k d]; exact hI.2⟩, ?_⟩
      show L_X6_takeAll_2 (some (A 13 0)) x (rtn ()) (f + 1) (iI (k : Int)) (Hc A P (rmS S q k) T, z) = L_X6_takeAll_2 (some (A 13 0)) x (rtn ()) f (iI ((k + 1 : Nat) : Int)) (Hc A P (rmS S q ((k + 1 : Nat) : Int)) T, z)
      rw [u_L_X6_takeAll_2, rmS_2 S q k d, nat1]
      generalize rmS S q (k : Int) = Sk at *
      simp -implicitDefEqProofs (disch := omega) only [↓reduceIte, ↓e_lets, ↓e_ite, ↓e_cal, e_cal2, e_cal3, e_thr, e_nthrow, e_rtn, e_r0, e_r1, e_dv, iI_add, iI_sub, iI_mul, iI_neg, iI_div, iI_rem, iI_lt, iI_le, iI_eq, b_eq0, b_eq1, Int.reduceAdd, Int.reduceMul, Int.reduceSub, Int.reduceNeg, Int.reduceDiv, Int.reduceMod, Nat.reduceAdd, Bool.false_eq_true, eq_self, ltT, ltF, leT, leF, eqT, eqF, true_and, and_true, false_and, and_false, and_self, or_true, true_or, or_false, false_or, ne_eq, not_true_eq_false, not_false_eq_true, if_true, if_false, ite_true, ite_false, ite_not, some_none, some_some, none_some, none_none, A_eq hA, li_0, li_1, li_2, li_3, li_4, li_5, li_6, li_7, li_8, li_9, li_10, li_11, li_12, li_13, li_14, li_15, li_16, li_17, li_18, li_19, li_20, li_21, li_22, li_23, li_24, li_25, li_26, li_27, li_28, li_29, li_30, li_31, li_32, li_63, li_64, li_99, li_100, li_128, li_240, li_256, li_512, li_960, li_1000, li_1022, li_1023, li_100000, li_m1, li_m1000, ↓r_v0 hA, ↓r_c0 hA, ↓r_0_0 hA, ↓r_0_1 hA, ↓r_0_2 hA, ↓r_0_3 hA, ↓r_0_4 hA, ↓r_0_5 hA, ↓r_0_6 hA, ↓r_0_7 hA, ↓r_0_8 hA, ↓r_0_9 hA, ↓r_v1 hA, ↓r_c1 hA, ↓r_1_0 hA, ↓r_1_1 hA, ↓r_1_2 hA, ↓r_1_3 hA, ↓r_1_4 hA, ↓r_v2 hA, ↓r_c2 hA, ↓r_2_0 hA, ↓r_2_1 hA, ↓r_2_2 hA, ↓r_v4 hA, ↓r_c4 hA, ↓r_4_0 hA, ↓r_v5 hA, ↓r_c5 hA, ↓r_5_0 hA, ↓r_5_1 hA, ↓r_5_2 hA, ↓r_5_3 hA, ↓r_5_4 hA, ↓r_5_5 hA, ↓r_5_6p hA, ↓r_5_6n hA, ↓r_5_7p hA, ↓r_5_7n hA, ↓r_5_8 hA, ↓r_5_9 hA, ↓r_5_10 hA, ↓r_5_11 hA, ↓r_5_12 hA, ↓r_5_13 hA, ↓r_5_14 hA, ↓r_5_15 hA, ↓r_5_16 hA, ↓r_5_17 hA, ↓r_v11 hA, ↓r_c11 hA, ↓r_11_0 hA, ↓r_11_1p hA, ↓r_11_2 hA, ↓r_v13 hA, ↓r_c13 hA, ↓r_13_0 hA, ↓r_13_1 hA, ↓r_13_2 hA, ↓r_13_3 hA, ↓r_13_4 hA, ↓r_13_5 hA, ↓r_v14 hA, ↓r_c14 hA, ↓r_14_0 hA, ↓r_v15 hA, ↓r_c15 hA, ↓r_15_0 hA, ↓r_15_1 hA, ↓r_v16 hA, ↓r_c16 hA, ↓r_16_0 hA, r_l3 hA, ↓r_l3 hA, ↓r_n3 hA, r_a3 hA, r_l10 hA, ↓r_l10 hA, ↓r_n10 hA, r_a10 hA, r_l20 hA, ↓r_l20 hA, ↓r_n20 hA, r_a20 hA, r_l6 hA, ↓r_l6 hA, ↓r_n6 hA, r_a6 hA, r_l7 hA, ↓r_l7 hA, ↓r_n7 hA, r_a7 hA, r_l8 hA, ↓r_l8 hA, ↓r_n8 hA, r_a8 hA, r_l9 hA, ↓r_l9 hA, ↓r_n9 hA, r_a9 hA, r_l18 hA, ↓r_l18 hA, ↓r_n18 hA, r_a18 hA, r_l19 hA, ↓r_l19 hA, ↓r_n19 hA, r_a19 hA, r_l21 hA, ↓r_l21 hA, ↓r_n21 hA, r_a21 hA, r_l22 hA, ↓r_l22 hA, ↓r_n22 hA, r_a22 hA, r_l23 hA, ↓r_l23 hA, ↓r_n23 hA, r_a23 hA, r_l24 hA, ↓r_l24 hA, ↓r_n24 hA, r_a24 hA, r_l25 hA, ↓r_l25 hA, ↓r_n25 hA, r_a25 hA, r_l17 hA, ↓r_l17 hA, ↓r_n17 hA, r_sz0 hA, r_gt0 hA, r_sz1 hA, r_gt1 hA, r_sz2 hA, r_gt2 hA, r_sz3 hA, r_gt3 hA, w_s6 hA, w_s7 hA, w_s8 hA, w_s9 hA, w_s18 hA, w_s19 hA, w_s21 hA, w_s22 hA, w_s23 hA, w_s24 hA, w_s25 hA, w_f11 hA, w_f12 hA, w_f13 hA, w_f16 hA, e_hasI, hqk, d, ↓u_j_X6_takeAll_36]
    · rw [rmS_1 S q k d] at e1 h2
      refine ⟨T2, ⟨hI.1.tr h1, h2⟩, ?_⟩
      show L_X6_takeAll_2 (some (A 13 0)) x (rtn ()) (f + 1) (iI (k : Int)) (Hc A P (rmS S q k) T, z) = L_X6_takeAll_2 (some (A 13 0)) x (rtn ()) f (iI ((k + 1 : Nat) : Int)) (Hc A P (rmS S q ((k + 1 : Nat) : Int)) T2, z)
      rw [u_L_X6_takeAll_2]
      generalize rmS S q ((k + 1 : Nat) : Int) = Sk1 at *
      rw [nat1]
      generalize rmS S q (k : Int) = Sk at *
      simp -implicitDefEqProofs (disch := omega) only [↓reduceIte, ↓e_lets, ↓e_ite, ↓e_cal, e_cal2, e_cal3, e_thr, e_nthrow, e_rtn, e_r0, e_r1, e_dv, iI_add, iI_sub, iI_mul, iI_neg, iI_div, iI_rem, iI_lt, iI_le, iI_eq, b_eq0, b_eq1, Int.reduceAdd, Int.reduceMul, Int.reduceSub, Int.reduceNeg, Int.reduceDiv, Int.reduceMod, Nat.reduceAdd, Bool.false_eq_true, eq_self, ltT, ltF, leT, leF, eqT, eqF, true_and, and_true, false_and, and_false, and_self, or_true, true_or, or_false, false_or, ne_eq, not_true_eq_false, not_false_eq_true, if_true, if_false, ite_true, ite_false, ite_not, some_none, some_some, none_some, none_none, A_eq hA, li_0, li_1, li_2, li_3, li_4, li_5, li_6, li_7, li_8, li_9, li_10, li_11, li_12, li_13, li_14, li_15, li_16, li_17, li_18, li_19, li_20, li_21, li_22, li_23, li_24, li_25, li_26, li_27, li_28, li_29, li_30, li_31, li_32, li_63, li_64, li_99, li_100, li_128, li_240, li_256, li_512, li_960, li_1000, li_1022, li_1023, li_100000, li_m1, li_m1000, ↓r_v0 hA, ↓r_c0 hA, ↓r_0_0 hA, ↓r_0_1 hA, ↓r_0_2 hA, ↓r_0_3 hA, ↓r_0_4 hA, ↓r_0_5 hA, ↓r_0_6 hA, ↓r_0_7 hA, ↓r_0_8 hA, ↓r_0_9 hA, ↓r_v1 hA, ↓r_c1 hA, ↓r_1_0 hA, ↓r_1_1 hA, ↓r_1_2 hA, ↓r_1_3 hA, ↓r_1_4 hA, ↓r_v2 hA, ↓r_c2 hA, ↓r_2_0 hA, ↓r_2_1 hA, ↓r_2_2 hA, ↓r_v4 hA, ↓r_c4 hA, ↓r_4_0 hA, ↓r_v5 hA, ↓r_c5 hA, ↓r_5_0 hA, ↓r_5_1 hA, ↓r_5_2 hA, ↓r_5_3 hA, ↓r_5_4 hA, ↓r_5_5 hA, ↓r_5_6p hA, ↓r_5_6n hA, ↓r_5_7p hA, ↓r_5_7n hA, ↓r_5_8 hA, ↓r_5_9 hA, ↓r_5_10 hA, ↓r_5_11 hA, ↓r_5_12 hA, ↓r_5_13 hA, ↓r_5_14 hA, ↓r_5_15 hA, ↓r_5_16 hA, ↓r_5_17 hA, ↓r_v11 hA, ↓r_c11 hA, ↓r_11_0 hA, ↓r_11_1p hA, ↓r_11_2 hA, ↓r_v13 hA, ↓r_c13 hA, ↓r_13_0 hA, ↓r_13_1 hA, ↓r_13_2 hA, ↓r_13_3 hA, ↓r_13_4 hA, ↓r_13_5 hA, ↓r_v14 hA, ↓r_c14 hA, ↓r_14_0 hA, ↓r_v15 hA, ↓r_c15 hA, ↓r_15_0 hA, ↓r_15_1 hA, ↓r_v16 hA, ↓r_c16 hA, ↓r_16_0 hA, r_l3 hA, ↓r_l3 hA, ↓r_n3 hA, r_a3 hA, r_l10 hA, ↓r_l10 hA, ↓r_n10 hA, r_a10 hA, r_l20 hA, ↓r_l20 hA, ↓r_n20 hA, r_a20 hA, r_l6 hA, ↓r_l6 hA, ↓r_n6 hA, r_a6 hA, r_l7 hA, ↓r_l7 hA, ↓r_n7 hA, r_a7 hA, r_l8 hA, ↓r_l8 hA, ↓r_n8 hA, r_a8 hA, r_l9 hA, ↓r_l9 hA, ↓r_n9 hA, r_a9 hA, r_l18 hA, ↓r_l18 hA, ↓r_n18 hA, r_a18 hA, r_l19 hA, ↓r_l19 hA, ↓r_n19 hA, r_a19 hA, r_l21 hA, ↓r_l21 hA, ↓r_n21 hA, r_a21 hA, r_l22 hA, ↓r_l22 hA, ↓r_n22 hA, r_a22 hA, r_l23 hA, ↓r_l23 hA, ↓r_n23 hA, r_a23 hA, r_l24 hA, ↓r_l24 hA, ↓r_n24 hA, r_a24 hA, r_l25 hA, ↓r_l25 hA, ↓r_n25 hA, r_a25 hA, r_l17 hA, ↓r_l17 hA, ↓r_n17 hA, r_sz0 hA, r_gt0 hA, r_sz1 hA, r_gt1 hA, r_sz2 hA, r_gt2 hA, r_sz3 hA, r_gt3 hA, w_s6 hA, w_s7 hA, w_s8 hA, w_s9 hA, w_s18 hA, w_s19 hA, w_s21 hA, w_s22 hA, w_s23 hA, w_s24 hA, w_s25 hA, w_f11 hA, w_f12 hA, w_f13 hA, w_f16 hA, e1, e_hasI, hqk, d, ↓u_j_X6_takeAll_36]
  · show L_X6_takeAll_2 (some (A 13 0)) x (rtn ()) (f + 1) (iI (((S 20 4).toNat : Nat) : Int)) (Hc A P (rmS S q (((S 20 4).toNat : Nat) : Int)) T, z) = _
    rw [h9, u_L_X6_takeAll_2]
    have e4 : rmS S q (S 20 4) 20 4 = S 20 4 := by rw [rmS_g (by decide)]
    generalize rmS S q (S 20 4) = Sk at *
    simp -implicitDefEqProofs (disch := omega) only [↓reduceIte, ↓e_lets, ↓e_ite, ↓e_cal, e_cal2, e_cal3, e_thr, e_nthrow, e_rtn, e_r0, e_r1, e_dv, iI_add, iI_sub, iI_mul, iI_neg, iI_div, iI_rem, iI_lt, iI_le, iI_eq, b_eq0, b_eq1, Int.reduceAdd, Int.reduceMul, Int.reduceSub, Int.reduceNeg, Int.reduceDiv, Int.reduceMod, Nat.reduceAdd, Bool.false_eq_true, eq_self, ltT, ltF, leT, leF, eqT, eqF, true_and, and_true, false_and, and_false, and_self, or_true, true_or, or_false, false_or, ne_eq, not_true_eq_false, not_false_eq_true, if_true, if_false, ite_true, ite_false, ite_not, some_none, some_some, none_some, none_none, A_eq hA, li_0, li_1, li_2, li_3, li_4, li_5, li_6, li_7, li_8, li_9, li_10, li_11, li_12, li_13, li_14, li_15, li_16, li_17, li_18, li_19, li_20, li_21, li_22, li_23, li_24, li_25, li_26, li_27, li_28, li_29, li_30, li_31, li_32, li_63, li_64, li_99, li_100, li_128, li_240, li_256, li_512, li_960, li_1000, li_1022, li_1023, li_100000, li_m1, li_m1000, ↓r_v0 hA, ↓r_c0 hA, ↓r_0_0 hA, ↓r_0_1 hA, ↓r_0_2 hA, ↓r_0_3 hA, ↓r_0_4 hA, ↓r_0_5 hA, ↓r_0_6 hA, ↓r_0_7 hA, ↓r_0_8 hA, ↓r_0_9 hA, ↓r_v1 hA, ↓r_c1 hA, ↓r_1_0 hA, ↓r_1_1 hA, ↓r_1_2 hA, ↓r_1_3 hA, ↓r_1_4 hA, ↓r_v2 hA, ↓r_c2 hA, ↓r_2_0 hA, ↓r_2_1 hA, ↓r_2_2 hA, ↓r_v4 hA, ↓r_c4 hA, ↓r_4_0 hA, ↓r_v5 hA, ↓r_c5 hA, ↓r_5_0 hA, ↓r_5_1 hA, ↓r_5_2 hA, ↓r_5_3 hA, ↓r_5_4 hA, ↓r_5_5 hA, ↓r_5_6p hA, ↓r_5_6n hA, ↓r_5_7p hA, ↓r_5_7n hA, ↓r_5_8 hA, ↓r_5_9 hA, ↓r_5_10 hA, ↓r_5_11 hA, ↓r_5_12 hA, ↓r_5_13 hA, ↓r_5_14 hA, ↓r_5_15 hA, ↓r_5_16 hA, ↓r_5_17 hA, ↓r_v11 hA, ↓r_c11 hA, ↓r_11_0 hA, ↓r_11_1p hA, ↓r_11_2 hA, ↓r_v13 hA, ↓r_c13 hA, ↓r_13_0 hA, ↓r_13_1 hA, ↓r_13_2 hA, ↓r_13_3 hA, ↓r_13_4 hA, ↓r_13_5 hA, ↓r_v14 hA, ↓r_c14 hA, ↓r_14_0 hA, ↓r_v15 hA, ↓r_c15 hA, ↓r_15_0 hA, ↓r_15_1 hA, ↓r_v16 hA, ↓r_c16 hA, ↓r_16_0 hA, r_l3 hA, ↓r_l3 hA, ↓r_n3 hA, r_a3 hA, r_l10 hA, ↓r_l10 hA, ↓r_n10 hA, r_a10 hA, r_l20 hA, ↓r_l20 hA, ↓r_n20 hA, r_a20 hA, r_l6 hA, ↓r_l6 hA, ↓r_n6 hA, r_a6 hA, r_l7 hA, ↓r_l7 hA, ↓r_n7 hA, r_a7 hA, r_l8 hA, ↓r_l8 hA, ↓r_n8 hA, r_a8 hA, r_l9 hA, ↓r_l9 hA, ↓r_n9 hA, r_a9 hA, r_l18 hA, ↓r_l18 hA, ↓r_n18 hA, r_a18 hA, r_l19 hA, ↓r_l19 hA, ↓r_n19 hA, r_a19 hA, r_l21 hA, ↓r_l21 hA, ↓r_n21 hA, r_a21 hA, r_l22 hA, ↓r_l22 hA, ↓r_n22 hA, r_a22 hA, r_l23 hA, ↓r_l23 hA, ↓r_n23 hA, r_a23 hA, r_l24 hA, ↓r_l24 hA, ↓r_n24 hA, r_a24 hA, r_l25 hA, ↓r_l25 hA, ↓r_n25 hA, r_a25 hA, r_l17 hA, ↓r_l17 hA, ↓r_n17 hA, r_sz0 hA, r_gt0 hA, r_sz1 hA, r_gt1 hA, r_sz2 hA, r_gt2 hA, r_sz3 hA, r_gt3 hA, w_s6 hA, w_s7 hA, w_s8 hA, w_s9 hA, w_s18 hA, w_s19 hA, w_s21 hA, w_s22 hA, w_s23 hA, w_s24 hA, w_s25 hA, w_f11 hA, w_f12 hA, w_f13 hA, w_f16 hA]
