def sumF (f : Int → Int) : Nat → Int → Int → Int
  | 0, _, a => a
  | n + 1, k, a => sumF f n (k + 1) (a + f k)
theorem sumF_add (f : Int → Int) : ∀ (n : Nat) (k a : Int), sumF f n k a = a + sumF f n k 0 := by
  intro n
  induction n with
  | zero => intro k a; simp [sumF]
  | succ n ih =>
    intro k a
    unfold sumF
    rw [ih (k + 1) (a + f k), ih (k + 1) (0 + f k)]
    omega
def gapK (S : SS) (k : Int) : Int := gpF S (k / 5) 6 (6 * (k % 5)) 0 (-1)
def lateP (S : SS) (k : Int) : Prop := 0 ≤ S 14 k ∧ (S 14 k / 8 + S 12 k) % 6 = 0
def lateK (S : SS) (k : Int) : Int := if 0 ≤ S 14 k ∧ (S 14 k / 8 + S 12 k) % 6 = 0 then 1 + S 4 (S 10 k) else 0
theorem e_L_am0 {S : SS} {m0 : Nat} {hs : Hs} (h : MR S m0 hs) (hb : Bn S) (hm : Bm S) (K : Int32 → OO Int32) : ∀ (n : Nat) (k a : Int) (fuel : Nat), 0 ≤ k → k + n = S 20 3 * 5 → n < fuel → L_X9_amountOf_4 (some m0) (iI 0) K fuel (iI a) (iI k) hs = K (iI (sumF (gapK S) n k a)) hs := by
  have h9 := hm
  unfold Bm at h9
  intro n
  induction n with
  | zero =>
    intro k a fuel hk0 hk hf
    obtain ⟨f, rfl⟩ : ∃ f, fuel = f + 1 := ⟨fuel - 1, by omega⟩
    have hc : S 20 3 * 5 ≤ k := by omega
    rw [u_L_X9_amountOf_4]
    simp (disch := omega) only [↓reduceIte, ↓e_lets, ↓e_ite, ↓e_cal, e_cal2, ↓u_f_X9_both, e_rtn, e_r0, e_r1, e_dv, ↓m_rcv h, iI_add, iI_sub, iI_mul, iI_div, iI_rem, iI_lt, iI_le, iI_eq, li_0, li_1, li_2, li_3, li_4, li_5, li_6, li_7, li_8, li_9, li_10, li_11, li_12, li_13, li_14, li_15, li_16, li_17, li_18, li_19, li_20, li_21, li_22, li_23, li_24, li_25, li_26, li_27, li_28, li_29, li_30, li_31, li_32, li_63, li_64, li_99, li_100, li_128, li_240, li_256, li_512, li_960, li_1000, li_1022, li_1023, li_100000, li_m1, m_ld0 h, m_ld1 h, m_ld2 h, m_ld3 h, m_ld4 h, m_ld5 h, m_ld6 h, m_ld7 h, m_ld8 h, m_ld9 h, m_ld10 h, m_ld11 h, m_ld12 h, m_ld13 h, m_ld14 h, m_ld15 h, m_ld16 h, m_ld17 h, m_ld18 h, m_ld19 h, ↓m_g0 h, ↓m_g1 h, ↓m_g2 h, ↓m_g3 h, ↓m_g4 h, ↓m_g5 h, ↓m_g6 h, ↓m_g7 h, ↓m_g8 h, ↓m_g9 h, ↓m_g10 h, ↓m_g11 h, ↓m_g12 h, ↓m_g13 h, ↓m_g14 h, ↓m_g15 h, ↓m_g16 h, ↓m_g17 h, ↓m_g18 h, ↓m_g19 h, ↓m_g20 h, ↓m_g21 h, ↓m_g22 h, ↓m_g23 h, ↓m_g24 h, ↓m_g25 h, ↓m_g26 h, ↓m_g27 h, hc, true_and, and_true, false_and, and_false, ne_eq, not_true, not_false_eq_true, if_true, if_false, ite_true, ite_false, ite_not]
    rfl
  | succ n ih =>
    intro k a fuel hk0 hk hf
    obtain ⟨f, rfl⟩ : ∃ f, fuel = f + 1 := ⟨fuel - 1, by omega⟩
    have hc : ¬ S 20 3 * 5 ≤ k := by omega
    have k1 := e_X9_gapsOn h hb hm (g := k / 5) (d := k % 5) (by omega) (by omega) (by omega) (by omega)
    rw [u_L_X9_amountOf_4]
    unfold sumF
    simp (disch := omega) only [↓reduceIte, ↓e_lets, ↓e_ite, ↓e_cal, e_cal2, ↓u_f_X9_both, e_rtn, e_r0, e_r1, e_dv, ↓m_rcv h, iI_add, iI_sub, iI_mul, iI_div, iI_rem, iI_lt, iI_le, iI_eq, li_0, li_1, li_2, li_3, li_4, li_5, li_6, li_7, li_8, li_9, li_10, li_11, li_12, li_13, li_14, li_15, li_16, li_17, li_18, li_19, li_20, li_21, li_22, li_23, li_24, li_25, li_26, li_27, li_28, li_29, li_30, li_31, li_32, li_63, li_64, li_99, li_100, li_128, li_240, li_256, li_512, li_960, li_1000, li_1022, li_1023, li_100000, li_m1, m_ld0 h, m_ld1 h, m_ld2 h, m_ld3 h, m_ld4 h, m_ld5 h, m_ld6 h, m_ld7 h, m_ld8 h, m_ld9 h, m_ld10 h, m_ld11 h, m_ld12 h, m_ld13 h, m_ld14 h, m_ld15 h, m_ld16 h, m_ld17 h, m_ld18 h, m_ld19 h, ↓m_g0 h, ↓m_g1 h, ↓m_g2 h, ↓m_g3 h, ↓m_g4 h, ↓m_g5 h, ↓m_g6 h, ↓m_g7 h, ↓m_g8 h, ↓m_g9 h, ↓m_g10 h, ↓m_g11 h, ↓m_g12 h, ↓m_g13 h, ↓m_g14 h, ↓m_g15 h, ↓m_g16 h, ↓m_g17 h, ↓m_g18 h, ↓m_g19 h, ↓m_g20 h, ↓m_g21 h, ↓m_g22 h, ↓m_g23 h, ↓m_g24 h, ↓m_g25 h, ↓m_g26 h, ↓m_g27 h, hc, k1, not_true, ite_not, true_and, and_true, false_and, and_false, ne_eq, not_true, not_false_eq_true, if_true, if_false, ite_true, ite_false]
    exact ih _ _ f (by omega) (by omega) (by omega)
theorem e_L_am1 {S : SS} {m0 : Nat} {hs : Hs} (h : MR S m0 hs) (hb : Bn S) (hm : Bm S) (K : Int32 → OO Int32) : ∀ (n : Nat) (k a : Int) (fuel : Nat), 0 ≤ k → k + n = S 20 4 → n < fuel → L_X9_amountOf_39 (some m0) (iI 1) K fuel (iI a) (iI k) hs = K (iI (sumF (lateK S) n k a)) hs := by
  have h9 := hm
  unfold Bm at h9
  intro n
  induction n with
  | zero =>
    intro k a fuel hk0 hk hf
    obtain ⟨f, rfl⟩ : ∃ f, fuel = f + 1 := ⟨fuel - 1, by omega⟩
    have hc : S 20 4 ≤ k := by omega
    rw [u_L_X9_amountOf_39]
    simp (disch := omega) only [↓reduceIte, ↓e_lets, ↓e_ite, ↓e_cal, e_cal2, ↓u_f_X9_both, e_rtn, e_r0, e_r1, e_dv, ↓m_rcv h, iI_add, iI_sub, iI_mul, iI_div, iI_rem, iI_lt, iI_le, iI_eq, li_0, li_1, li_2, li_3, li_4, li_5, li_6, li_7, li_8, li_9, li_10, li_11, li_12, li_13, li_14, li_15, li_16, li_17, li_18, li_19, li_20, li_21, li_22, li_23, li_24, li_25, li_26, li_27, li_28, li_29, li_30, li_31, li_32, li_63, li_64, li_99, li_100, li_128, li_240, li_256, li_512, li_960, li_1000, li_1022, li_1023, li_100000, li_m1, m_ld0 h, m_ld1 h, m_ld2 h, m_ld3 h, m_ld4 h, m_ld5 h, m_ld6 h, m_ld7 h, m_ld8 h, m_ld9 h, m_ld10 h, m_ld11 h, m_ld12 h, m_ld13 h, m_ld14 h, m_ld15 h, m_ld16 h, m_ld17 h, m_ld18 h, m_ld19 h, ↓m_g0 h, ↓m_g1 h, ↓m_g2 h, ↓m_g3 h, ↓m_g4 h, ↓m_g5 h, ↓m_g6 h, ↓m_g7 h, ↓m_g8 h, ↓m_g9 h, ↓m_g10 h, ↓m_g11 h, ↓m_g12 h, ↓m_g13 h, ↓m_g14 h, ↓m_g15 h, ↓m_g16 h, ↓m_g17 h, ↓m_g18 h, ↓m_g19 h, ↓m_g20 h, ↓m_g21 h, ↓m_g22 h, ↓m_g23 h, ↓m_g24 h, ↓m_g25 h, ↓m_g26 h, ↓m_g27 h, hc, true_and, and_true, false_and, and_false, ne_eq, not_true, not_false_eq_true, if_true, if_false, ite_true, ite_false, ite_not]
    rfl
  | succ n ih =>
    intro k a fuel hk0 hk hf
    obtain ⟨f, rfl⟩ : ∃ f, fuel = f + 1 := ⟨fuel - 1, by omega⟩
    have hc : ¬ S 20 4 ≤ k := by omega
    have k1 := e_X9_isLate h hb (l := k) (by omega) (by omega)
    have h2 := hb k
    have h3 := hb (S 10 k)
    rw [u_L_X9_amountOf_39]
    unfold sumF
    unfold lateK
    by_cases q1 : 0 ≤ S 14 k ∧ (S 14 k / 8 + S 12 k) % 6 = 0
    · rw [if_pos q1]
      simp (disch := omega) only [↓reduceIte, ↓e_lets, ↓e_ite, ↓e_cal, e_cal2, ↓u_f_X9_both, e_rtn, e_r0, e_r1, e_dv, ↓m_rcv h, iI_add, iI_sub, iI_mul, iI_div, iI_rem, iI_lt, iI_le, iI_eq, li_0, li_1, li_2, li_3, li_4, li_5, li_6, li_7, li_8, li_9, li_10, li_11, li_12, li_13, li_14, li_15, li_16, li_17, li_18, li_19, li_20, li_21, li_22, li_23, li_24, li_25, li_26, li_27, li_28, li_29, li_30, li_31, li_32, li_63, li_64, li_99, li_100, li_128, li_240, li_256, li_512, li_960, li_1000, li_1022, li_1023, li_100000, li_m1, m_ld0 h, m_ld1 h, m_ld2 h, m_ld3 h, m_ld4 h, m_ld5 h, m_ld6 h, m_ld7 h, m_ld8 h, m_ld9 h, m_ld10 h, m_ld11 h, m_ld12 h, m_ld13 h, m_ld14 h, m_ld15 h, m_ld16 h, m_ld17 h, m_ld18 h, m_ld19 h, ↓m_g0 h, ↓m_g1 h, ↓m_g2 h, ↓m_g3 h, ↓m_g4 h, ↓m_g5 h, ↓m_g6 h, ↓m_g7 h, ↓m_g8 h, ↓m_g9 h, ↓m_g10 h, ↓m_g11 h, ↓m_g12 h, ↓m_g13 h, ↓m_g14 h, ↓m_g15 h, ↓m_g16 h, ↓m_g17 h, ↓m_g18 h, ↓m_g19 h, ↓m_g20 h, ↓m_g21 h, ↓m_g22 h, ↓m_g23 h, ↓m_g24 h, ↓m_g25 h, ↓m_g26 h, ↓m_g27 h, hc, k1, b_eq0, q1, ite_not, ↓u_j_X9_amountOf_78, true_and, and_true, false_and, and_false, ne_eq, not_true, not_false_eq_true, if_true, if_false, ite_true, ite_false]
      refine Eq.trans (ih _ _ f (by omega) (by omega) (by omega)) ?_
      rfl
    · rw [if_neg q1]
      simp (disch := omega) only [↓reduceIte, ↓e_lets, ↓e_ite, ↓e_cal, e_cal2, ↓u_f_X9_both, e_rtn, e_r0, e_r1, e_dv, ↓m_rcv h, iI_add, iI_sub, iI_mul, iI_div, iI_rem, iI_lt, iI_le, iI_eq, li_0, li_1, li_2, li_3, li_4, li_5, li_6, li_7, li_8, li_9, li_10, li_11, li_12, li_13, li_14, li_15, li_16, li_17, li_18, li_19, li_20, li_21, li_22, li_23, li_24, li_25, li_26, li_27, li_28, li_29, li_30, li_31, li_32, li_63, li_64, li_99, li_100, li_128, li_240, li_256, li_512, li_960, li_1000, li_1022, li_1023, li_100000, li_m1, m_ld0 h, m_ld1 h, m_ld2 h, m_ld3 h, m_ld4 h, m_ld5 h, m_ld6 h, m_ld7 h, m_ld8 h, m_ld9 h, m_ld10 h, m_ld11 h, m_ld12 h, m_ld13 h, m_ld14 h, m_ld15 h, m_ld16 h, m_ld17 h, m_ld18 h, m_ld19 h, ↓m_g0 h, ↓m_g1 h, ↓m_g2 h, ↓m_g3 h, ↓m_g4 h, ↓m_g5 h, ↓m_g6 h, ↓m_g7 h, ↓m_g8 h, ↓m_g9 h, ↓m_g10 h, ↓m_g11 h, ↓m_g12 h, ↓m_g13 h, ↓m_g14 h, ↓m_g15 h, ↓m_g16 h, ↓m_g17 h, ↓m_g18 h, ↓m_g19 h, ↓m_g20 h, ↓m_g21 h, ↓m_g22 h, ↓m_g23 h, ↓m_g24 h, ↓m_g25 h, ↓m_g26 h, ↓m_g27 h, hc, k1, b_eq0, q1, ite_not, ↓u_j_X9_amountOf_78, true_and, and_true, false_and, and_false, ne_eq, not_true, not_false_eq_true, if_true, if_false, ite_true, ite_false]
      refine Eq.trans (ih _ _ f (by omega) (by omega) (by omega)) ?_
      rfl
