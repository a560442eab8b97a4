def hasP (S : SS) (l s : Int) : Prop := 0 ≤ S 14 l ∧ S 14 l / 8 ≤ s ∧ s < S 14 l / 8 + S 12 l
def bz (S : SS) (g s : Int) : Nat → Int → Bool
  | 0, _ => false
  | n + 1, k => (decide (S 9 k = g) && decide (0 ≤ S 14 k ∧ S 14 k / 8 ≤ s ∧ s < S 14 k / 8 + S 12 k)) || bz S g s n (k + 1)
theorem e_L_busy {S : SS} {m0 : Nat} {hs : Hs} (h : MR S m0 hs) (hb : Bn S) (hm : Bm S) {g s : Int} (hs0 : 0 ≤ s) (hs1 : s < 30) (hg0 : 0 ≤ g) (hg1 : g < 8) (K1 K0 : OO Int32) : ∀ (n : Nat) (k : Int) (fuel : Nat), 0 ≤ k → k + n = S 20 4 → n < fuel → L_X9_isBusy_2 (some m0) (iI g) (iI s) K1 K0 fuel (iI k) hs = if bz S g s n k = true then K1 hs else K0 hs := by
  have h2 := hm
  unfold Bm at h2
  intro n
  induction n with
  | zero =>
    intro k fuel hk0 hk hf
    obtain ⟨f, rfl⟩ : ∃ f, fuel = f + 1 := ⟨fuel - 1, by omega⟩
    have hc : S 20 4 ≤ k := by omega
    rw [u_L_X9_isBusy_2]
    simp (disch := omega) only [↓reduceIte, ↓e_lets, ↓e_ite, ↓e_cal, e_cal2, ↓u_f_X9_both, e_rtn, e_r0, e_r1, e_dv, ↓m_rcv h, iI_add, iI_sub, iI_mul, iI_div, iI_rem, iI_lt, iI_le, iI_eq, li_0, li_1, li_2, li_3, li_4, li_5, li_6, li_7, li_8, li_9, li_10, li_11, li_12, li_13, li_14, li_15, li_16, li_17, li_18, li_19, li_20, li_21, li_22, li_23, li_24, li_25, li_26, li_27, li_28, li_29, li_30, li_31, li_32, li_63, li_64, li_99, li_100, li_128, li_240, li_256, li_512, li_960, li_1000, li_1022, li_1023, li_100000, li_m1, m_ld0 h, m_ld1 h, m_ld2 h, m_ld3 h, m_ld4 h, m_ld5 h, m_ld6 h, m_ld7 h, m_ld8 h, m_ld9 h, m_ld10 h, m_ld11 h, m_ld12 h, m_ld13 h, m_ld14 h, m_ld15 h, m_ld16 h, m_ld17 h, m_ld18 h, m_ld19 h, ↓m_g0 h, ↓m_g1 h, ↓m_g2 h, ↓m_g3 h, ↓m_g4 h, ↓m_g5 h, ↓m_g6 h, ↓m_g7 h, ↓m_g8 h, ↓m_g9 h, ↓m_g10 h, ↓m_g11 h, ↓m_g12 h, ↓m_g13 h, ↓m_g14 h, ↓m_g15 h, ↓m_g16 h, ↓m_g17 h, ↓m_g18 h, ↓m_g19 h, ↓m_g20 h, ↓m_g21 h, ↓m_g22 h, ↓m_g23 h, ↓m_g24 h, ↓m_g25 h, ↓m_g26 h, ↓m_g27 h, hc, true_and, and_true, false_and, and_false, ne_eq, not_true, not_false_eq_true, if_true, if_false, ite_true, ite_false]
    simp only [bz, Bool.false_eq_true, if_false]
  | succ n ih =>
    intro k fuel hk0 hk hf
    obtain ⟨f, rfl⟩ : ∃ f, fuel = f + 1 := ⟨fuel - 1, by omega⟩
    have hc : ¬ S 20 4 ≤ k := by omega
    have h5 := hb k
    have k1 := e_X9_hasAt h hb (l := k) hk0 (by omega) hs0 hs1
    have ih2 := ih (k + 1) f (by omega) (by omega) (by omega)
    rw [u_L_X9_isBusy_2]
    by_cases q1 : S 9 k = g
    · by_cases q2 : 0 ≤ S 14 k ∧ S 14 k / 8 ≤ s ∧ s < S 14 k / 8 + S 12 k
      · have q3 : bz S g s (n + 1) k = true := by simp only [bz, q1, q2, decide_true, and_self, Bool.true_and, Bool.true_or]
        rw [if_pos q3]
        simp (disch := omega) only [↓reduceIte, ↓e_lets, ↓e_ite, ↓e_cal, e_cal2, ↓u_f_X9_both, e_rtn, e_r0, e_r1, e_dv, ↓m_rcv h, iI_add, iI_sub, iI_mul, iI_div, iI_rem, iI_lt, iI_le, iI_eq, li_0, li_1, li_2, li_3, li_4, li_5, li_6, li_7, li_8, li_9, li_10, li_11, li_12, li_13, li_14, li_15, li_16, li_17, li_18, li_19, li_20, li_21, li_22, li_23, li_24, li_25, li_26, li_27, li_28, li_29, li_30, li_31, li_32, li_63, li_64, li_99, li_100, li_128, li_240, li_256, li_512, li_960, li_1000, li_1022, li_1023, li_100000, li_m1, m_ld0 h, m_ld1 h, m_ld2 h, m_ld3 h, m_ld4 h, m_ld5 h, m_ld6 h, m_ld7 h, m_ld8 h, m_ld9 h, m_ld10 h, m_ld11 h, m_ld12 h, m_ld13 h, m_ld14 h, m_ld15 h, m_ld16 h, m_ld17 h, m_ld18 h, m_ld19 h, ↓m_g0 h, ↓m_g1 h, ↓m_g2 h, ↓m_g3 h, ↓m_g4 h, ↓m_g5 h, ↓m_g6 h, ↓m_g7 h, ↓m_g8 h, ↓m_g9 h, ↓m_g10 h, ↓m_g11 h, ↓m_g12 h, ↓m_g13 h, ↓m_g14 h, ↓m_g15 h, ↓m_g16 h, ↓m_g17 h, ↓m_g18 h, ↓m_g19 h, ↓m_g20 h, ↓m_g21 h, ↓m_g22 h, ↓m_g23 h, ↓m_g24 h, ↓m_g25 h, ↓m_g26 h, ↓m_g27 h, hc, k1, b_eq0, q1, q2, ite_not, ↓u_j_X9_isBusy_31, and_self, true_and, and_true, false_and, and_false, ne_eq, not_true, not_false_eq_true, if_true, if_false, ite_true, ite_false]
        all_goals first | rfl | (rw [if_neg (by decide)])
      · have q3 : bz S g s (n + 1) k = bz S g s n (k + 1) := by simp only [bz, q1, q2, decide_true, decide_false, Bool.and_false, Bool.false_or]
        rw [q3]
        simp (disch := omega) only [↓reduceIte, ↓e_lets, ↓e_ite, ↓e_cal, e_cal2, ↓u_f_X9_both, e_rtn, e_r0, e_r1, e_dv, ↓m_rcv h, iI_add, iI_sub, iI_mul, iI_div, iI_rem, iI_lt, iI_le, iI_eq, li_0, li_1, li_2, li_3, li_4, li_5, li_6, li_7, li_8, li_9, li_10, li_11, li_12, li_13, li_14, li_15, li_16, li_17, li_18, li_19, li_20, li_21, li_22, li_23, li_24, li_25, li_26, li_27, li_28, li_29, li_30, li_31, li_32, li_63, li_64, li_99, li_100, li_128, li_240, li_256, li_512, li_960, li_1000, li_1022, li_1023, li_100000, li_m1, m_ld0 h, m_ld1 h, m_ld2 h, m_ld3 h, m_ld4 h, m_ld5 h, m_ld6 h, m_ld7 h, m_ld8 h, m_ld9 h, m_ld10 h, m_ld11 h, m_ld12 h, m_ld13 h, m_ld14 h, m_ld15 h, m_ld16 h, m_ld17 h, m_ld18 h, m_ld19 h, ↓m_g0 h, ↓m_g1 h, ↓m_g2 h, ↓m_g3 h, ↓m_g4 h, ↓m_g5 h, ↓m_g6 h, ↓m_g7 h, ↓m_g8 h, ↓m_g9 h, ↓m_g10 h, ↓m_g11 h, ↓m_g12 h, ↓m_g13 h, ↓m_g14 h, ↓m_g15 h, ↓m_g16 h, ↓m_g17 h, ↓m_g18 h, ↓m_g19 h, ↓m_g20 h, ↓m_g21 h, ↓m_g22 h, ↓m_g23 h, ↓m_g24 h, ↓m_g25 h, ↓m_g26 h, ↓m_g27 h, hc, k1, b_eq0, q1, q2, ite_not, ↓u_j_X9_isBusy_31, and_self, true_and, and_true, false_and, and_false, ne_eq, not_true, not_false_eq_true, if_true, if_false, ite_true, ite_false]
        exact ih2
    · have q3 : bz S g s (n + 1) k = bz S g s n (k + 1) := by simp only [bz, q1, decide_false, Bool.false_and, Bool.false_or]
      rw [q3]
      simp (disch := omega) only [↓reduceIte, ↓e_lets, ↓e_ite, ↓e_cal, e_cal2, ↓u_f_X9_both, e_rtn, e_r0, e_r1, e_dv, ↓m_rcv h, iI_add, iI_sub, iI_mul, iI_div, iI_rem, iI_lt, iI_le, iI_eq, li_0, li_1, li_2, li_3, li_4, li_5, li_6, li_7, li_8, li_9, li_10, li_11, li_12, li_13, li_14, li_15, li_16, li_17, li_18, li_19, li_20, li_21, li_22, li_23, li_24, li_25, li_26, li_27, li_28, li_29, li_30, li_31, li_32, li_63, li_64, li_99, li_100, li_128, li_240, li_256, li_512, li_960, li_1000, li_1022, li_1023, li_100000, li_m1, m_ld0 h, m_ld1 h, m_ld2 h, m_ld3 h, m_ld4 h, m_ld5 h, m_ld6 h, m_ld7 h, m_ld8 h, m_ld9 h, m_ld10 h, m_ld11 h, m_ld12 h, m_ld13 h, m_ld14 h, m_ld15 h, m_ld16 h, m_ld17 h, m_ld18 h, m_ld19 h, ↓m_g0 h, ↓m_g1 h, ↓m_g2 h, ↓m_g3 h, ↓m_g4 h, ↓m_g5 h, ↓m_g6 h, ↓m_g7 h, ↓m_g8 h, ↓m_g9 h, ↓m_g10 h, ↓m_g11 h, ↓m_g12 h, ↓m_g13 h, ↓m_g14 h, ↓m_g15 h, ↓m_g16 h, ↓m_g17 h, ↓m_g18 h, ↓m_g19 h, ↓m_g20 h, ↓m_g21 h, ↓m_g22 h, ↓m_g23 h, ↓m_g24 h, ↓m_g25 h, ↓m_g26 h, ↓m_g27 h, hc, k1, b_eq0, q1, ite_not, ↓u_j_X9_isBusy_31, and_self, true_and, and_true, false_and, and_false, ne_eq, not_true, not_false_eq_true, if_true, if_false, ite_true, ite_false]
      exact ih2
