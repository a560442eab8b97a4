def busyP (S : SS) (g s : Int) : Bool := bz S g s (S 20 4).toNat 0
def gpF (S : SS) (g : Int) : Nat → Int → Int → Int → Int
  | 0, _, a, _ => a
  | n + 1, s, a, w => if busyP S g s = true then gpF S g n (s + 1) (a + (if w ≤ 0 then 0 else w)) 0 else gpF S g n (s + 1) a (if w < 0 then w else w + 1)
theorem e_X9_isBusy {S : SS} {m0 : Nat} {hs : Hs} (h : MR S m0 hs) (hb : Bn S) (hm : Bm S) {g s : Int} (hs0 : 0 ≤ s) (hs1 : s < 30) (hg0 : 0 ≤ g) (hg1 : g < 8) : f_X9_isBusy m0 (iI g) (iI s) hs = some (.ok (iI (if busyP S g s = true then 1 else 0)), hs) := by
  have h2 := hm
  unfold Bm at h2
  rw [u_f_X9_isBusy, e_lets, li_0, li_1, e_L_busy h hb hm hs0 hs1 hg0 hg1 _ _ (S 20 4).toNat 0 100000 (by omega) (by omega) (by omega)]
  unfold busyP
  split
  · exact e_r1 hs
  · exact e_r0 hs
theorem e_L_gaps {S : SS} {m0 : Nat} {hs : Hs} (h : MR S m0 hs) (hb : Bn S) (hm : Bm S) {g d : Int} (hg0 : 0 ≤ g) (hg1 : g < 8) (hd0 : 0 ≤ d) (hd1 : d < 5) (K : Int32 → OO Int32) : ∀ (n : Nat) (s a w : Int) (fuel : Nat), 6 * d ≤ s → s + n = 6 * d + 6 → -1 ≤ w → w + n ≤ 6 → n < fuel → L_X9_gapsOn_11 (some m0) (iI g) (iI d) K fuel (iI a) (iI w) (iI s) hs = K (iI (gpF S g n s a w)) hs := by
  intro n
  induction n with
  | zero =>
    intro s a w fuel h1 h2 h3 h4 hf
    obtain ⟨f, rfl⟩ : ∃ f, fuel = f + 1 := ⟨fuel - 1, by omega⟩
    have hc : 6 * d + 6 ≤ s := by omega
    rw [u_L_X9_gapsOn_11]
    simp (disch := omega) only [↓reduceIte, ↓e_lets, ↓e_ite, ↓e_cal, e_cal2, ↓u_f_X9_both, e_rtn, e_r0, e_r1, e_dv, ↓m_rcv h, iI_add, iI_sub, iI_mul, iI_div, iI_rem, iI_lt, iI_le, iI_eq, li_0, li_1, li_2, li_3, li_4, li_5, li_6, li_7, li_8, li_9, li_10, li_11, li_12, li_13, li_14, li_15, li_16, li_17, li_18, li_19, li_20, li_21, li_22, li_23, li_24, li_25, li_26, li_27, li_28, li_29, li_30, li_31, li_32, li_63, li_64, li_99, li_100, li_128, li_240, li_256, li_512, li_960, li_1000, li_1022, li_1023, li_100000, li_m1, m_ld0 h, m_ld1 h, m_ld2 h, m_ld3 h, m_ld4 h, m_ld5 h, m_ld6 h, m_ld7 h, m_ld8 h, m_ld9 h, m_ld10 h, m_ld11 h, m_ld12 h, m_ld13 h, m_ld14 h, m_ld15 h, m_ld16 h, m_ld17 h, m_ld18 h, m_ld19 h, ↓m_g0 h, ↓m_g1 h, ↓m_g2 h, ↓m_g3 h, ↓m_g4 h, ↓m_g5 h, ↓m_g6 h, ↓m_g7 h, ↓m_g8 h, ↓m_g9 h, ↓m_g10 h, ↓m_g11 h, ↓m_g12 h, ↓m_g13 h, ↓m_g14 h, ↓m_g15 h, ↓m_g16 h, ↓m_g17 h, ↓m_g18 h, ↓m_g19 h, ↓m_g20 h, ↓m_g21 h, ↓m_g22 h, ↓m_g23 h, ↓m_g24 h, ↓m_g25 h, ↓m_g26 h, ↓m_g27 h, hc, true_and, and_true, false_and, and_false, ne_eq, not_true, not_false_eq_true, if_true, if_false, ite_true, ite_false]
    rfl
  | succ n ih =>
    intro s a w fuel h1 h2 h3 h4 hf
    obtain ⟨f, rfl⟩ : ∃ f, fuel = f + 1 := ⟨fuel - 1, by omega⟩
    have hc : ¬ 6 * d + 6 ≤ s := by omega
    have k1 := e_X9_isBusy h hb hm (s := s) (by omega) (by omega) hg0 hg1
    rw [u_L_X9_gapsOn_11]
    unfold gpF
    by_cases q1 : busyP S g s = true
    · rw [if_pos q1]
      by_cases q2 : w ≤ 0
      · simp (disch := omega) only [↓reduceIte, ↓e_lets, ↓e_ite, ↓e_cal, e_cal2, ↓u_f_X9_both, e_rtn, e_r0, e_r1, e_dv, ↓m_rcv h, iI_add, iI_sub, iI_mul, iI_div, iI_rem, iI_lt, iI_le, iI_eq, li_0, li_1, li_2, li_3, li_4, li_5, li_6, li_7, li_8, li_9, li_10, li_11, li_12, li_13, li_14, li_15, li_16, li_17, li_18, li_19, li_20, li_21, li_22, li_23, li_24, li_25, li_26, li_27, li_28, li_29, li_30, li_31, li_32, li_63, li_64, li_99, li_100, li_128, li_240, li_256, li_512, li_960, li_1000, li_1022, li_1023, li_100000, li_m1, m_ld0 h, m_ld1 h, m_ld2 h, m_ld3 h, m_ld4 h, m_ld5 h, m_ld6 h, m_ld7 h, m_ld8 h, m_ld9 h, m_ld10 h, m_ld11 h, m_ld12 h, m_ld13 h, m_ld14 h, m_ld15 h, m_ld16 h, m_ld17 h, m_ld18 h, m_ld19 h, ↓m_g0 h, ↓m_g1 h, ↓m_g2 h, ↓m_g3 h, ↓m_g4 h, ↓m_g5 h, ↓m_g6 h, ↓m_g7 h, ↓m_g8 h, ↓m_g9 h, ↓m_g10 h, ↓m_g11 h, ↓m_g12 h, ↓m_g13 h, ↓m_g14 h, ↓m_g15 h, ↓m_g16 h, ↓m_g17 h, ↓m_g18 h, ↓m_g19 h, ↓m_g20 h, ↓m_g21 h, ↓m_g22 h, ↓m_g23 h, ↓m_g24 h, ↓m_g25 h, ↓m_g26 h, ↓m_g27 h, hc, k1, b_eq0, q1, q2, ↓u_j_X9_gapsOn_45, ↓u_j_X9_gapsOn_61, true_and, and_true, false_and, and_false, ne_eq, not_true, not_false_eq_true, if_true, if_false, ite_true, ite_false]
        exact ih _ _ _ f (by omega) (by omega) (by omega) (by omega) (by omega)
      · simp (disch := omega) only [↓reduceIte, ↓e_lets, ↓e_ite, ↓e_cal, e_cal2, ↓u_f_X9_both, e_rtn, e_r0, e_r1, e_dv, ↓m_rcv h, iI_add, iI_sub, iI_mul, iI_div, iI_rem, iI_lt, iI_le, iI_eq, li_0, li_1, li_2, li_3, li_4, li_5, li_6, li_7, li_8, li_9, li_10, li_11, li_12, li_13, li_14, li_15, li_16, li_17, li_18, li_19, li_20, li_21, li_22, li_23, li_24, li_25, li_26, li_27, li_28, li_29, li_30, li_31, li_32, li_63, li_64, li_99, li_100, li_128, li_240, li_256, li_512, li_960, li_1000, li_1022, li_1023, li_100000, li_m1, m_ld0 h, m_ld1 h, m_ld2 h, m_ld3 h, m_ld4 h, m_ld5 h, m_ld6 h, m_ld7 h, m_ld8 h, m_ld9 h, m_ld10 h, m_ld11 h, m_ld12 h, m_ld13 h, m_ld14 h, m_ld15 h, m_ld16 h, m_ld17 h, m_ld18 h, m_ld19 h, ↓m_g0 h, ↓m_g1 h, ↓m_g2 h, ↓m_g3 h, ↓m_g4 h, ↓m_g5 h, ↓m_g6 h, ↓m_g7 h, ↓m_g8 h, ↓m_g9 h, ↓m_g10 h, ↓m_g11 h, ↓m_g12 h, ↓m_g13 h, ↓m_g14 h, ↓m_g15 h, ↓m_g16 h, ↓m_g17 h, ↓m_g18 h, ↓m_g19 h, ↓m_g20 h, ↓m_g21 h, ↓m_g22 h, ↓m_g23 h, ↓m_g24 h, ↓m_g25 h, ↓m_g26 h, ↓m_g27 h, hc, k1, b_eq0, q1, q2, ↓u_j_X9_gapsOn_45, ↓u_j_X9_gapsOn_61, true_and, and_true, false_and, and_false, ne_eq, not_true, not_false_eq_true, if_true, if_false, ite_true, ite_false]
        exact ih _ _ _ f (by omega) (by omega) (by omega) (by omega) (by omega)
    · rw [if_neg q1]
      by_cases q2 : w < 0
      · simp (disch := omega) only [↓reduceIte, ↓e_lets, ↓e_ite, ↓e_cal, e_cal2, ↓u_f_X9_both, e_rtn, e_r0, e_r1, e_dv, ↓m_rcv h, iI_add, iI_sub, iI_mul, iI_div, iI_rem, iI_lt, iI_le, iI_eq, li_0, li_1, li_2, li_3, li_4, li_5, li_6, li_7, li_8, li_9, li_10, li_11, li_12, li_13, li_14, li_15, li_16, li_17, li_18, li_19, li_20, li_21, li_22, li_23, li_24, li_25, li_26, li_27, li_28, li_29, li_30, li_31, li_32, li_63, li_64, li_99, li_100, li_128, li_240, li_256, li_512, li_960, li_1000, li_1022, li_1023, li_100000, li_m1, m_ld0 h, m_ld1 h, m_ld2 h, m_ld3 h, m_ld4 h, m_ld5 h, m_ld6 h, m_ld7 h, m_ld8 h, m_ld9 h, m_ld10 h, m_ld11 h, m_ld12 h, m_ld13 h, m_ld14 h, m_ld15 h, m_ld16 h, m_ld17 h, m_ld18 h, m_ld19 h, ↓m_g0 h, ↓m_g1 h, ↓m_g2 h, ↓m_g3 h, ↓m_g4 h, ↓m_g5 h, ↓m_g6 h, ↓m_g7 h, ↓m_g8 h, ↓m_g9 h, ↓m_g10 h, ↓m_g11 h, ↓m_g12 h, ↓m_g13 h, ↓m_g14 h, ↓m_g15 h, ↓m_g16 h, ↓m_g17 h, ↓m_g18 h, ↓m_g19 h, ↓m_g20 h, ↓m_g21 h, ↓m_g22 h, ↓m_g23 h, ↓m_g24 h, ↓m_g25 h, ↓m_g26 h, ↓m_g27 h, hc, k1, b_eq0, q1, q2, ↓u_j_X9_gapsOn_45, ↓u_j_X9_gapsOn_61, true_and, and_true, false_and, and_false, ne_eq, not_true, not_false_eq_true, if_true, if_false, ite_true, ite_false]
        exact ih _ _ _ f (by omega) (by omega) (by omega) (by omega) (by omega)
      · simp (disch := omega) only [↓reduceIte, ↓e_lets, ↓e_ite, ↓e_cal, e_cal2, ↓u_f_X9_both, e_rtn, e_r0, e_r1, e_dv, ↓m_rcv h, iI_add, iI_sub, iI_mul, iI_div, iI_rem, iI_lt, iI_le, iI_eq, li_0, li_1, li_2, li_3, li_4, li_5, li_6, li_7, li_8, li_9, li_10, li_11, li_12, li_13, li_14, li_15, li_16, li_17, li_18, li_19, li_20, li_21, li_22, li_23, li_24, li_25, li_26, li_27, li_28, li_29, li_30, li_31, li_32, li_63, li_64, li_99, li_100, li_128, li_240, li_256, li_512, li_960, li_1000, li_1022, li_1023, li_100000, li_m1, m_ld0 h, m_ld1 h, m_ld2 h, m_ld3 h, m_ld4 h, m_ld5 h, m_ld6 h, m_ld7 h, m_ld8 h, m_ld9 h, m_ld10 h, m_ld11 h, m_ld12 h, m_ld13 h, m_ld14 h, m_ld15 h, m_ld16 h, m_ld17 h, m_ld18 h, m_ld19 h, ↓m_g0 h, ↓m_g1 h, ↓m_g2 h, ↓m_g3 h, ↓m_g4 h, ↓m_g5 h, ↓m_g6 h, ↓m_g7 h, ↓m_g8 h, ↓m_g9 h, ↓m_g10 h, ↓m_g11 h, ↓m_g12 h, ↓m_g13 h, ↓m_g14 h, ↓m_g15 h, ↓m_g16 h, ↓m_g17 h, ↓m_g18 h, ↓m_g19 h, ↓m_g20 h, ↓m_g21 h, ↓m_g22 h, ↓m_g23 h, ↓m_g24 h, ↓m_g25 h, ↓m_g26 h, ↓m_g27 h, hc, k1, b_eq0, q1, q2, ↓u_j_X9_gapsOn_45, ↓u_j_X9_gapsOn_61, true_and, and_true, false_and, and_false, ne_eq, not_true, not_false_eq_true, if_true, if_false, ite_true, ite_false]
        exact ih _ _ _ f (by omega) (by omega) (by omega) (by omega) (by omega)
theorem e_X9_gapsOn {S : SS} {m0 : Nat} {hs : Hs} (h : MR S m0 hs) (hb : Bn S) (hm : Bm S) {g d : Int} (hg0 : 0 ≤ g) (hg1 : g < 8) (hd0 : 0 ≤ d) (hd1 : d < 5) : f_X9_gapsOn m0 (iI g) (iI d) hs = some (.ok (iI (gpF S g 6 (6 * d) 0 (-1))), hs) := by
  rw [u_f_X9_gapsOn, e_lets, e_lets, e_lets, li_0, li_6, li_m1, iI_mul, e_L_gaps h hb hm hg0 hg1 hd0 hd1 _ 6 (6 * d) 0 (-1) 100000 (by omega) (by omega) (by omega) (by omega) (by omega)]
  rfl
