theorem off_bit0 : ∀ x : Fin 32, ∀ d : Fin 5, irem ((iI (x.val : Int)) >>> ((iI (d.val : Int)) &&& 31)) (iI 2) = iI ((x.val / 2 ^ d.val % 2 : Nat) : Int) := by decide +kernel
def offB (x d : Int) : Int := ((x.toNat / 2 ^ d.toNat % 2 : Nat) : Int)
theorem off_bit {x d : Int} (h0 : 0 ≤ x) (h1 : x < 32) (h2 : 0 ≤ d) (h3 : d < 5) : irem (iI x >>> (iI d &&& iI 31)) (iI 2) = iI (offB x d) := by
  have h := off_bit0 ⟨x.toNat, by omega⟩ ⟨d.toNat, by omega⟩
  rw [← li_31]
  simp only [Int.toNat_of_nonneg h0, Int.toNat_of_nonneg h2] at h
  exact h
theorem offB_b (x d : Int) : 0 ≤ offB x d ∧ offB x d < 2 := by
  unfold offB
  omega
theorem e_p132 {S : SS} {m0 : Nat} {hs : Hs} (h : MR S m0 hs) (hb : Bn S) {x0 x1 r : Int} (hr0 : 0 ≤ r) (hr1 : r < 8) : j_X9_plainLetters_132 (some m0) (iI r) (iI x0) (iI x1) hs = some (.ok (iI (x1 + x0 + (if S 7 r = 0 then 0 else 32))), hs) := by
  have h5 := hb r
  rw [u_j_X9_plainLetters_132]
  by_cases q1 : S 7 r = 0 <;> simp (disch := omega) only [↓reduceIte, ↓e_lets, ↓e_ite, ↓e_cal, e_cal2, ↓u_f_X9_both, e_rtn, e_r0, e_r1, e_dv, ↓m_rcv h, iI_add, iI_sub, iI_mul, iI_div, iI_rem, iI_lt, iI_le, iI_eq, li_0, li_1, li_2, li_3, li_4, li_5, li_6, li_7, li_8, li_9, li_10, li_11, li_12, li_13, li_14, li_15, li_16, li_17, li_18, li_19, li_20, li_21, li_22, li_23, li_24, li_25, li_26, li_27, li_28, li_29, li_30, li_31, li_32, li_63, li_64, li_99, li_100, li_128, li_240, li_256, li_512, li_960, li_1000, li_1022, li_1023, li_100000, li_m1, m_ld0 h, m_ld1 h, m_ld2 h, m_ld3 h, m_ld4 h, m_ld5 h, m_ld6 h, m_ld7 h, m_ld8 h, m_ld9 h, m_ld10 h, m_ld11 h, m_ld12 h, m_ld13 h, m_ld14 h, m_ld15 h, m_ld16 h, m_ld17 h, m_ld18 h, m_ld19 h, ↓m_g0 h, ↓m_g1 h, ↓m_g2 h, ↓m_g3 h, ↓m_g4 h, ↓m_g5 h, ↓m_g6 h, ↓m_g7 h, ↓m_g8 h, ↓m_g9 h, ↓m_g10 h, ↓m_g11 h, ↓m_g12 h, ↓m_g13 h, ↓m_g14 h, ↓m_g15 h, ↓m_g16 h, ↓m_g17 h, ↓m_g18 h, ↓m_g19 h, ↓m_g20 h, ↓m_g21 h, ↓m_g22 h, ↓m_g23 h, ↓m_g24 h, ↓m_g25 h, ↓m_g26 h, ↓m_g27 h, q1, true_and, and_true, false_and, and_false, ne_eq, not_true, not_false_eq_true, if_true, if_false, ite_true, ite_false] <;> first | rfl | exact fin_ok (by omega) | skip
theorem e_p101 {S : SS} {m0 : Nat} {hs : Hs} (h : MR S m0 hs) (hb : Bn S) {l : Int} (h0l : 0 ≤ l) (h1l : l < 16) {x0 x1 r : Int} (hr0 : 0 ≤ r) (hr1 : r < 8) : j_X9_plainLetters_101 (some m0) (iI l) (iI r) (iI x0) (iI x1) hs = some (.ok (iI (x1 + x0 + (if S 5 (S 9 l) ≤ S 2 r then 0 else 16) + (if S 7 r = 0 then 0 else 32))), hs) := by
  have h2 := hb l
  have h3 := hb r
  have h4 := hb (S 9 l)
  have h5 := hb (S 10 l)
  rw [u_j_X9_plainLetters_101]
  by_cases q1 : S 5 (S 9 l) ≤ S 2 r <;> simp (disch := omega) only [↓reduceIte, ↓e_lets, ↓e_ite, ↓e_cal, e_cal2, ↓u_f_X9_both, e_rtn, e_r0, e_r1, e_dv, ↓m_rcv h, iI_add, iI_sub, iI_mul, iI_div, iI_rem, iI_lt, iI_le, iI_eq, li_0, li_1, li_2, li_3, li_4, li_5, li_6, li_7, li_8, li_9, li_10, li_11, li_12, li_13, li_14, li_15, li_16, li_17, li_18, li_19, li_20, li_21, li_22, li_23, li_24, li_25, li_26, li_27, li_28, li_29, li_30, li_31, li_32, li_63, li_64, li_99, li_100, li_128, li_240, li_256, li_512, li_960, li_1000, li_1022, li_1023, li_100000, li_m1, m_ld0 h, m_ld1 h, m_ld2 h, m_ld3 h, m_ld4 h, m_ld5 h, m_ld6 h, m_ld7 h, m_ld8 h, m_ld9 h, m_ld10 h, m_ld11 h, m_ld12 h, m_ld13 h, m_ld14 h, m_ld15 h, m_ld16 h, m_ld17 h, m_ld18 h, m_ld19 h, ↓m_g0 h, ↓m_g1 h, ↓m_g2 h, ↓m_g3 h, ↓m_g4 h, ↓m_g5 h, ↓m_g6 h, ↓m_g7 h, ↓m_g8 h, ↓m_g9 h, ↓m_g10 h, ↓m_g11 h, ↓m_g12 h, ↓m_g13 h, ↓m_g14 h, ↓m_g15 h, ↓m_g16 h, ↓m_g17 h, ↓m_g18 h, ↓m_g19 h, ↓m_g20 h, ↓m_g21 h, ↓m_g22 h, ↓m_g23 h, ↓m_g24 h, ↓m_g25 h, ↓m_g26 h, ↓m_g27 h, q1, e_p132 h hb hr0 hr1, true_and, and_true, false_and, and_false, ne_eq, not_true, not_false_eq_true, if_true, if_false, ite_true, ite_false] <;> first | rfl | exact fin_ok (by omega) | skip
theorem e_p75 {S : SS} {m0 : Nat} {hs : Hs} (h : MR S m0 hs) (hb : Bn S) {l : Int} (h0l : 0 ≤ l) (h1l : l < 16) {x0 x1 r : Int} (hr0 : 0 ≤ r) (hr1 : r < 8) : j_X9_plainLetters_75 (some m0) (iI l) (iI r) (iI x0) (iI x1) hs = some (.ok (iI (x1 + x0 + (if S 1 r = S 11 l then 0 else 8) + (if S 5 (S 9 l) ≤ S 2 r then 0 else 16) + (if S 7 r = 0 then 0 else 32))), hs) := by
  have h2 := hb l
  have h3 := hb r
  have h4 := hb (S 9 l)
  have h5 := hb (S 10 l)
  rw [u_j_X9_plainLetters_75]
  by_cases q1 : S 1 r = S 11 l <;> simp (disch := omega) only [↓reduceIte, ↓e_lets, ↓e_ite, ↓e_cal, e_cal2, ↓u_f_X9_both, e_rtn, e_r0, e_r1, e_dv, ↓m_rcv h, iI_add, iI_sub, iI_mul, iI_div, iI_rem, iI_lt, iI_le, iI_eq, li_0, li_1, li_2, li_3, li_4, li_5, li_6, li_7, li_8, li_9, li_10, li_11, li_12, li_13, li_14, li_15, li_16, li_17, li_18, li_19, li_20, li_21, li_22, li_23, li_24, li_25, li_26, li_27, li_28, li_29, li_30, li_31, li_32, li_63, li_64, li_99, li_100, li_128, li_240, li_256, li_512, li_960, li_1000, li_1022, li_1023, li_100000, li_m1, m_ld0 h, m_ld1 h, m_ld2 h, m_ld3 h, m_ld4 h, m_ld5 h, m_ld6 h, m_ld7 h, m_ld8 h, m_ld9 h, m_ld10 h, m_ld11 h, m_ld12 h, m_ld13 h, m_ld14 h, m_ld15 h, m_ld16 h, m_ld17 h, m_ld18 h, m_ld19 h, ↓m_g0 h, ↓m_g1 h, ↓m_g2 h, ↓m_g3 h, ↓m_g4 h, ↓m_g5 h, ↓m_g6 h, ↓m_g7 h, ↓m_g8 h, ↓m_g9 h, ↓m_g10 h, ↓m_g11 h, ↓m_g12 h, ↓m_g13 h, ↓m_g14 h, ↓m_g15 h, ↓m_g16 h, ↓m_g17 h, ↓m_g18 h, ↓m_g19 h, ↓m_g20 h, ↓m_g21 h, ↓m_g22 h, ↓m_g23 h, ↓m_g24 h, ↓m_g25 h, ↓m_g26 h, ↓m_g27 h, q1, e_p101 h hb h0l h1l hr0 hr1, true_and, and_true, false_and, and_false, ne_eq, not_true, not_false_eq_true, if_true, if_false, ite_true, ite_false] <;> first | rfl | exact fin_ok (by omega) | skip
theorem e_p45 {S : SS} {m0 : Nat} {hs : Hs} (h : MR S m0 hs) (hb : Bn S) {l : Int} (h0l : 0 ≤ l) (h1l : l < 16) {x0 x1 r d : Int} (hr0 : 0 ≤ r) (hr1 : r < 8) (hd0 : 0 ≤ d) (hd1 : d < 5) : j_X9_plainLetters_45 (some m0) (iI l) (iI r) (iI d) (iI x0) (iI x1) hs = some (.ok (iI (x1 + x0 + (if offB (S 3 (S 10 l)) d = 1 then 4 else 0) + (if S 1 r = S 11 l then 0 else 8) + (if S 5 (S 9 l) ≤ S 2 r then 0 else 16) + (if S 7 r = 0 then 0 else 32))), hs) := by
  have h2 := hb l
  have h3 := hb r
  have h4 := hb (S 9 l)
  have h5 := hb (S 10 l)
  have h6 := offB_b (S 3 (S 10 l)) d
  have h7 := off_bit h5.2.2.2.1.1 h5.2.2.2.1.2 hd0 hd1
  have h7 := off_bit (hb (S 10 l)).2.2.2.1.1 (hb (S 10 l)).2.2.2.1.2 hd0 hd1
  rw [u_j_X9_plainLetters_45]
  by_cases q1 : offB (S 3 (S 10 l)) d = 1 <;> simp (disch := omega) only [↓reduceIte, ↓e_lets, ↓e_ite, ↓e_cal, e_cal2, ↓u_f_X9_both, e_rtn, e_r0, e_r1, e_dv, ↓m_rcv h, iI_add, iI_sub, iI_mul, iI_div, iI_rem, iI_lt, iI_le, iI_eq, li_0, li_1, li_2, li_3, li_4, li_5, li_6, li_7, li_8, li_9, li_10, li_11, li_12, li_13, li_14, li_15, li_16, li_17, li_18, li_19, li_20, li_21, li_22, li_23, li_24, li_25, li_26, li_27, li_28, li_29, li_30, li_31, li_32, li_63, li_64, li_99, li_100, li_128, li_240, li_256, li_512, li_960, li_1000, li_1022, li_1023, li_100000, li_m1, m_ld0 h, m_ld1 h, m_ld2 h, m_ld3 h, m_ld4 h, m_ld5 h, m_ld6 h, m_ld7 h, m_ld8 h, m_ld9 h, m_ld10 h, m_ld11 h, m_ld12 h, m_ld13 h, m_ld14 h, m_ld15 h, m_ld16 h, m_ld17 h, m_ld18 h, m_ld19 h, ↓m_g0 h, ↓m_g1 h, ↓m_g2 h, ↓m_g3 h, ↓m_g4 h, ↓m_g5 h, ↓m_g6 h, ↓m_g7 h, ↓m_g8 h, ↓m_g9 h, ↓m_g10 h, ↓m_g11 h, ↓m_g12 h, ↓m_g13 h, ↓m_g14 h, ↓m_g15 h, ↓m_g16 h, ↓m_g17 h, ↓m_g18 h, ↓m_g19 h, ↓m_g20 h, ↓m_g21 h, ↓m_g22 h, ↓m_g23 h, ↓m_g24 h, ↓m_g25 h, ↓m_g26 h, ↓m_g27 h, q1, h7, ite_not, e_p75 h hb h0l h1l hr0 hr1, true_and, and_true, false_and, and_false, ne_eq, not_true, not_false_eq_true, if_true, if_false, ite_true, ite_false] <;> first | rfl | exact fin_ok (by omega) | skip
