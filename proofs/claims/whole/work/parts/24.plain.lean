theorem off_bit0 : ∀ x : Fin 32, ∀ d : Fin 5, irem ((iI (x.val : Int)) >>> ((iI (d.val : Int)) &&& 31)) (iI 2) = iI ((x.val / 2 ^ d.val % 2 : Nat) : Int) := by decide +kernel
def offB (x d : Int) : Int := ((x.toNat / 2 ^ d.toNat % 2 : Nat) : Int)
theorem off_bit {x d : Int} (h0 : 0 ≤ x) (h1 : x < 32) (h2 : 0 ≤ d) (h3 : d < 5) : irem (iI x >>> (iI d &&& iI 31)) (iI 2) = iI (offB x d) := by
  have h := off_bit0 ⟨x.toNat, by omega⟩ ⟨d.toNat, by omega⟩
  rw [← li_31]
  simp only [Int.toNat_of_nonneg h0, Int.toNat_of_nonneg h2] at h
  exact h
theorem offB_b (x d : Int) : 0 ≤ offB x d ∧ offB x d < 2 := by
  unfold offB
  omega
theorem e_p132 {S : SS} {m0 : Nat} {hs : Hs} (h : MR S m0 hs) (hb : Bn S) {x0 x1 r : Int} (hr0 : 0 ≤ r) (hr1 : r < 8) : j_X9_plainLetters_132 (some m0) (iI r) (iI x0) (iI x1) hs = some (.ok (iI (x1 + x0 + (if S 7 r = 0 then 0 else 32))), hs) := by
  have h5 := hb r
  rw [u_j_X9_plainLetters_132]
  by_cases q1 : S 7 r = 0 <;> simp (disch := omega) only [↓reduceIte, ↓e_lets, ↓e_ite, ↓e_cal, e_cal2, ↓u_f_X9_both, e_rtn, e_r0, e_r1, e_dv, ↓m_rcv h, iI_add, iI_sub, iI_mul, iI_div, iI_rem, iI_lt, iI_le, iI_eq, li_0, li_1, li_2, li_3, li_4, li_5, li_6, li_7, li_8, li_9, li_10, li_11, li_12, li_13, li_14, li_15, li_16, li_17, li_18, li_19, li_20, li_21, li_22, li_23, li_24, li_25, li_26, li_27, li_28, li_29, li_30, li_31, li_32, li_63, li_64, li_99, li_100, li_128, li_240, li_256, li_512, li_960, li_1000, li_1022, li_1023, li_100000, li_m1, m_ld0 h, m_ld1 h, m_ld2 h, m_ld3 h, m_ld4 h, m_ld5 h, m_ld6 h, m_ld7 h, m_ld8 h, m_ld9 h, m_ld10 h, m_ld11 h, m_ld12 h, m_ld13 h, m_ld14 h, m_ld15 h, m_ld16 h, m_ld17 h, m_ld18 h, m_ld19 h, ↓m_g0 h, ↓m_g1 h, ↓m_g2 h, ↓m_g3 h, ↓m_g4 h, ↓m_g5 h, ↓m_g6 h, ↓m_g7 h, ↓m_g8 h, ↓m_g9 h, ↓m_g10 h, ↓m_g11 h, ↓m_g12 h, ↓m_g13 h, ↓m_g14 h, ↓m_g15 h, ↓m_g16 h, ↓m_g17 h, ↓m_g18 h, ↓m_g19 h, ↓m_g20 h, ↓m_g21 h, ↓m_g22 h, ↓m_g23 h, ↓m_g24 h, ↓m_g25 h, ↓m_g26 h, ↓m_g27 h, q1, true_and, and_true, false_and, and_false, ne_eq, not_true, not_false_eq_true, if_true, if_false, ite_true, ite_false] <;> first | rfl | exact fin_ok (by omega) | skip
theorem e_p101 {S : SS} {m0 : Nat} {hs : Hs} (h : MR S m0 hs) (hb : Bn S) {l : Int} (h0l : 0 ≤ l) (h1l : l < 16) {x0 x1 r : Int} (hr0 : 0 ≤ r) (hr1 : r < 8) : j_X9_plainLetters_101 (some m0) (iI l) (iI r) (iI x0) (iI x1) hs = some (.ok (iI (x1 + x0 + (if S 5 (S 9 l) ≤ S 2 r then 0 else 16) + (if S 7 r = 0 then 0 else 32))), hs) := by
  have h2 := hb l
  have h3 := hb r
  have h4 := hb (S 9 l)
  have h5 := hb (S 10 l)
  rw [u_j_X9_plainLetters_101]
  by_cases q1 : S 5 (S 9 l) ≤ S 2 r <;> simp (disch := omega) only [↓reduceIte, ↓e_lets, ↓e_ite, ↓e_cal, e_cal2, ↓u_f_X9_both, e_rtn, e_r0, e_r1, e_dv, ↓m_rcv h, iI_add, iI_sub, iI_mul, iI_div, iI_rem, iI_lt, iI_le, iI_eq, li_0, li_1, li_2, li_3, li_4, li_5, li_6, li_7, li_8, li_9, li_10, li_11, li_12, li_13, li_14, li_15, li_16, li_17, li_18, li_19, li_20, li_21, li_22, li_23, li_24, li_25, li_26, li_27, li_28, li_29, li_30, li_31, li_32, li_63, li_64, li_99, li_100, li_128, li_240, li_256, li_512, li_960, li_1000, li_1022, li_1023, li_100000, li_m1, m_ld0 h, m_ld1 h, m_ld2 h, m_ld3 h, m_ld4 h, m_ld5 h, m_ld6 h, m_ld7 h, m_ld8 h, m_ld9 h, m_ld10 h, m_ld11 h, m_ld12 h, m_ld13 h, m_ld14 h, m_ld15 h, m_ld16 h, m_ld17 h, m_ld18 h, m_ld19 h, ↓m_g0 h, ↓m_g1 h, ↓m_g2 h, ↓m_g3 h, ↓m_g4 h, ↓m_g5 h, ↓m_g6 h, ↓m_g7 h, ↓m_g8 h, ↓m_g9 h, ↓m_g10 h, ↓m_g11 h, ↓m_g12 h, ↓m_g13 h, ↓m_g14 h, ↓m_g15 h, ↓m_g16 h, ↓m_g17 h, ↓m_g18 h, ↓m_g19 h, ↓m_g20 h, ↓m_g21 h, ↓m_g22 h, ↓m_g23 h, ↓m_g24 h, ↓m_g25 h, ↓m_g26 h, ↓m_g27 h, q1, e_p132 h hb hr0 hr1, true_and, and_true, false_and, and_false, ne_eq, not_true, not_false_eq_true, if_true, if_false, ite_true, ite_false] <;> first | rfl | exact fin_ok (by omega) | skip
theorem e_p75 {S : SS} {m0 : Nat} {hs : Hs} (h : MR S m0 hs) (hb : Bn S) {l : Int} (h0l : 0 ≤ l) (h1l : l < 16) {x0 x1 r : Int} (hr0 : 0 ≤ r) (hr1 : r < 8) : j_X9_plainLetters_75 (some m0) (iI l) (iI r) (iI x0) (iI x1) hs = some (.ok (iI (x1 + x0 + (if S 1 r = S 11 l then 0 else 8) + (if S 5 (S 9 l) ≤ S 2 r then 0 else 16) + (if S 7 r = 0 then 0 else 32))), hs) := by
  have h2 := hb l
  have h3 := hb r
  have h4 := hb (S 9 l)
  have h5 := hb (S 10 l)
  rw [u_j_X9_plainLetters_75]
  by_cases q1 : S 1 r = S 11 l <;> simp (disch := omega) only [↓reduceIte, ↓e_lets, ↓e_ite, ↓e_cal, e_cal2, ↓u_f_X9_both, e_rtn, e_r0, e_r1, e_dv, ↓m_rcv h, iI_add, iI_sub, iI_mul, iI_div, iI_rem, iI_lt, iI_le, iI_eq, li_0, li_1, li_2, li_3, li_4, li_5, li_6, li_7, li_8, li_9, li_10, li_11, li_12, li_13, li_14, li_15, li_16, li_17, li_18, li_19, li_20, li_21, li_22, li_23, li_24, li_25, li_26, li_27, li_28, li_29, li_30, li_31, li_32, li_63, li_64, li_99, li_100, li_128, li_240, li_256, li_512, li_960, li_1000, li_1022, li_1023, li_100000, li_m1, m_ld0 h, m_ld1 h, m_ld2 h, m_ld3 h, m_ld4 h, m_ld5 h, m_ld6 h, m_ld7 h, m_ld8 h, m_ld9 h, m_ld10 h, m_ld11 h, m_ld12 h, m_ld13 h, m_ld14 h, m_ld15 h, m_ld16 h, m_ld17 h, m_ld18 h, m_ld19 h, ↓m_g0 h, ↓m_g1 h, ↓m_g2 h, ↓m_g3 h, ↓m_g4 h, ↓m_g5 h, ↓m_g6 h, ↓m_g7 h, ↓m_g8 h, ↓m_g9 h, ↓m_g10 h, ↓m_g11 h, ↓m_g12 h, ↓m_g13 h, ↓m_g14 h, ↓m_g15 h, ↓m_g16 h, ↓m_g17 h, ↓m_g18 h, ↓m_g19 h, ↓m_g20 h, ↓m_g21 h, ↓m_g22 h, ↓m_g23 h, ↓m_g24 h, ↓m_g25 h, ↓m_g26 h, ↓m_g27 h, q1, e_p101 h hb h0l h1l hr0 hr1, true_and, and_true, false_and, and_false, ne_eq, not_true, not_false_eq_true, if_true, if_false, ite_true, ite_false] <;> first | rfl | exact fin_ok (by omega) | skip
theorem e_p45 {S : SS} {m0 : Nat} {hs : Hs} (h : MR S m0 hs) (hb : Bn S) {l : Int} (h0l : 0 ≤ l) (h1l : l < 16) {x0 x1 r d : Int} (hr0 : 0 ≤ r) (hr1 : r < 8) (hd0 : 0 ≤ d) (hd1 : d < 5) : j_X9_plainLetters_45 (some m0) (iI l) (iI r) (iI d) (iI x0) (iI x1) hs = some (.ok (iI (x1 + x0 + (if offB (S 3 (S 10 l)) d = 1 then 4 else 0) + (if S 1 r = S 11 l then 0 else 8) + (if S 5 (S 9 l) ≤ S 2 r then 0 else 16) + (if S 7 r = 0 then 0 else 32))), hs) := by
  have h2 := hb l
  have h3 := hb r
  have h4 := hb (S 9 l)
  have h5 := hb (S 10 l)
  have h6 := offB_b (S 3 (S 10 l)) d
  have h7 := off_bit h5.2.2.2.1.1 h5.2.2.2.1.2 hd0 hd1
  have h7 := off_bit (hb (S 10 l)).2.2.2.1.1 (hb (S 10 l)).2.2.2.1.2 hd0 hd1
  rw [u_j_X9_plainLetters_45]
  by_cases q1 : offB (S 3 (S 10 l)) d = 1 <;> simp (disch := omega) only [↓reduceIte, ↓e_lets, ↓e_ite, ↓e_cal, e_cal2, ↓u_f_X9_both, e_rtn, e_r0, e_r1, e_dv, ↓m_rcv h, iI_add, iI_sub, iI_mul, iI_div, iI_rem, iI_lt, iI_le, iI_eq, li_0, li_1, li_2, li_3, li_4, li_5, li_6, li_7, li_8, li_9, li_10, li_11, li_12, li_13, li_14, li_15, li_16, li_17, li_18, li_19, li_20, li_21, li_22, li_23, li_24, li_25, li_26, li_27, li_28, li_29, li_30, li_31, li_32, li_63, li_64, li_99, li_100, li_128, li_240, li_256, li_512, li_960, li_1000, li_1022, li_1023, li_100000, li_m1, m_ld0 h, m_ld1 h, m_ld2 h, m_ld3 h, m_ld4 h, m_ld5 h, m_ld6 h, m_ld7 h, m_ld8 h, m_ld9 h, m_ld10 h, m_ld11 h, m_ld12 h, m_ld13 h, m_ld14 h, m_ld15 h, m_ld16 h, m_ld17 h, m_ld18 h, m_ld19 h, ↓m_g0 h, ↓m_g1 h, ↓m_g2 h, ↓m_g3 h, ↓m_g4 h, ↓m_g5 h, ↓m_g6 h, ↓m_g7 h, ↓m_g8 h, ↓m_g9 h, ↓m_g10 h, ↓m_g11 h, ↓m_g12 h, ↓m_g13 h, ↓m_g14 h, ↓m_g15 h, ↓m_g16 h, ↓m_g17 h, ↓m_g18 h, ↓m_g19 h, ↓m_g20 h, ↓m_g21 h, ↓m_g22 h, ↓m_g23 h, ↓m_g24 h, ↓m_g25 h, ↓m_g26 h, ↓m_g27 h, q1, h7, ite_not, e_p75 h hb h0l h1l hr0 hr1, true_and, and_true, false_and, and_false, ne_eq, not_true, not_false_eq_true, if_true, if_false, ite_true, ite_false] <;> first | rfl | exact fin_ok (by omega) | skip
theorem e_p27 {S : SS} {m0 : Nat} {hs : Hs} (h : MR S m0 hs) (hb : Bn S) {l : Int} (h0l : 0 ≤ l) (h1l : l < 16) {x0 r d : Int} (hr0 : 0 ≤ r) (hr1 : r < 8) (hd0 : 0 ≤ d) (hd1 : d < 5) (hm : Bm S) : j_X9_plainLetters_27 (some m0) (iI l) (iI r) (iI d) (iI x0) hs = some (.ok (iI (x0 + (if S 20 6 ≤ d then 0 else 2) + (if offB (S 3 (S 10 l)) d = 1 then 4 else 0) + (if S 1 r = S 11 l then 0 else 8) + (if S 5 (S 9 l) ≤ S 2 r then 0 else 16) + (if S 7 r = 0 then 0 else 32))), hs) := by
  have h2 := hm
  unfold Bm at h2
  rw [u_j_X9_plainLetters_27]
  by_cases q1 : S 20 6 ≤ d <;> simp (disch := omega) only [↓reduceIte, ↓e_lets, ↓e_ite, ↓e_cal, e_cal2, ↓u_f_X9_both, e_rtn, e_r0, e_r1, e_dv, ↓m_rcv h, iI_add, iI_sub, iI_mul, iI_div, iI_rem, iI_lt, iI_le, iI_eq, li_0, li_1, li_2, li_3, li_4, li_5, li_6, li_7, li_8, li_9, li_10, li_11, li_12, li_13, li_14, li_15, li_16, li_17, li_18, li_19, li_20, li_21, li_22, li_23, li_24, li_25, li_26, li_27, li_28, li_29, li_30, li_31, li_32, li_63, li_64, li_99, li_100, li_128, li_240, li_256, li_512, li_960, li_1000, li_1022, li_1023, li_100000, li_m1, m_ld0 h, m_ld1 h, m_ld2 h, m_ld3 h, m_ld4 h, m_ld5 h, m_ld6 h, m_ld7 h, m_ld8 h, m_ld9 h, m_ld10 h, m_ld11 h, m_ld12 h, m_ld13 h, m_ld14 h, m_ld15 h, m_ld16 h, m_ld17 h, m_ld18 h, m_ld19 h, ↓m_g0 h, ↓m_g1 h, ↓m_g2 h, ↓m_g3 h, ↓m_g4 h, ↓m_g5 h, ↓m_g6 h, ↓m_g7 h, ↓m_g8 h, ↓m_g9 h, ↓m_g10 h, ↓m_g11 h, ↓m_g12 h, ↓m_g13 h, ↓m_g14 h, ↓m_g15 h, ↓m_g16 h, ↓m_g17 h, ↓m_g18 h, ↓m_g19 h, ↓m_g20 h, ↓m_g21 h, ↓m_g22 h, ↓m_g23 h, ↓m_g24 h, ↓m_g25 h, ↓m_g26 h, ↓m_g27 h, q1, e_p45 h hb h0l h1l hr0 hr1 hd0 hd1, true_and, and_true, false_and, and_false, ne_eq, not_true, not_false_eq_true, if_true, if_false, ite_true, ite_false] <;> first | rfl | exact fin_ok (by omega) | skip
def sPl (S : SS) (l s r : Int) : Int := (if s % 6 + S 12 l ≤ 6 then 0 else 1) + (if S 20 6 ≤ s / 6 then 0 else 2) + (if offB (S 3 (S 10 l)) (s / 6) = 1 then 4 else 0) + (if S 1 r = S 11 l then 0 else 8) + (if S 5 (S 9 l) ≤ S 2 r then 0 else 16) + (if S 7 r = 0 then 0 else 32)
theorem e_X9_plainLetters {S : SS} {m0 : Nat} {hs : Hs} (h : MR S m0 hs) (hb : Bn S) {l : Int} (h0l : 0 ≤ l) (h1l : l < 16) {s r : Int} (hs0 : 0 ≤ s) (hs1 : s < 30) (hr0 : 0 ≤ r) (hr1 : r < 8) (hm : Bm S) : f_X9_plainLetters m0 (iI l) (iI s) (iI r) hs = some (.ok (iI (sPl S l s r)), hs) := by
  have h2 := hb l
  rw [u_f_X9_plainLetters]
  unfold sPl
  by_cases q1 : s % 6 + S 12 l ≤ 6 <;> simp (disch := omega) only [↓reduceIte, ↓e_lets, ↓e_ite, ↓e_cal, e_cal2, ↓u_f_X9_both, e_rtn, e_r0, e_r1, e_dv, ↓m_rcv h, iI_add, iI_sub, iI_mul, iI_div, iI_rem, iI_lt, iI_le, iI_eq, li_0, li_1, li_2, li_3, li_4, li_5, li_6, li_7, li_8, li_9, li_10, li_11, li_12, li_13, li_14, li_15, li_16, li_17, li_18, li_19, li_20, li_21, li_22, li_23, li_24, li_25, li_26, li_27, li_28, li_29, li_30, li_31, li_32, li_63, li_64, li_99, li_100, li_128, li_240, li_256, li_512, li_960, li_1000, li_1022, li_1023, li_100000, li_m1, m_ld0 h, m_ld1 h, m_ld2 h, m_ld3 h, m_ld4 h, m_ld5 h, m_ld6 h, m_ld7 h, m_ld8 h, m_ld9 h, m_ld10 h, m_ld11 h, m_ld12 h, m_ld13 h, m_ld14 h, m_ld15 h, m_ld16 h, m_ld17 h, m_ld18 h, m_ld19 h, ↓m_g0 h, ↓m_g1 h, ↓m_g2 h, ↓m_g3 h, ↓m_g4 h, ↓m_g5 h, ↓m_g6 h, ↓m_g7 h, ↓m_g8 h, ↓m_g9 h, ↓m_g10 h, ↓m_g11 h, ↓m_g12 h, ↓m_g13 h, ↓m_g14 h, ↓m_g15 h, ↓m_g16 h, ↓m_g17 h, ↓m_g18 h, ↓m_g19 h, ↓m_g20 h, ↓m_g21 h, ↓m_g22 h, ↓m_g23 h, ↓m_g24 h, ↓m_g25 h, ↓m_g26 h, ↓m_g27 h, q1, e_p27 h hb h0l h1l hr0 hr1 (show 0 ≤ s / 6 by omega) (show s / 6 < 5 by omega) hm, true_and, and_true, false_and, and_false, ne_eq, not_true, not_false_eq_true, if_true, if_false, ite_true, ite_false] <;> first | rfl | exact fin_ok (by omega) | skip
def lF (S : SS) (l s r : Int) : Nat → Int → Int32 → Int32
  | 0, _, acc => acc
  | n + 1, k, acc => lF S l s r n (k + 1) (acc ||| iI (sLb S k l s r))
theorem u_L_letters (a0 : Option Nat) (a1 a2 a3 : Int32) (K : Int32 → OO Int32) (n : Nat) (x4 x5 : Int32) (hs : Hs) : L_X9_letters_12 a0 a1 a2 a3 K (n + 1) x4 x5 hs = (gI a0 12 24 fun v4 => (if v4 ≤ x5 then K x4 else rcv a0 12 fun r9 => call (f_X9_lettersBy r9 x5 a1 a2 a3) (fun (v5 : Int32) => call (f_X9_both x4 v5) (fun (v6 : Int32) => lets v6 fun (v7 : Int32) => lets (x5 + (1 : Int32)) fun (v8 : Int32) => (L_X9_letters_12 a0 a1 a2 a3 K n) v7 v8) nox) nox)) hs := rfl
theorem e_L_letters {S : SS} {m0 : Nat} {hs : Hs} (h : MR S m0 hs) (hb : Bn S) {l : Int} (h0l : 0 ≤ l) (h1l : l < 16) {s r : Int} (hs0 : 0 ≤ s) (hs1 : s < 30) (hr0 : 0 ≤ r) (hr1 : r < 8) (hm : Bm S) (K : Int32 → OO Int32) : ∀ (n : Nat) (k : Int) (acc : Int32) (fuel : Nat), 0 ≤ k → k + n = S 20 4 → n < fuel → L_X9_letters_12 (some m0) (iI l) (iI s) (iI r) K fuel acc (iI k) hs = K (lF S l s r n k acc) hs := by
  have h2 := hm
  unfold Bm at h2
  intro n
  induction n with
  | zero =>
    intro k acc fuel hk0 hk hf
    obtain ⟨f, rfl⟩ : ∃ f, fuel = f + 1 := ⟨fuel - 1, by omega⟩
    have hc : S 20 4 ≤ k := by omega
    rw [u_L_letters]
    simp (disch := omega) only [↓reduceIte, ↓e_lets, ↓e_ite, ↓e_cal, e_cal2, ↓u_f_X9_both, e_rtn, e_r0, e_r1, e_dv, ↓m_rcv h, iI_add, iI_sub, iI_mul, iI_div, iI_rem, iI_lt, iI_le, iI_eq, li_0, li_1, li_2, li_3, li_4, li_5, li_6, li_7, li_8, li_9, li_10, li_11, li_12, li_13, li_14, li_15, li_16, li_17, li_18, li_19, li_20, li_21, li_22, li_23, li_24, li_25, li_26, li_27, li_28, li_29, li_30, li_31, li_32, li_63, li_64, li_99, li_100, li_128, li_240, li_256, li_512, li_960, li_1000, li_1022, li_1023, li_100000, li_m1, m_ld0 h, m_ld1 h, m_ld2 h, m_ld3 h, m_ld4 h, m_ld5 h, m_ld6 h, m_ld7 h, m_ld8 h, m_ld9 h, m_ld10 h, m_ld11 h, m_ld12 h, m_ld13 h, m_ld14 h, m_ld15 h, m_ld16 h, m_ld17 h, m_ld18 h, m_ld19 h, ↓m_g0 h, ↓m_g1 h, ↓m_g2 h, ↓m_g3 h, ↓m_g4 h, ↓m_g5 h, ↓m_g6 h, ↓m_g7 h, ↓m_g8 h, ↓m_g9 h, ↓m_g10 h, ↓m_g11 h, ↓m_g12 h, ↓m_g13 h, ↓m_g14 h, ↓m_g15 h, ↓m_g16 h, ↓m_g17 h, ↓m_g18 h, ↓m_g19 h, ↓m_g20 h, ↓m_g21 h, ↓m_g22 h, ↓m_g23 h, ↓m_g24 h, ↓m_g25 h, ↓m_g26 h, ↓m_g27 h, hc, true_and, and_true, false_and, and_false, ne_eq, not_true, not_false_eq_true, if_true, if_false, ite_true, ite_false]
    rfl
  | succ n ih =>
    intro k acc fuel hk0 hk hf
    obtain ⟨f, rfl⟩ : ∃ f, fuel = f + 1 := ⟨fuel - 1, by omega⟩
    have hc : ¬ S 20 4 ≤ k := by omega
    rw [u_L_letters]
    simp (disch := omega) only [↓reduceIte, ↓e_lets, ↓e_ite, ↓e_cal, e_cal2, ↓u_f_X9_both, e_rtn, e_r0, e_r1, e_dv, ↓m_rcv h, iI_add, iI_sub, iI_mul, iI_div, iI_rem, iI_lt, iI_le, iI_eq, li_0, li_1, li_2, li_3, li_4, li_5, li_6, li_7, li_8, li_9, li_10, li_11, li_12, li_13, li_14, li_15, li_16, li_17, li_18, li_19, li_20, li_21, li_22, li_23, li_24, li_25, li_26, li_27, li_28, li_29, li_30, li_31, li_32, li_63, li_64, li_99, li_100, li_128, li_240, li_256, li_512, li_960, li_1000, li_1022, li_1023, li_100000, li_m1, m_ld0 h, m_ld1 h, m_ld2 h, m_ld3 h, m_ld4 h, m_ld5 h, m_ld6 h, m_ld7 h, m_ld8 h, m_ld9 h, m_ld10 h, m_ld11 h, m_ld12 h, m_ld13 h, m_ld14 h, m_ld15 h, m_ld16 h, m_ld17 h, m_ld18 h, m_ld19 h, ↓m_g0 h, ↓m_g1 h, ↓m_g2 h, ↓m_g3 h, ↓m_g4 h, ↓m_g5 h, ↓m_g6 h, ↓m_g7 h, ↓m_g8 h, ↓m_g9 h, ↓m_g10 h, ↓m_g11 h, ↓m_g12 h, ↓m_g13 h, ↓m_g14 h, ↓m_g15 h, ↓m_g16 h, ↓m_g17 h, ↓m_g18 h, ↓m_g19 h, ↓m_g20 h, ↓m_g21 h, ↓m_g22 h, ↓m_g23 h, ↓m_g24 h, ↓m_g25 h, ↓m_g26 h, ↓m_g27 h, hc, true_and, and_true, false_and, and_false, ne_eq, not_true, not_false_eq_true, if_true, if_false, ite_true, ite_false, e_X9_lettersBy h hb (o := k) hk0 (by omega) h0l h1l hs0 hs1 hr0 hr1]
    rw [ih (k + 1) _ f (by omega) (by omega) (by omega)]
    rfl
def sLt (S : SS) (l s r : Int) : Int32 := lF S l s r (S 20 4).toNat 0 (iI (sPl S l s r))
theorem e_X9_letters {S : SS} {m0 : Nat} {hs : Hs} (h : MR S m0 hs) (hb : Bn S) {l : Int} (h0l : 0 ≤ l) (h1l : l < 16) {s r : Int} (hs0 : 0 ≤ s) (hs1 : s < 30) (hr0 : 0 ≤ r) (hr1 : r < 8) (hm : Bm S) : f_X9_letters m0 (iI l) (iI s) (iI r) hs = some (.ok (sLt S l s r), hs) := by
  have h2 := hm
  unfold Bm at h2
  rw [u_f_X9_letters, m_rcv h, e_cal, e_X9_plainLetters h hb h0l h1l hs0 hs1 hr0 hr1 hm, e_cal2, e_lets, e_lets, li_0, e_L_letters h hb h0l h1l hs0 hs1 hr0 hr1 hm _ (S 20 4).toNat 0 _ 100000 (by omega) (by omega) (by omega)]
  rfl
