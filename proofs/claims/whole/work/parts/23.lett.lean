def Bn (S : SS) : Prop := ∀ i : Int, (0 ≤ S 0 i ∧ S 0 i < 3) ∧ (0 ≤ S 1 i ∧ S 1 i < 4) ∧ (0 ≤ S 2 i ∧ S 2 i < 100) ∧ (0 ≤ S 3 i ∧ S 3 i < 32) ∧ (0 ≤ S 4 i ∧ S 4 i < 10) ∧ (0 ≤ S 5 i ∧ S 5 i < 100) ∧ (0 ≤ S 6 i ∧ S 6 i < 10) ∧ (0 ≤ S 7 i ∧ S 7 i < 2) ∧ (0 ≤ S 8 i ∧ S 8 i < 2) ∧ (0 ≤ S 9 i ∧ S 9 i < 8) ∧ (0 ≤ S 10 i ∧ S 10 i < 8) ∧ (0 ≤ S 11 i ∧ S 11 i < 4) ∧ (0 ≤ S 12 i ∧ S 12 i < 4) ∧ (0 ≤ S 13 i ∧ S 13 i < 10) ∧ (-1 ≤ S 14 i ∧ S 14 i < 240) ∧ (0 ≤ S 15 i ∧ S 15 i < 10) ∧ (-1 ≤ S 16 i ∧ S 16 i < 240)
def Bm (S : SS) : Prop := (0 ≤ S 20 1 ∧ S 20 1 ≤ 8) ∧ (0 ≤ S 20 2 ∧ S 20 2 ≤ 8) ∧ (0 ≤ S 20 3 ∧ S 20 3 ≤ 8) ∧ (0 ≤ S 20 4 ∧ S 20 4 ≤ 16) ∧ (0 ≤ S 20 5 ∧ S 20 5 ≤ 6) ∧ (0 ≤ S 20 6 ∧ S 20 6 ≤ 4)
def sEnd (S : SS) (l s : Int) : Int := if 6 * (s / 6) + 6 ≤ s + S 12 l then 6 * (s / 6) + 6 else s + S 12 l
theorem sEnd_b {S : SS} (hb : Bn S) {l s : Int} (h0 : 0 ≤ s) (h1 : s < 30) : 0 ≤ sEnd S l s ∧ sEnd S l s ≤ 36 := by
  have h2 := hb l
  unfold sEnd
  split <;> omega
theorem b_eq0 {c : Prop} [Decidable c] : (iI (if c then 1 else 0) = iI 0) ↔ ¬ c := by
  by_cases h : c
  · simp only [h, if_true]; decide
  · simp only [h, if_false]; decide
theorem b_eq1 {c : Prop} [Decidable c] : (iI (if c then 1 else 0) = iI 1) ↔ c := by
  by_cases h : c
  · simp only [h, if_true]
  · simp only [h, if_false]; decide
theorem e_X9_endFrom2 {S : SS} {m0 : Nat} {hs : Hs} (h : MR S m0 hs) (hb : Bn S) {l : Int} (h0l : 0 ≤ l) (h1l : l < 16) {s : Int} (hs0 : 0 ≤ s) (hs1 : s < 30) : f_X9_endFrom m0 (iI l) (iI s) hs = some (.ok (iI (sEnd S l s)), hs) := by
  have h2 := hb l
  unfold sEnd f_X9_endFrom
  simp (disch := omega) only [↓reduceIte, ↓e_lets, ↓e_ite, ↓e_cal, e_cal2, ↓u_f_X9_both, e_rtn, e_r0, e_r1, e_dv, ↓m_rcv h, iI_add, iI_sub, iI_mul, iI_div, iI_rem, iI_lt, iI_le, iI_eq, li_0, li_1, li_2, li_3, li_4, li_5, li_6, li_7, li_8, li_9, li_10, li_11, li_12, li_13, li_14, li_15, li_16, li_17, li_18, li_19, li_20, li_21, li_22, li_23, li_24, li_25, li_26, li_27, li_28, li_29, li_30, li_31, li_63, li_64, li_99, li_100, li_128, li_240, li_256, li_512, li_960, li_1000, li_1022, li_1023, li_100000, li_m1, m_ld0 h, m_ld1 h, m_ld2 h, m_ld3 h, m_ld4 h, m_ld5 h, m_ld6 h, m_ld7 h, m_ld8 h, m_ld9 h, m_ld10 h, m_ld11 h, m_ld12 h, m_ld13 h, m_ld14 h, m_ld15 h, m_ld16 h, m_ld17 h, m_ld18 h, m_ld19 h, ↓m_g0 h, ↓m_g1 h, ↓m_g2 h, ↓m_g3 h, ↓m_g4 h, ↓m_g5 h, ↓m_g6 h, ↓m_g7 h, ↓m_g8 h, ↓m_g9 h, ↓m_g10 h, ↓m_g11 h, ↓m_g12 h, ↓m_g13 h, ↓m_g14 h, ↓m_g15 h, ↓m_g16 h, ↓m_g17 h, ↓m_g18 h, ↓m_g19 h, ↓m_g20 h, ↓m_g21 h, ↓m_g22 h, ↓m_g23 h, ↓m_g24 h, ↓m_g25 h, ↓m_g26 h, ↓m_g27 h]
  all_goals repeat' split
  all_goals first | rfl | (exfalso; omega) | skip
theorem e_X9_endOf {S : SS} {m0 : Nat} {hs : Hs} (h : MR S m0 hs) (hb : Bn S) {l : Int} (h0l : 0 ≤ l) (h1l : l < 16) (hp : 0 ≤ S 14 l ∧ S 14 l < 240) : f_X9_endOf m0 (iI l) hs = some (.ok (iI (S 14 l / 8 + S 12 l)), hs) := by
  have h2 := hb l
  unfold f_X9_endOf
  simp (disch := omega) only [↓reduceIte, ↓e_lets, ↓e_ite, ↓e_cal, e_cal2, ↓u_f_X9_both, e_rtn, e_r0, e_r1, e_dv, ↓m_rcv h, iI_add, iI_sub, iI_mul, iI_div, iI_rem, iI_lt, iI_le, iI_eq, li_0, li_1, li_2, li_3, li_4, li_5, li_6, li_7, li_8, li_9, li_10, li_11, li_12, li_13, li_14, li_15, li_16, li_17, li_18, li_19, li_20, li_21, li_22, li_23, li_24, li_25, li_26, li_27, li_28, li_29, li_30, li_31, li_63, li_64, li_99, li_100, li_128, li_240, li_256, li_512, li_960, li_1000, li_1022, li_1023, li_100000, li_m1, m_ld0 h, m_ld1 h, m_ld2 h, m_ld3 h, m_ld4 h, m_ld5 h, m_ld6 h, m_ld7 h, m_ld8 h, m_ld9 h, m_ld10 h, m_ld11 h, m_ld12 h, m_ld13 h, m_ld14 h, m_ld15 h, m_ld16 h, m_ld17 h, m_ld18 h, m_ld19 h, ↓m_g0 h, ↓m_g1 h, ↓m_g2 h, ↓m_g3 h, ↓m_g4 h, ↓m_g5 h, ↓m_g6 h, ↓m_g7 h, ↓m_g8 h, ↓m_g9 h, ↓m_g10 h, ↓m_g11 h, ↓m_g12 h, ↓m_g13 h, ↓m_g14 h, ↓m_g15 h, ↓m_g16 h, ↓m_g17 h, ↓m_g18 h, ↓m_g19 h, ↓m_g20 h, ↓m_g21 h, ↓m_g22 h, ↓m_g23 h, ↓m_g24 h, ↓m_g25 h, ↓m_g26 h, ↓m_g27 h, e_X9_slotOf h]
theorem e_X9_meets {S : SS} {m0 : Nat} {hs : Hs} (h : MR S m0 hs) (hb : Bn S) {o : Int} (h0o : 0 ≤ o) (h1o : o < 16) (hp : 0 ≤ S 14 o) {s e : Int} (hs0 : 0 ≤ s) (hs1 : s < 30) (he0 : 0 ≤ e) (he1 : e ≤ 36) : f_X9_meets m0 (iI o) (iI s) (iI e) hs = some (.ok (iI (if S 14 o / 8 < e ∧ s < S 14 o / 8 + S 12 o then 1 else 0)), hs) := by
  have h2 := hb o
  unfold f_X9_meets
  simp (disch := omega) only [↓reduceIte, ↓e_lets, ↓e_ite, ↓e_cal, e_cal2, ↓u_f_X9_both, e_rtn, e_r0, e_r1, e_dv, ↓m_rcv h, iI_add, iI_sub, iI_mul, iI_div, iI_rem, iI_lt, iI_le, iI_eq, li_0, li_1, li_2, li_3, li_4, li_5, li_6, li_7, li_8, li_9, li_10, li_11, li_12, li_13, li_14, li_15, li_16, li_17, li_18, li_19, li_20, li_21, li_22, li_23, li_24, li_25, li_26, li_27, li_28, li_29, li_30, li_31, li_63, li_64, li_99, li_100, li_128, li_240, li_256, li_512, li_960, li_1000, li_1022, li_1023, li_100000, li_m1, m_ld0 h, m_ld1 h, m_ld2 h, m_ld3 h, m_ld4 h, m_ld5 h, m_ld6 h, m_ld7 h, m_ld8 h, m_ld9 h, m_ld10 h, m_ld11 h, m_ld12 h, m_ld13 h, m_ld14 h, m_ld15 h, m_ld16 h, m_ld17 h, m_ld18 h, m_ld19 h, ↓m_g0 h, ↓m_g1 h, ↓m_g2 h, ↓m_g3 h, ↓m_g4 h, ↓m_g5 h, ↓m_g6 h, ↓m_g7 h, ↓m_g8 h, ↓m_g9 h, ↓m_g10 h, ↓m_g11 h, ↓m_g12 h, ↓m_g13 h, ↓m_g14 h, ↓m_g15 h, ↓m_g16 h, ↓m_g17 h, ↓m_g18 h, ↓m_g19 h, ↓m_g20 h, ↓m_g21 h, ↓m_g22 h, ↓m_g23 h, ↓m_g24 h, ↓m_g25 h, ↓m_g26 h, ↓m_g27 h, e_X9_isPlaced h, e_X9_slotOf h, e_X9_endFrom2 h hb, e_X9_endOf h hb, b_eq0, b_eq1, ite_not, Classical.not_not]
  all_goals repeat' split
  all_goals first | rfl | (exfalso; omega) | skip
theorem e_X9_touches {S : SS} {m0 : Nat} {hs : Hs} (h : MR S m0 hs) (hb : Bn S) {o : Int} (h0o : 0 ≤ o) (h1o : o < 16) (hp : 0 ≤ S 14 o) {s e : Int} (hs0 : 0 ≤ s) (hs1 : s < 30) (he0 : 0 ≤ e) (he1 : e ≤ 36) : f_X9_touches m0 (iI o) (iI s) (iI e) hs = some (.ok (iI (if S 14 o / 8 / 6 = s / 6 ∧ (S 14 o / 8 + S 12 o = s ∨ S 14 o / 8 = e) then 1 else 0)), hs) := by
  have h2 := hb o
  unfold f_X9_touches j_X9_touches_35
  simp (disch := omega) only [↓reduceIte, ↓e_lets, ↓e_ite, ↓e_cal, e_cal2, ↓u_f_X9_both, e_rtn, e_r0, e_r1, e_dv, ↓m_rcv h, iI_add, iI_sub, iI_mul, iI_div, iI_rem, iI_lt, iI_le, iI_eq, li_0, li_1, li_2, li_3, li_4, li_5, li_6, li_7, li_8, li_9, li_10, li_11, li_12, li_13, li_14, li_15, li_16, li_17, li_18, li_19, li_20, li_21, li_22, li_23, li_24, li_25, li_26, li_27, li_28, li_29, li_30, li_31, li_63, li_64, li_99, li_100, li_128, li_240, li_256, li_512, li_960, li_1000, li_1022, li_1023, li_100000, li_m1, m_ld0 h, m_ld1 h, m_ld2 h, m_ld3 h, m_ld4 h, m_ld5 h, m_ld6 h, m_ld7 h, m_ld8 h, m_ld9 h, m_ld10 h, m_ld11 h, m_ld12 h, m_ld13 h, m_ld14 h, m_ld15 h, m_ld16 h, m_ld17 h, m_ld18 h, m_ld19 h, ↓m_g0 h, ↓m_g1 h, ↓m_g2 h, ↓m_g3 h, ↓m_g4 h, ↓m_g5 h, ↓m_g6 h, ↓m_g7 h, ↓m_g8 h, ↓m_g9 h, ↓m_g10 h, ↓m_g11 h, ↓m_g12 h, ↓m_g13 h, ↓m_g14 h, ↓m_g15 h, ↓m_g16 h, ↓m_g17 h, ↓m_g18 h, ↓m_g19 h, ↓m_g20 h, ↓m_g21 h, ↓m_g22 h, ↓m_g23 h, ↓m_g24 h, ↓m_g25 h, ↓m_g26 h, ↓m_g27 h, e_X9_isPlaced h, e_X9_slotOf h, e_X9_endFrom2 h hb, e_X9_endOf h hb, b_eq0, b_eq1, ite_not, Classical.not_not]
  all_goals repeat' split
  all_goals first | rfl | (exfalso; omega) | skip
def sLb (S : SS) (o l s r : Int) : Int := if o = l ∨ S 14 o < 0 then 0 else
  (if (S 14 o / 8 < sEnd S l s ∧ s < S 14 o / 8 + S 12 o) ∧ S 14 o % 8 = r then 64 else 0) + (if (S 14 o / 8 < sEnd S l s ∧ s < S 14 o / 8 + S 12 o) ∧ S 10 o = S 10 l then 128 else 0) + (if (S 14 o / 8 < sEnd S l s ∧ s < S 14 o / 8 + S 12 o) ∧ S 9 o = S 9 l then 256 else 0) + (if (S 10 o = S 10 l ∨ S 9 o = S 9 l) ∧ S 0 (S 14 o % 8) ≠ S 0 r ∧ (S 14 o / 8 / 6 = s / 6 ∧ (S 14 o / 8 + S 12 o = s ∨ S 14 o / 8 = sEnd S l s)) then 512 else 0)
