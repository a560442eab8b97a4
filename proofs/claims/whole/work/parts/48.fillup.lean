/-! PURE LAYER: the table filled (class) -/
def fiQ (S : SS) (gu : Nat → Bool) : Int := haQ S (fun k => decide (S 14 k < 0) && !gu k)
def fiS : Nat → SS → Int → (Nat → Bool) → SS
  | 0, S, _, _ => S
  | f + 1, S, t, gu => if fiQ S gu < 0 then S else if chP S (fiQ S gu) (-2) = -1 then (if t < 10 ∧ 0 ≤ thP S (fiQ S gu) 240 then fiS f (thS S (fiQ S gu) (thP S (fiQ S gu) 240)) (t + 1) gu else fiS f S t (fun k => gu k || decide ((k : Int) = fiQ S gu))) else fiS f (upS S 14 (fiQ S gu) (chP S (fiQ S gu) (-2))) t gu
theorem thS_g {S : SS} {l b : Int} {f : Nat} (h : f ≠ 14) : thS S l b f = S f := by
  unfold thS
  rw [upS_g h, rmS_g h]
theorem fiQ_c {S : SS} {gu gu2 : Nat → Bool} (h : ∀ k, k < (S 20 4).toNat → gu k = gu2 k) : fiQ S gu = fiQ S gu2 := haQ_c (fun k hk => by rw [h k hk])
theorem fiS_c : ∀ f S t (gu gu2 : Nat → Bool), (∀ k, k < (S 20 4).toNat → gu k = gu2 k) → fiS f S t gu = fiS f S t gu2 := by
  intro f
  induction f with
  | zero => intro S t gu gu2 _; rfl
  | succ f ih =>
    intro S t gu gu2 h
    unfold fiS
    rw [fiQ_c h]
    split
    · rfl
    · split
      · split
        · exact ih _ _ _ _ (fun k hk => h k (by rw [thS_g (by decide)] at hk; exact hk))
        · exact ih _ _ _ _ (fun k hk => by rw [h k hk])
      · exact ih _ _ _ _ (fun k hk => h k (by rw [upS_g (by decide)] at hk; exact hk))
theorem fiS_20 : ∀ f S t gu, fiS f S t gu 20 = S 20 := by
  intro f
  induction f with
  | zero => intro S t gu; rfl
  | succ f ih =>
    intro S t gu
    unfold fiS
    split
    · rfl
    · split
      · split
        · rw [ih, thS_g (by decide)]
        · rw [ih]
      · rw [ih, upS_g (by decide)]
theorem VS_fi : ∀ f S t gu, VS S → VS (fiS f S t gu) := by
  intro f
  induction f with
  | zero => intro S t gu h; exact h
  | succ f ih =>
    intro S t gu h
    have hb : -1 ≤ fiQ S gu ∧ fiQ S gu < S 20 4 := haQ_b S _ h.2.1
    unfold fiS
    split
    · exact h
    · split
      · split
        · rename_i c
          exact ih _ _ _ (VS_th h (by omega) (by omega) c.2)
        · exact ih _ _ _ h
      · exact ih _ _ _ (VS_ch h (by omega) (by omega))
theorem e_L_fill {A : AA} {P : Hp} {z : Nat × Nat} (hA : GA A)  : ∀ (f : Nat) (tn t : Int) (x : Int32) (S : SS) (K : KK) (fuel : Nat), 0 ≤ tn → tn + f = 1000 → 0 ≤ t → t ≤ 10 → f < fuel → VS S → CI S K → ∃ K2, L_X1_fillUp_7 (some (A 14 0)) (some (A 13 0)) (rtn ()) (rtn ()) fuel x (iI t) (iI tn) (Hc A P S K, z) = some (.ok (), (Hc A P (fiS f S t (fun k => bHas x (iI (k : Int)))) K2, z)) ∧ KZ K K2 ∧ CI (fiS f S t (fun k => bHas x (iI (k : Int)))) K2 := by
  intro f
  induction f with
  | zero =>
    intro tn t x S K fuel t0 t1 h0 h1 hf hV hC
    obtain ⟨g, rfl⟩ : ∃ g, fuel = g + 1 := ⟨fuel - 1, by omega⟩
    refine ⟨K, ?_, KZ.rfl, hC⟩
    rw [u_L_X1_fillUp_7]
    simp -implicitDefEqProofs (disch := omega) only [↓reduceIte, ↓e_lets, ↓e_ite, ↓e_cal, e_cal2, e_cal3, e_thr, e_nthrow, e_rtn, e_r0, e_r1, e_dv, iI_add, iI_sub, iI_mul, iI_neg, iI_div, iI_rem, iI_lt, iI_le, iI_eq, b_eq0, b_eq1, Int.reduceAdd, Int.reduceMul, Int.reduceSub, Int.reduceNeg, Int.reduceDiv, Int.reduceMod, Nat.reduceAdd, Bool.false_eq_true, eq_self, ltT, ltF, leT, leF, eqT, eqF, true_and, and_true, false_and, and_false, and_self, or_true, true_or, or_false, false_or, ne_eq, not_true_eq_false, not_false_eq_true, if_true, if_false, ite_true, ite_false, ite_not, some_none, some_some, none_some, none_none, A_eq hA, li_0, li_1, li_2, li_3, li_4, li_5, li_6, li_7, li_8, li_9, li_10, li_11, li_12, li_13, li_14, li_15, li_16, li_17, li_18, li_19, li_20, li_21, li_22, li_23, li_24, li_25, li_26, li_27, li_28, li_29, li_30, li_31, li_32, li_63, li_64, li_99, li_100, li_128, li_240, li_256, li_512, li_960, li_1000, li_1022, li_1023, li_100000, li_m1, li_m1000, ↓r_v0 hA, ↓r_c0 hA, ↓r_0_0 hA, ↓r_0_1 hA, ↓r_0_2 hA, ↓r_0_3 hA, ↓r_0_4 hA, ↓r_0_5 hA, ↓r_0_6 hA, ↓r_0_7 hA, ↓r_0_8 hA, ↓r_0_9 hA, ↓r_v1 hA, ↓r_c1 hA, ↓r_1_0 hA, ↓r_1_1 hA, ↓r_1_2 hA, ↓r_1_3 hA, ↓r_1_4 hA, ↓r_v2 hA, ↓r_c2 hA, ↓r_2_0 hA, ↓r_2_1 hA, ↓r_2_2 hA, ↓r_v4 hA, ↓r_c4 hA, ↓r_4_0 hA, ↓r_v5 hA, ↓r_c5 hA, ↓r_5_0 hA, ↓r_5_1 hA, ↓r_5_2 hA, ↓r_5_3 hA, ↓r_5_4 hA, ↓r_5_5 hA, ↓r_5_6p hA, ↓r_5_6n hA, ↓r_5_7p hA, ↓r_5_7n hA, ↓r_5_8 hA, ↓r_5_9 hA, ↓r_5_10 hA, ↓r_5_11 hA, ↓r_5_12 hA, ↓r_5_13 hA, ↓r_5_14 hA, ↓r_5_15 hA, ↓r_5_16 hA, ↓r_5_17 hA, ↓r_v11 hA, ↓r_c11 hA, ↓r_11_0 hA, ↓r_11_1p hA, ↓r_11_2 hA, ↓r_v13 hA, ↓r_c13 hA, ↓r_13_0 hA, ↓r_13_1 hA, ↓r_13_2 hA, ↓r_13_3 hA, ↓r_13_4 hA, ↓r_13_5 hA, ↓r_v14 hA, ↓r_c14 hA, ↓r_14_0 hA, ↓r_v15 hA, ↓r_c15 hA, ↓r_15_0 hA, ↓r_15_1 hA, ↓r_v16 hA, ↓r_c16 hA, ↓r_16_0 hA, r_l3 hA, ↓r_l3 hA, ↓r_n3 hA, r_a3 hA, r_l10 hA, ↓r_l10 hA, ↓r_n10 hA, r_a10 hA, r_l20 hA, ↓r_l20 hA, ↓r_n20 hA, r_a20 hA, r_l6 hA, ↓r_l6 hA, ↓r_n6 hA, r_a6 hA, r_l7 hA, ↓r_l7 hA, ↓r_n7 hA, r_a7 hA, r_l8 hA, ↓r_l8 hA, ↓r_n8 hA, r_a8 hA, r_l9 hA, ↓r_l9 hA, ↓r_n9 hA, r_a9 hA, r_l18 hA, ↓r_l18 hA, ↓r_n18 hA, r_a18 hA, r_l19 hA, ↓r_l19 hA, ↓r_n19 hA, r_a19 hA, r_l21 hA, ↓r_l21 hA, ↓r_n21 hA, r_a21 hA, r_l22 hA, ↓r_l22 hA, ↓r_n22 hA, r_a22 hA, r_l23 hA, ↓r_l23 hA, ↓r_n23 hA, r_a23 hA, r_l24 hA, ↓r_l24 hA, ↓r_n24 hA, r_a24 hA, r_l25 hA, ↓r_l25 hA, ↓r_n25 hA, r_a25 hA, r_l17 hA, ↓r_l17 hA, ↓r_n17 hA, r_sz0 hA, r_gt0 hA, r_sz1 hA, r_gt1 hA, r_sz2 hA, r_gt2 hA, r_sz3 hA, r_gt3 hA, w_s6 hA, w_s7 hA, w_s8 hA, w_s9 hA, w_s18 hA, w_s19 hA, w_s21 hA, w_s22 hA, w_s23 hA, w_s24 hA, w_s25 hA, w_f11 hA, w_f12 hA, w_f13 hA, w_f16 hA]
    rfl
  | succ f ih =>
    intro tn t x S K fuel t0 t1 h0 h1 hf hV hC
    obtain ⟨g, rfl⟩ : ∃ g, fuel = g + 1 := ⟨fuel - 1, by omega⟩
    have hm2 := hV.2.1
    unfold Bm at hm2
    have e0 := e_unplaced (P := P) (K := K) (z := z) hA hV.1 hV.2.1 hV.2.2
    obtain ⟨K1, e1, h1'⟩ := e_findHardest (P := P) (K := K) (z := z) hA hV.1 hV.2.1 hV.2.2 (setM (fun k => decide (S 14 k < 0)) (S 20 4).toNat &&& (x ^^^ iI (-1)))
    rw [haS_Q] at e1
    have hbit : ∀ k : Nat, k < (S 20 4).toNat → bHas (setM (fun k => decide (S 14 k < 0)) (S 20 4).toNat &&& (x ^^^ iI (-1))) (iI (k : Int)) = (decide (S 14 k < 0) && !bHas x (iI (k : Int))) := fun k hk => by
      rw [bHas_and _ _ (by omega), bHas_setM _ (by omega) (by omega), m1_i, bHas_not _ (by omega), decide_eq_true hk, Bool.true_and]
    have hq : haQ S (fun k => bHas (setM (fun k => decide (S 14 k < 0)) (S 20 4).toNat &&& (x ^^^ iI (-1))) (iI (k : Int))) = fiQ S (fun k => bHas x (iI (k : Int))) := haQ_c hbit
    rw [hq] at e1
    have hhb : -1 ≤ fiQ S (fun k => bHas x (iI (k : Int))) ∧ fiQ S (fun k => bHas x (iI (k : Int))) < S 20 4 := haQ_b S _ hV.2.1
    unfold fiS
    generalize hh : fiQ S (fun k => bHas x (iI (k : Int))) = h at *
    by_cases c : h < 0
    · rw [if_pos c] at e1
      rw [if_pos c]
      refine ⟨K1, ?_, h1'.z, CI_KE h1' hC⟩
      rw [u_L_X1_fillUp_7]
      simp -implicitDefEqProofs (disch := omega) only [↓reduceIte, ↓e_lets, ↓e_ite, ↓e_cal, e_cal2, e_cal3, e_thr, e_nthrow, e_rtn, e_r0, e_r1, e_dv, iI_add, iI_sub, iI_mul, iI_neg, iI_div, iI_rem, iI_lt, iI_le, iI_eq, b_eq0, b_eq1, Int.reduceAdd, Int.reduceMul, Int.reduceSub, Int.reduceNeg, Int.reduceDiv, Int.reduceMod, Nat.reduceAdd, Bool.false_eq_true, eq_self, ltT, ltF, leT, leF, eqT, eqF, true_and, and_true, false_and, and_false, and_self, or_true, true_or, or_false, false_or, ne_eq, not_true_eq_false, not_false_eq_true, if_true, if_false, ite_true, ite_false, ite_not, some_none, some_some, none_some, none_none, A_eq hA, li_0, li_1, li_2, li_3, li_4, li_5, li_6, li_7, li_8, li_9, li_10, li_11, li_12, li_13, li_14, li_15, li_16, li_17, li_18, li_19, li_20, li_21, li_22, li_23, li_24, li_25, li_26, li_27, li_28, li_29, li_30, li_31, li_32, li_63, li_64, li_99, li_100, li_128, li_240, li_256, li_512, li_960, li_1000, li_1022, li_1023, li_100000, li_m1, li_m1000, ↓r_v0 hA, ↓r_c0 hA, ↓r_0_0 hA, ↓r_0_1 hA, ↓r_0_2 hA, ↓r_0_3 hA, ↓r_0_4 hA, ↓r_0_5 hA, ↓r_0_6 hA, ↓r_0_7 hA, ↓r_0_8 hA, ↓r_0_9 hA, ↓r_v1 hA, ↓r_c1 hA, ↓r_1_0 hA, ↓r_1_1 hA, ↓r_1_2 hA, ↓r_1_3 hA, ↓r_1_4 hA, ↓r_v2 hA, ↓r_c2 hA, ↓r_2_0 hA, ↓r_2_1 hA, ↓r_2_2 hA, ↓r_v4 hA, ↓r_c4 hA, ↓r_4_0 hA, ↓r_v5 hA, ↓r_c5 hA, ↓r_5_0 hA, ↓r_5_1 hA, ↓r_5_2 hA, ↓r_5_3 hA, ↓r_5_4 hA, ↓r_5_5 hA, ↓r_5_6p hA, ↓r_5_6n hA, ↓r_5_7p hA, ↓r_5_7n hA, ↓r_5_8 hA, ↓r_5_9 hA, ↓r_5_10 hA, ↓r_5_11 hA, ↓r_5_12 hA, ↓r_5_13 hA, ↓r_5_14 hA, ↓r_5_15 hA, ↓r_5_16 hA, ↓r_5_17 hA, ↓r_v11 hA, ↓r_c11 hA, ↓r_11_0 hA, ↓r_11_1p hA, ↓r_11_2 hA, ↓r_v13 hA, ↓r_c13 hA, ↓r_13_0 hA, ↓r_13_1 hA, ↓r_13_2 hA, ↓r_13_3 hA, ↓r_13_4 hA, ↓r_13_5 hA, ↓r_v14 hA, ↓r_c14 hA, ↓r_14_0 hA, ↓r_v15 hA, ↓r_c15 hA, ↓r_15_0 hA, ↓r_15_1 hA, ↓r_v16 hA, ↓r_c16 hA, ↓r_16_0 hA, r_l3 hA, ↓r_l3 hA, ↓r_n3 hA, r_a3 hA, r_l10 hA, ↓r_l10 hA, ↓r_n10 hA, r_a10 hA, r_l20 hA, ↓r_l20 hA, ↓r_n20 hA, r_a20 hA, r_l6 hA, ↓r_l6 hA, ↓r_n6 hA, r_a6 hA, r_l7 hA, ↓r_l7 hA, ↓r_n7 hA, r_a7 hA, r_l8 hA, ↓r_l8 hA, ↓r_n8 hA, r_a8 hA, r_l9 hA, ↓r_l9 hA, ↓r_n9 hA, r_a9 hA, r_l18 hA, ↓r_l18 hA, ↓r_n18 hA, r_a18 hA, r_l19 hA, ↓r_l19 hA, ↓r_n19 hA, r_a19 hA, r_l21 hA, ↓r_l21 hA, ↓r_n21 hA, r_a21 hA, r_l22 hA, ↓r_l22 hA, ↓r_n22 hA, r_a22 hA, r_l23 hA, ↓r_l23 hA, ↓r_n23 hA, r_a23 hA, r_l24 hA, ↓r_l24 hA, ↓r_n24 hA, r_a24 hA, r_l25 hA, ↓r_l25 hA, ↓r_n25 hA, r_a25 hA, r_l17 hA, ↓r_l17 hA, ↓r_n17 hA, r_sz0 hA, r_gt0 hA, r_sz1 hA, r_gt1 hA, r_sz2 hA, r_gt2 hA, r_sz3 hA, r_gt3 hA, w_s6 hA, w_s7 hA, w_s8 hA, w_s9 hA, w_s18 hA, w_s19 hA, w_s21 hA, w_s22 hA, w_s23 hA, w_s24 hA, w_s25 hA, w_f11 hA, w_f12 hA, w_f13 hA, w_f16 hA, e0, e1]
    · rw [if_neg c] at e1
      rw [if_neg c]
      have l0 : 0 ≤ h := by omega
      have l1 : h < S 20 4 := by omega
      have h3 : ((h.toNat : Nat) : Int) = h := by omega
      obtain ⟨K2, e2, g1, g2⟩ := e_findCheapest (P := P) (K := K1) (z := z) hA hV.1 hV.2.1 hV.2.2 l0 l1
      have hC2 : CI S K2 := CI_KE g1 (CI_KE h1' hC)
      have hgu : ∀ T : KK, CI S T → ∃ K4, L_X1_fillUp_7 (some (A 14 0)) (some (A 13 0)) (rtn ()) (rtn ()) g (x ||| (iI 1 <<< (iI h &&& iI 31))) (iI t) (iI (tn + 1)) (Hc A P S T, z) = some (.ok (), (Hc A P (fiS f S t (fun k => bHas x (iI (k : Int)) || decide ((k : Int) = h))) K4, z)) ∧ KZ T K4 ∧ CI (fiS f S t (fun k => bHas x (iI (k : Int)) || decide ((k : Int) = h))) K4 := fun T hT => by
        obtain ⟨K4, e4, g5, g6⟩ := ih (tn + 1) t (x ||| (iI 1 <<< (iI h &&& iI 31))) S T g (by omega) (by omega) h0 h1 (by omega) hV hT
        have hre : fiS f S t (fun k => bHas (x ||| (iI 1 <<< (iI h &&& iI 31))) (iI (k : Int))) = fiS f S t (fun k => bHas x (iI (k : Int)) || decide ((k : Int) = h)) := fiS_c _ _ _ _ _ (fun k hk => by
          rw [bHas_or _ _ (by omega), ← h3, bHas_bitk (by omega) (by omega)]
          congr 1
          apply decide_eq_decide.mpr
          omega)
        rw [hre] at e4 g6
        exact ⟨K4, e4, g5, g6⟩
      by_cases c2 : chP S h (-2) = -1
      · rw [if_pos c2]
        rw [c2] at e2
        by_cases c3 : t < 10
        · obtain ⟨K3, e3, g3, g4⟩ := e_throwOut (P := P) (K := K2) (z := z) hA hV hC2 l0 l1
          by_cases c4 : 0 ≤ thP S h 240
          · rw [if_pos ⟨c3, c4⟩]
            rw [if_pos c4, if_pos c4] at e3
            rw [if_pos c4] at g4
            obtain ⟨K4, e4, g5, g6⟩ := ih (tn + 1) (t + 1) x (thS S h (thP S h 240)) K3 g (by omega) (by omega) (by omega) (by omega) (by omega) (VS_th hV l0 l1 c4) g4
            refine ⟨K4, ?_, ((h1'.z.tr g1.z).tr g3).tr g5, g6⟩
            rw [u_L_X1_fillUp_7]
            simp -implicitDefEqProofs (disch := omega) only [↓reduceIte, ↓e_lets, ↓e_ite, ↓e_cal, e_cal2, e_cal3, e_thr, e_nthrow, e_rtn, e_r0, e_r1, e_dv, iI_add, iI_sub, iI_mul, iI_neg, iI_div, iI_rem, iI_lt, iI_le, iI_eq, b_eq0, b_eq1, Int.reduceAdd, Int.reduceMul, Int.reduceSub, Int.reduceNeg, Int.reduceDiv, Int.reduceMod, Nat.reduceAdd, Bool.false_eq_true, eq_self, ltT, ltF, leT, leF, eqT, eqF, true_and, and_true, false_and, and_false, and_self, or_true, true_or, or_false, false_or, ne_eq, not_true_eq_false, not_false_eq_true, if_true, if_false, ite_true, ite_false, ite_not, some_none, some_some, none_some, none_none, A_eq hA, li_0, li_1, li_2, li_3, li_4, li_5, li_6, li_7, li_8, li_9, li_10, li_11, li_12, li_13, li_14, li_15, li_16, li_17, li_18, li_19, li_20, li_21, li_22, li_23, li_24, li_25, li_26, li_27, li_28, li_29, li_30, li_31, li_32, li_63, li_64, li_99, li_100, li_128, li_240, li_256, li_512, li_960, li_1000, li_1022, li_1023, li_100000, li_m1, li_m1000, ↓r_v0 hA, ↓r_c0 hA, ↓r_0_0 hA, ↓r_0_1 hA, ↓r_0_2 hA, ↓r_0_3 hA, ↓r_0_4 hA, ↓r_0_5 hA, ↓r_0_6 hA, ↓r_0_7 hA, ↓r_0_8 hA, ↓r_0_9 hA, ↓r_v1 hA, ↓r_c1 hA, ↓r_1_0 hA, ↓r_1_1 hA, ↓r_1_2 hA, ↓r_1_3 hA, ↓r_1_4 hA, ↓r_v2 hA, ↓r_c2 hA, ↓r_2_0 hA, ↓r_2_1 hA, ↓r_2_2 hA, ↓r_v4 hA, ↓r_c4 hA, ↓r_4_0 hA, ↓r_v5 hA, ↓r_c5 hA, ↓r_5_0 hA, ↓r_5_1 hA, ↓r_5_2 hA, ↓r_5_3 hA, ↓r_5_4 hA, ↓r_5_5 hA, ↓r_5_6p hA, ↓r_5_6n hA, ↓r_5_7p hA, ↓r_5_7n hA, ↓r_5_8 hA, ↓r_5_9 hA, ↓r_5_10 hA, ↓r_5_11 hA, ↓r_5_12 hA, ↓r_5_13 hA, ↓r_5_14 hA, ↓r_5_15 hA, ↓r_5_16 hA, ↓r_5_17 hA, ↓r_v11 hA, ↓r_c11 hA, ↓r_11_0 hA, ↓r_11_1p hA, ↓r_11_2 hA, ↓r_v13 hA, ↓r_c13 hA, ↓r_13_0 hA, ↓r_13_1 hA, ↓r_13_2 hA, ↓r_13_3 hA, ↓r_13_4 hA, ↓r_13_5 hA, ↓r_v14 hA, ↓r_c14 hA, ↓r_14_0 hA, ↓r_v15 hA, ↓r_c15 hA, ↓r_15_0 hA, ↓r_15_1 hA, ↓r_v16 hA, ↓r_c16 hA, ↓r_16_0 hA, r_l3 hA, ↓r_l3 hA, ↓r_n3 hA, r_a3 hA, r_l10 hA, ↓r_l10 hA, ↓r_n10 hA, r_a10 hA, r_l20 hA, ↓r_l20 hA, ↓r_n20 hA, r_a20 hA, r_l6 hA, ↓r_l6 hA, ↓r_n6 hA, r_a6 hA, r_l7 hA, ↓r_l7 hA, ↓r_n7 hA, r_a7 hA, r_l8 hA, ↓r_l8 hA, ↓r_n8 hA, r_a8 hA, r_l9 hA, ↓r_l9 hA, ↓r_n9 hA, r_a9 hA, r_l18 hA, ↓r_l18 hA, ↓r_n18 hA, r_a18 hA, r_l19 hA, ↓r_l19 hA, ↓r_n19 hA, r_a19 hA, r_l21 hA, ↓r_l21 hA, ↓r_n21 hA, r_a21 hA, r_l22 hA, ↓r_l22 hA, ↓r_n22 hA, r_a22 hA, r_l23 hA, ↓r_l23 hA, ↓r_n23 hA, r_a23 hA, r_l24 hA, ↓r_l24 hA, ↓r_n24 hA, r_a24 hA, r_l25 hA, ↓r_l25 hA, ↓r_n25 hA, r_a25 hA, r_l17 hA, ↓r_l17 hA, ↓r_n17 hA, r_sz0 hA, r_gt0 hA, r_sz1 hA, r_gt1 hA, r_sz2 hA, r_gt2 hA, r_sz3 hA, r_gt3 hA, w_s6 hA, w_s7 hA, w_s8 hA, w_s9 hA, w_s18 hA, w_s19 hA, w_s21 hA, w_s22 hA, w_s23 hA, w_s24 hA, w_s25 hA, w_f11 hA, w_f12 hA, w_f13 hA, w_f16 hA, e0, e1, e2, e3, e4, ↓u_j_X1_fillUp_82, ↓u_j_X1_fillUp_92]
          · rw [if_neg (fun q => c4 q.2)]
            rw [if_neg c4, if_neg c4] at e3
            rw [if_neg c4] at g4
            obtain ⟨K4, e4, g5, g6⟩ := hgu K3 g4
            refine ⟨K4, ?_, ((h1'.z.tr g1.z).tr g3).tr g5, g6⟩
            rw [u_L_X1_fillUp_7]
            simp -implicitDefEqProofs (disch := omega) only [↓reduceIte, ↓e_lets, ↓e_ite, ↓e_cal, e_cal2, e_cal3, e_thr, e_nthrow, e_rtn, e_r0, e_r1, e_dv, iI_add, iI_sub, iI_mul, iI_neg, iI_div, iI_rem, iI_lt, iI_le, iI_eq, b_eq0, b_eq1, Int.reduceAdd, Int.reduceMul, Int.reduceSub, Int.reduceNeg, Int.reduceDiv, Int.reduceMod, Nat.reduceAdd, Bool.false_eq_true, eq_self, ltT, ltF, leT, leF, eqT, eqF, true_and, and_true, false_and, and_false, and_self, or_true, true_or, or_false, false_or, ne_eq, not_true_eq_false, not_false_eq_true, if_true, if_false, ite_true, ite_false, ite_not, some_none, some_some, none_some, none_none, A_eq hA, li_0, li_1, li_2, li_3, li_4, li_5, li_6, li_7, li_8, li_9, li_10, li_11, li_12, li_13, li_14, li_15, li_16, li_17, li_18, li_19, li_20, li_21, li_22, li_23, li_24, li_25, li_26, li_27, li_28, li_29, li_30, li_31, li_32, li_63, li_64, li_99, li_100, li_128, li_240, li_256, li_512, li_960, li_1000, li_1022, li_1023, li_100000, li_m1, li_m1000, ↓r_v0 hA, ↓r_c0 hA, ↓r_0_0 hA, ↓r_0_1 hA, ↓r_0_2 hA, ↓r_0_3 hA, ↓r_0_4 hA, ↓r_0_5 hA, ↓r_0_6 hA, ↓r_0_7 hA, ↓r_0_8 hA, ↓r_0_9 hA, ↓r_v1 hA, ↓r_c1 hA, ↓r_1_0 hA, ↓r_1_1 hA, ↓r_1_2 hA, ↓r_1_3 hA, ↓r_1_4 hA, ↓r_v2 hA, ↓r_c2 hA, ↓r_2_0 hA, ↓r_2_1 hA, ↓r_2_2 hA, ↓r_v4 hA, ↓r_c4 hA, ↓r_4_0 hA, ↓r_v5 hA, ↓r_c5 hA, ↓r_5_0 hA, ↓r_5_1 hA, ↓r_5_2 hA, ↓r_5_3 hA, ↓r_5_4 hA, ↓r_5_5 hA, ↓r_5_6p hA, ↓r_5_6n hA, ↓r_5_7p hA, ↓r_5_7n hA, ↓r_5_8 hA, ↓r_5_9 hA, ↓r_5_10 hA, ↓r_5_11 hA, ↓r_5_12 hA, ↓r_5_13 hA, ↓r_5_14 hA, ↓r_5_15 hA, ↓r_5_16 hA, ↓r_5_17 hA, ↓r_v11 hA, ↓r_c11 hA, ↓r_11_0 hA, ↓r_11_1p hA, ↓r_11_2 hA, ↓r_v13 hA, ↓r_c13 hA, ↓r_13_0 hA, ↓r_13_1 hA, ↓r_13_2 hA, ↓r_13_3 hA, ↓r_13_4 hA, ↓r_13_5 hA, ↓r_v14 hA, ↓r_c14 hA, ↓r_14_0 hA, ↓r_v15 hA, ↓r_c15 hA, ↓r_15_0 hA, ↓r_15_1 hA, ↓r_v16 hA, ↓r_c16 hA, ↓r_16_0 hA, r_l3 hA, ↓r_l3 hA, ↓r_n3 hA, r_a3 hA, r_l10 hA, ↓r_l10 hA, ↓r_n10 hA, r_a10 hA, r_l20 hA, ↓r_l20 hA, ↓r_n20 hA, r_a20 hA, r_l6 hA, ↓r_l6 hA, ↓r_n6 hA, r_a6 hA, r_l7 hA, ↓r_l7 hA, ↓r_n7 hA, r_a7 hA, r_l8 hA, ↓r_l8 hA, ↓r_n8 hA, r_a8 hA, r_l9 hA, ↓r_l9 hA, ↓r_n9 hA, r_a9 hA, r_l18 hA, ↓r_l18 hA, ↓r_n18 hA, r_a18 hA, r_l19 hA, ↓r_l19 hA, ↓r_n19 hA, r_a19 hA, r_l21 hA, ↓r_l21 hA, ↓r_n21 hA, r_a21 hA, r_l22 hA, ↓r_l22 hA, ↓r_n22 hA, r_a22 hA, r_l23 hA, ↓r_l23 hA, ↓r_n23 hA, r_a23 hA, r_l24 hA, ↓r_l24 hA, ↓r_n24 hA, r_a24 hA, r_l25 hA, ↓r_l25 hA, ↓r_n25 hA, r_a25 hA, r_l17 hA, ↓r_l17 hA, ↓r_n17 hA, r_sz0 hA, r_gt0 hA, r_sz1 hA, r_gt1 hA, r_sz2 hA, r_gt2 hA, r_sz3 hA, r_gt3 hA, w_s6 hA, w_s7 hA, w_s8 hA, w_s9 hA, w_s18 hA, w_s19 hA, w_s21 hA, w_s22 hA, w_s23 hA, w_s24 hA, w_s25 hA, w_f11 hA, w_f12 hA, w_f13 hA, w_f16 hA, e0, e1, e2, e3, e4, ↓u_j_X1_fillUp_82, ↓u_j_X1_fillUp_92]
        · rw [if_neg (fun q => c3 q.1)]
          obtain ⟨K4, e4, g5, g6⟩ := hgu K2 hC2
          refine ⟨K4, ?_, (h1'.z.tr g1.z).tr g5, g6⟩
          rw [u_L_X1_fillUp_7]
          simp -implicitDefEqProofs (disch := omega) only [↓reduceIte, ↓e_lets, ↓e_ite, ↓e_cal, e_cal2, e_cal3, e_thr, e_nthrow, e_rtn, e_r0, e_r1, e_dv, iI_add, iI_sub, iI_mul, iI_neg, iI_div, iI_rem, iI_lt, iI_le, iI_eq, b_eq0, b_eq1, Int.reduceAdd, Int.reduceMul, Int.reduceSub, Int.reduceNeg, Int.reduceDiv, Int.reduceMod, Nat.reduceAdd, Bool.false_eq_true, eq_self, ltT, ltF, leT, leF, eqT, eqF, true_and, and_true, false_and, and_false, and_self, or_true, true_or, or_false, false_or, ne_eq, not_true_eq_false, not_false_eq_true, if_true, if_false, ite_true, ite_false, ite_not, some_none, some_some, none_some, none_none, A_eq hA, li_0, li_1, li_2, li_3, li_4, li_5, li_6, li_7, li_8, li_9, li_10, li_11, li_12, li_13, li_14, li_15, li_16, li_17, li_18, li_19, li_20, li_21, li_22, li_23, li_24, li_25, li_26, li_27, li_28, li_29, li_30, li_31, li_32, li_63, li_64, li_99, li_100, li_128, li_240, li_256, li_512, li_960, li_1000, li_1022, li_1023, li_100000, li_m1, li_m1000, ↓r_v0 hA, ↓r_c0 hA, ↓r_0_0 hA, ↓r_0_1 hA, ↓r_0_2 hA, ↓r_0_3 hA, ↓r_0_4 hA, ↓r_0_5 hA, ↓r_0_6 hA, ↓r_0_7 hA, ↓r_0_8 hA, ↓r_0_9 hA, ↓r_v1 hA, ↓r_c1 hA, ↓r_1_0 hA, ↓r_1_1 hA, ↓r_1_2 hA, ↓r_1_3 hA, ↓r_1_4 hA, ↓r_v2 hA, ↓r_c2 hA, ↓r_2_0 hA, ↓r_2_1 hA, ↓r_2_2 hA, ↓r_v4 hA, ↓r_c4 hA, ↓r_4_0 hA, ↓r_v5 hA, ↓r_c5 hA, ↓r_5_0 hA, ↓r_5_1 hA, ↓r_5_2 hA, ↓r_5_3 hA, ↓r_5_4 hA, ↓r_5_5 hA, ↓r_5_6p hA, ↓r_5_6n hA, ↓r_5_7p hA, ↓r_5_7n hA, ↓r_5_8 hA, ↓r_5_9 hA, ↓r_5_10 hA, ↓r_5_11 hA, ↓r_5_12 hA, ↓r_5_13 hA, ↓r_5_14 hA, ↓r_5_15 hA, ↓r_5_16 hA, ↓r_5_17 hA, ↓r_v11 hA, ↓r_c11 hA, ↓r_11_0 hA, ↓r_11_1p hA, ↓r_11_2 hA, ↓r_v13 hA, ↓r_c13 hA, ↓r_13_0 hA, ↓r_13_1 hA, ↓r_13_2 hA, ↓r_13_3 hA, ↓r_13_4 hA, ↓r_13_5 hA, ↓r_v14 hA, ↓r_c14 hA, ↓r_14_0 hA, ↓r_v15 hA, ↓r_c15 hA, ↓r_15_0 hA, ↓r_15_1 hA, ↓r_v16 hA, ↓r_c16 hA, ↓r_16_0 hA, r_l3 hA, ↓r_l3 hA, ↓r_n3 hA, r_a3 hA, r_l10 hA, ↓r_l10 hA, ↓r_n10 hA, r_a10 hA, r_l20 hA, ↓r_l20 hA, ↓r_n20 hA, r_a20 hA, r_l6 hA, ↓r_l6 hA, ↓r_n6 hA, r_a6 hA, r_l7 hA, ↓r_l7 hA, ↓r_n7 hA, r_a7 hA, r_l8 hA, ↓r_l8 hA, ↓r_n8 hA, r_a8 hA, r_l9 hA, ↓r_l9 hA, ↓r_n9 hA, r_a9 hA, r_l18 hA, ↓r_l18 hA, ↓r_n18 hA, r_a18 hA, r_l19 hA, ↓r_l19 hA, ↓r_n19 hA, r_a19 hA, r_l21 hA, ↓r_l21 hA, ↓r_n21 hA, r_a21 hA, r_l22 hA, ↓r_l22 hA, ↓r_n22 hA, r_a22 hA, r_l23 hA, ↓r_l23 hA, ↓r_n23 hA, r_a23 hA, r_l24 hA, ↓r_l24 hA, ↓r_n24 hA, r_a24 hA, r_l25 hA, ↓r_l25 hA, ↓r_n25 hA, r_a25 hA, r_l17 hA, ↓r_l17 hA, ↓r_n17 hA, r_sz0 hA, r_gt0 hA, r_sz1 hA, r_gt1 hA, r_sz2 hA, r_gt2 hA, r_sz3 hA, r_gt3 hA, w_s6 hA, w_s7 hA, w_s8 hA, w_s9 hA, w_s18 hA, w_s19 hA, w_s21 hA, w_s22 hA, w_s23 hA, w_s24 hA, w_s25 hA, w_f11 hA, w_f12 hA, w_f13 hA, w_f16 hA, e0, e1, e2, e4, ↓u_j_X1_fillUp_82, ↓u_j_X1_fillUp_92]
      · rw [if_neg c2]
        rcases chP_p hV (x := -2) l0 l1 with hp | hp
        · exact absurd hp c2
        · obtain ⟨K3, e3, g3, g4⟩ := e_putAt (P := P) (K := K2) (z := z) hA hV hC2 l0 l1 hp.1 hp.2.1 hp.2.2.1 hp.2.2.2.1
          obtain ⟨K4, e4, g5, g6⟩ := ih (tn + 1) t x (upS S 14 h (chP S h (-2))) K3 g (by omega) (by omega) h0 h1 (by omega) (VS_ch hV l0 l1) g4
          refine ⟨K4, ?_, ((h1'.z.tr g1.z).tr g3.z).tr g5, g6⟩
          rw [u_L_X1_fillUp_7]
          simp -implicitDefEqProofs (disch := omega) only [↓reduceIte, ↓e_lets, ↓e_ite, ↓e_cal, e_cal2, e_cal3, e_thr, e_nthrow, e_rtn, e_r0, e_r1, e_dv, iI_add, iI_sub, iI_mul, iI_neg, iI_div, iI_rem, iI_lt, iI_le, iI_eq, b_eq0, b_eq1, Int.reduceAdd, Int.reduceMul, Int.reduceSub, Int.reduceNeg, Int.reduceDiv, Int.reduceMod, Nat.reduceAdd, Bool.false_eq_true, eq_self, ltT, ltF, leT, leF, eqT, eqF, true_and, and_true, false_and, and_false, and_self, or_true, true_or, or_false, false_or, ne_eq, not_true_eq_false, not_false_eq_true, if_true, if_false, ite_true, ite_false, ite_not, some_none, some_some, none_some, none_none, A_eq hA, li_0, li_1, li_2, li_3, li_4, li_5, li_6, li_7, li_8, li_9, li_10, li_11, li_12, li_13, li_14, li_15, li_16, li_17, li_18, li_19, li_20, li_21, li_22, li_23, li_24, li_25, li_26, li_27, li_28, li_29, li_30, li_31, li_32, li_63, li_64, li_99, li_100, li_128, li_240, li_256, li_512, li_960, li_1000, li_1022, li_1023, li_100000, li_m1, li_m1000, ↓r_v0 hA, ↓r_c0 hA, ↓r_0_0 hA, ↓r_0_1 hA, ↓r_0_2 hA, ↓r_0_3 hA, ↓r_0_4 hA, ↓r_0_5 hA, ↓r_0_6 hA, ↓r_0_7 hA, ↓r_0_8 hA, ↓r_0_9 hA, ↓r_v1 hA, ↓r_c1 hA, ↓r_1_0 hA, ↓r_1_1 hA, ↓r_1_2 hA, ↓r_1_3 hA, ↓r_1_4 hA, ↓r_v2 hA, ↓r_c2 hA, ↓r_2_0 hA, ↓r_2_1 hA, ↓r_2_2 hA, ↓r_v4 hA, ↓r_c4 hA, ↓r_4_0 hA, ↓r_v5 hA, ↓r_c5 hA, ↓r_5_0 hA, ↓r_5_1 hA, ↓r_5_2 hA, ↓r_5_3 hA, ↓r_5_4 hA, ↓r_5_5 hA, ↓r_5_6p hA, ↓r_5_6n hA, ↓r_5_7p hA, ↓r_5_7n hA, ↓r_5_8 hA, ↓r_5_9 hA, ↓r_5_10 hA, ↓r_5_11 hA, ↓r_5_12 hA, ↓r_5_13 hA, ↓r_5_14 hA, ↓r_5_15 hA, ↓r_5_16 hA, ↓r_5_17 hA, ↓r_v11 hA, ↓r_c11 hA, ↓r_11_0 hA, ↓r_11_1p hA, ↓r_11_2 hA, ↓r_v13 hA, ↓r_c13 hA, ↓r_13_0 hA, ↓r_13_1 hA, ↓r_13_2 hA, ↓r_13_3 hA, ↓r_13_4 hA, ↓r_13_5 hA, ↓r_v14 hA, ↓r_c14 hA, ↓r_14_0 hA, ↓r_v15 hA, ↓r_c15 hA, ↓r_15_0 hA, ↓r_15_1 hA, ↓r_v16 hA, ↓r_c16 hA, ↓r_16_0 hA, r_l3 hA, ↓r_l3 hA, ↓r_n3 hA, r_a3 hA, r_l10 hA, ↓r_l10 hA, ↓r_n10 hA, r_a10 hA, r_l20 hA, ↓r_l20 hA, ↓r_n20 hA, r_a20 hA, r_l6 hA, ↓r_l6 hA, ↓r_n6 hA, r_a6 hA, r_l7 hA, ↓r_l7 hA, ↓r_n7 hA, r_a7 hA, r_l8 hA, ↓r_l8 hA, ↓r_n8 hA, r_a8 hA, r_l9 hA, ↓r_l9 hA, ↓r_n9 hA, r_a9 hA, r_l18 hA, ↓r_l18 hA, ↓r_n18 hA, r_a18 hA, r_l19 hA, ↓r_l19 hA, ↓r_n19 hA, r_a19 hA, r_l21 hA, ↓r_l21 hA, ↓r_n21 hA, r_a21 hA, r_l22 hA, ↓r_l22 hA, ↓r_n22 hA, r_a22 hA, r_l23 hA, ↓r_l23 hA, ↓r_n23 hA, r_a23 hA, r_l24 hA, ↓r_l24 hA, ↓r_n24 hA, r_a24 hA, r_l25 hA, ↓r_l25 hA, ↓r_n25 hA, r_a25 hA, r_l17 hA, ↓r_l17 hA, ↓r_n17 hA, r_sz0 hA, r_gt0 hA, r_sz1 hA, r_gt1 hA, r_sz2 hA, r_gt2 hA, r_sz3 hA, r_gt3 hA, w_s6 hA, w_s7 hA, w_s8 hA, w_s9 hA, w_s18 hA, w_s19 hA, w_s21 hA, w_s22 hA, w_s23 hA, w_s24 hA, w_s25 hA, w_f11 hA, w_f12 hA, w_f13 hA, w_f16 hA, e0, e1, e2, e3, e4, ↓u_j_X1_fillUp_82, ↓u_j_X1_fillUp_92]
theorem e_fillUp {A : AA} {P : Hp} {S : SS} {K : KK} {z : Nat × Nat} (hA : GA A) (hV : VS S) (hC : CI S K)  : ∃ K2, f_X1_fillUp (A 14 0) (some (A 13 0)) (Hc A P S K, z) = some (.ok (), (Hc A P (fiS 1000 S 0 (fun _ => false)) K2, z)) ∧ KZ K K2 ∧ CI (fiS 1000 S 0 (fun _ => false)) K2 := by
  obtain ⟨K2, e1, h1, h2⟩ := e_L_fill (P := P) (z := z) hA 1000 0 0 (iI 0) S K 100000 (by decide) (by decide) (by decide) (by decide) (by decide) hV hC
  have hm2 := hV.2.1
  unfold Bm at hm2
  have hre : fiS 1000 S 0 (fun k => bHas (iI 0) (iI (k : Int))) = fiS 1000 S 0 (fun _ => false) := fiS_c _ _ _ _ _ (fun k hk => bHas_00 k (by omega))
  rw [hre] at e1 h2
  refine ⟨K2, ?_, h1, h2⟩
  unfold f_X1_fillUp
  rw [e_lets, e_lets, e_lets, li_0]
  exact e1
