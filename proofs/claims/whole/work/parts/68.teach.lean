/-! PURE LAYER: a teacher is added (class) -/
theorem e_X7_init {A : AA} {P : Hp} {S : SS} {K : KK} (hA : GA A) {o o1 : Nat} {x y1 y2 : Int32} (ho : ∀ (k : Nat) (i : Int), k < 27 → 0 ≤ i → A k i ≠ o) (hz : ∀ (k : Nat) (i : Int), k < 27 → 0 ≤ i → A k i ≠ o1) (hne : o ≠ o1) {e0 : Nat} : f_X7_init o x (Hc A (hset P o (aO 10 [.null, .int y1, .int y2])) S K, (o1, e0)) = some (.ok (), (Hc A (hset (hset (hset P o (aO 10 [.null, .int y1, .int y2])) o1 (aI 0 30 (fun _ => 0))) o (aO 10 [.ref o1, .int x, .int y2])) S K, (o1 + 1, e0))) := by
  unfold f_X7_init
  rw [w_nwI hA (z := (o1, e0)) (by decide +kernel) hz]
  show pV (some o) 10 0 (.ref o1) (pV (some o) 10 1 (.int x) (rtn ())) _ = _
  rw [w_P hA ho ((hset_n hne).trans hset_s) (by show 0 < 3; decide), w_P hA ho hset_s (by show 1 < 3; decide), hset2]
  rfl
theorem c_addTeacher_0 {A : AA} {P : Hp} {S : SS} {K : KK} {z : Nat × Nat} (hA : GA A) (hV : VS S) (hC : CI S K) {out : Nat} {f : Nat → Int64} (hO : OutI A P out f) (ho : out < z.1) (hF : Fr A P S z) (h4 : S 4 (S 20 2) = 0) (h6 : ∀ j : Int, 0 ≤ j → j < 30 → S 6 (30 * S 20 2 + j) = 0) {a : Int} (ha : 0 ≤ a ∧ a ≤ 31) (h2 : S 20 2 < 8) : ∃ h2 z2, f_L_addTeacher (some (A 0 0)) (iI a) (some out) (Hc A P S K, z) = some (.ok (iI 0), (h2, z2)) ∧ Born A P S (upS (upS S 3 (S 20 2) a) 20 2 (S 20 2 + 1)) out f (S 20 2) z h2 z2 := by
  have hm := hV.2.1
  have hm2 := hm
  unfold Bm at hm2
  have f0 : ∀ (k : Nat) (i : Int), k < 27 → 0 ≤ i → A k i ≠ z.1 := hF.no (j := 0) (by decide)
  have f1 : ∀ (k : Nat) (i : Int), k < 27 → 0 ≤ i → A k i ≠ z.1 + 1 := hF.no (j := 1) (by decide)
  obtain ⟨w1, w2, w3, w4, w5, w6⟩ := hF
  have hl := live_ad (S2 := (upS (upS S 3 (S 20 2) a) 20 2 (S 20 2 + 1))) hm (q := 0) (by decide) (by decide) rfl (fun j j0 j1 j2 => by
    rcases (show j = 1 ∨ j = 2 ∨ j = 3 by omega) with rfl | rfl | rfl <;> rfl)
  have hP2 : ∀ x, x ≠ z.1 → x ≠ z.1 + 1 → (hset (hset (hset P z.1 (aO 10 [.null, .int (iI 0), .int (iI 0)])) (z.1 + 1) (aI 0 30 (fun _ => iI 0))) z.1 (aO 10 [.ref (z.1 + 1), .int (offM a), .int (iI 0)])) x = P x := fun x n1 n2 => by
    rw [hset_n n1, hset_n n2, hset_n n1]
  obtain ⟨h3, z3, e1, e2, e3⟩ := born_of (P2 := (hset (hset (hset P z.1 (aO 10 [.null, .int (iI 0), .int (iI 0)])) (z.1 + 1) (aI 0 30 (fun _ => iI 0))) z.1 (aO 10 [.ref (z.1 + 1), .int (offM a), .int (iI 0)]))) (z1 := z.1 + 1 + 1) (K2 := K) (q := 0) (v := S 20 2) (S2 := (upS (upS S 3 (S 20 2) a) 20 2 (S 20 2 + 1))) hA hV (fun p p0 p1 => by
      rw [hC p p0 p1]
      refine congrArg iI (amt_c (S := S) (S2 := (upS (upS S 3 (S 20 2) a) 20 2 (S 20 2 + 1))) ?_ ?_ ?_ ?_ ?_ ?_ ?_ rfl rfl p).symm <;> rw [upS_g (by decide), upS_g (by decide)]) (by decide) (by decide) (by show S 20 2 ≤ 15; omega) rfl w1 w3 ((hP2 _ (by omega) (by omega)).trans w4) hO ho (fun x hx => hP2 x (by omega) (by omega)) ⟨by omega, fun _ => by omega, fun h => absurd h (by decide)⟩ ((hP2 _ (by omega) (by omega)).trans (w6 _ (by omega))) (fun k i hn bb => by
      obtain ⟨rfl, hn⟩ := hn
      have o2 : okind 0 = 2 := rfl
      rw [o2] at hn
      have k4 : k = 2 ∨ k = 3 := by omega
      rcases k4 with rfl | rfl
      · refine (hset_s (h := hset (hset P z.1 (aO 10 [.null, .int (iI 0), .int (iI 0)])) (z.1 + 1) (aI 0 30 (fun _ => iI 0))) (a := z.1) (e := (aO 10 [.ref (z.1 + 1), .int (offM a), .int (iI 0)]))).trans ?_
        have x3 : (upS (upS S 3 (S 20 2) a) 20 2 (S 20 2 + 1)) 3 (S 20 2) = a := by
          rw [upS_g (by decide), upS_s]
        have x4 : (upS (upS S 3 (S 20 2) a) 20 2 (S 20 2 + 1)) 4 (S 20 2) = 0 := by
          rw [upS_g (by decide), upS_g (by decide), h4]
        show _ = some (aO 10 [.ref (adA A 2 (S 20 2) z.1 0 bb 3 (S 20 2)), .int (offM ((upS (upS S 3 (S 20 2) a) 20 2 (S 20 2 + 1)) 3 (S 20 2))), .int (iI ((upS (upS S 3 (S 20 2) a) 20 2 (S 20 2 + 1)) 4 (S 20 2)))])
        rw [x3, x4, adA_b (by decide) ⟨rfl, Or.inr (Or.inl ⟨rfl, rfl⟩)⟩]
        rfl
      · refine ((hset_n (by show z.1 + 1 ≠ z.1; omega)).trans (hset_s (h := hset P z.1 (aO 10 [.null, .int (iI 0), .int (iI 0)])) (a := z.1 + 1) (e := aI 0 30 (fun _ => iI 0)))).trans ?_
        show _ = some (aI 0 30 (fun j => if (j : Int) < 30 then iI ((upS (upS S 3 (S 20 2) a) 20 2 (S 20 2 + 1)) 6 (30 * S 20 2 + (j : Int))) else iI 0))
        refine congrArg (fun g => some (aI 0 30 g)) (funext fun j => ?_)
        by_cases d : (j : Int) < 30
        · rw [if_pos d, upS_g (by decide), upS_g (by decide), h6 j (by omega) d]
        · rw [if_neg d]) (fun B k i hl c1 c2 => by
      have l2 := hl.2.2.1
      unfold cell
      split
      all_goals first
        | rfl
        | skip
      · have l3 : i < S 20 2 := l2
        unfold cTea
        have x3 : (upS (upS S 3 (S 20 2) a) 20 2 (S 20 2 + 1)) 3 i = S 3 i := by
          rw [upS_g (by decide), upS_i (by omega)]
        have x4 : (upS (upS S 3 (S 20 2) a) 20 2 (S 20 2 + 1)) 4 i = S 4 i := by
          rw [upS_g (by decide), upS_g (by decide)]
        rw [x3, x4]
      · have l4 : i < 4 := l2
        have l0 := hl.2.1
        rcases (show i = 1 ∨ i = 2 ∨ i = 3 by omega) with rfl | rfl | rfl <;> rfl
      · have l4 : i < 4 := l2
        have l0 := hl.2.1
        rcases (show i = 1 ∨ i = 2 ∨ i = 3 by omega) with rfl | rfl | rfl <;> rfl) hl.1 hl.2
  refine ⟨_, _, ?_, e3⟩
  unfold f_L_addTeacher f_X8_addTeacher
  have ei := fun y1 y2 => e_X7_init (P := P) (S := S) (K := K) (e0 := z.2) hA (o := z.1) (o1 := z.1 + 1) (x := offM a) (y1 := y1) (y2 := y2) f0 f1 (by omega)
  simp -implicitDefEqProofs (disch := omega) only [↓reduceIte, ↓e_lets, ↓e_ite, ↓e_cal, e_cal2, e_cal3, e_thr, e_nthrow, e_rtn, e_r0, e_r1, e_dv, iI_add, iI_sub, iI_mul, iI_neg, iI_div, iI_rem, iI_lt, iI_le, iI_eq, b_eq0, b_eq1, Int.reduceAdd, Int.reduceMul, Int.reduceSub, Int.reduceNeg, Int.reduceDiv, Int.reduceMod, Nat.reduceAdd, Bool.false_eq_true, eq_self, ltT, ltF, leT, leF, eqT, eqF, true_and, and_true, false_and, and_false, and_self, or_true, true_or, or_false, false_or, ne_eq, not_true_eq_false, not_false_eq_true, if_true, if_false, ite_true, ite_false, ite_not, some_none, some_some, none_some, none_none, A_eq hA, li_0, li_1, li_2, li_3, li_4, li_5, li_6, li_7, li_8, li_9, li_10, li_11, li_12, li_13, li_14, li_15, li_16, li_17, li_18, li_19, li_20, li_21, li_22, li_23, li_24, li_25, li_26, li_27, li_28, li_29, li_30, li_31, li_32, li_63, li_64, li_99, li_100, li_128, li_240, li_256, li_512, li_960, li_1000, li_1022, li_1023, li_100000, li_m1, li_m1000, ↓r_v0 hA, ↓r_c0 hA, ↓r_0_0 hA, ↓r_0_1 hA, ↓r_0_2 hA, ↓r_0_3 hA, ↓r_0_4 hA, ↓r_0_5 hA, ↓r_0_6 hA, ↓r_0_7 hA, ↓r_0_8 hA, ↓r_0_9 hA, ↓r_v1 hA, ↓r_c1 hA, ↓r_1_0 hA, ↓r_1_1 hA, ↓r_1_2 hA, ↓r_1_3 hA, ↓r_1_4 hA, ↓r_v2 hA, ↓r_c2 hA, ↓r_2_0 hA, ↓r_2_1 hA, ↓r_2_2 hA, ↓r_v4 hA, ↓r_c4 hA, ↓r_4_0 hA, ↓r_v5 hA, ↓r_c5 hA, ↓r_5_0 hA, ↓r_5_1 hA, ↓r_5_2 hA, ↓r_5_3 hA, ↓r_5_4 hA, ↓r_5_5 hA, ↓r_5_6p hA, ↓r_5_6n hA, ↓r_5_7p hA, ↓r_5_7n hA, ↓r_5_8 hA, ↓r_5_9 hA, ↓r_5_10 hA, ↓r_5_11 hA, ↓r_5_12 hA, ↓r_5_13 hA, ↓r_5_14 hA, ↓r_5_15 hA, ↓r_5_16 hA, ↓r_5_17 hA, ↓r_v11 hA, ↓r_c11 hA, ↓r_11_0 hA, ↓r_11_1p hA, ↓r_11_2 hA, ↓r_v13 hA, ↓r_c13 hA, ↓r_13_0 hA, ↓r_13_1 hA, ↓r_13_2 hA, ↓r_13_3 hA, ↓r_13_4 hA, ↓r_13_5 hA, ↓r_v14 hA, ↓r_c14 hA, ↓r_14_0 hA, ↓r_v15 hA, ↓r_c15 hA, ↓r_15_0 hA, ↓r_15_1 hA, ↓r_v16 hA, ↓r_c16 hA, ↓r_16_0 hA, r_l3 hA, ↓r_l3 hA, ↓r_n3 hA, r_a3 hA, r_l10 hA, ↓r_l10 hA, ↓r_n10 hA, r_a10 hA, r_l20 hA, ↓r_l20 hA, ↓r_n20 hA, r_a20 hA, r_l6 hA, ↓r_l6 hA, ↓r_n6 hA, r_a6 hA, r_l7 hA, ↓r_l7 hA, ↓r_n7 hA, r_a7 hA, r_l8 hA, ↓r_l8 hA, ↓r_n8 hA, r_a8 hA, r_l9 hA, ↓r_l9 hA, ↓r_n9 hA, r_a9 hA, r_l18 hA, ↓r_l18 hA, ↓r_n18 hA, r_a18 hA, r_l19 hA, ↓r_l19 hA, ↓r_n19 hA, r_a19 hA, r_l21 hA, ↓r_l21 hA, ↓r_n21 hA, r_a21 hA, r_l22 hA, ↓r_l22 hA, ↓r_n22 hA, r_a22 hA, r_l23 hA, ↓r_l23 hA, ↓r_n23 hA, r_a23 hA, r_l24 hA, ↓r_l24 hA, ↓r_n24 hA, r_a24 hA, r_l25 hA, ↓r_l25 hA, ↓r_n25 hA, r_a25 hA, r_l17 hA, ↓r_l17 hA, ↓r_n17 hA, r_sz0 hA, r_gt0 hA, r_sz1 hA, r_gt1 hA, r_sz2 hA, r_gt2 hA, r_sz3 hA, r_gt3 hA, w_s6 hA, w_s7 hA, w_s8 hA, w_s9 hA, w_s18 hA, w_s19 hA, w_s21 hA, w_s22 hA, w_s23 hA, w_s24 hA, w_s25 hA, w_f11 hA, w_f12 hA, w_f13 hA, w_f16 hA, Nat.reduceEqDiff, ↓w_nw hA f0, e_slotsOfDays, ei, e1, x_stL (hs := (h3, z3, z.2)) e2, e_out0, e_out1]
