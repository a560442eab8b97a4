/-! PURE LAYER: the adds, done (class) -/
theorem e_X2_init {A : AA} {P : Hp} {S : SS} {K : KK} {z : Nat × Nat} (hA : GA A) {o : Nat} {x y : Int32} (ho : ∀ (k : Nat) (i : Int), k < 27 → 0 ≤ i → A k i ≠ o) : f_X2_init o x (Hc A (hset P o (aO 5 [.int y])) S K, z) = some (.ok (), (Hc A (hset P o (aO 5 [.int x])) S K, z)) := by
  unfold f_X2_init
  show pV (some o) 5 0 (.int x) (rtn ()) _ = _
  rw [w_P hA ho hset_s (by show 0 < 1; decide), hset2]
  rfl
theorem gpF_0 {S : SS} {g : Int} (h : ∀ t, busyP S g t = false) : ∀ (n : Nat) (s : Int), gpF S g n s 0 (-1) = 0 := by
  intro n
  induction n with
  | zero => intro s; rfl
  | succ n ih =>
    intro s
    show (if _ then _ else _) = _
    rw [if_neg (by rw [h]; decide)]
    exact ih (s + 1)
theorem busy_no {S : SS} (hv : Vl S) {g : Int} (h : g < 0 ∨ S 20 3 ≤ g) (t : Int) : busyP S g t = false := by
  cases q : busyP S g t
  · rfl
  · obtain ⟨j, j1, j9, _⟩ := (busy_iff S g t).mp q
    have := (hv j (by omega) (by omega)).2.1
    omega
theorem amt_addG {S : SS} {a : Int} (hV : VS S) (p : Int) : amt (upS (upS S 5 (S 20 3) a) 20 3 (S 20 3 + 1)) p = amt S p := by
  have hm := hV.2.1
  unfold Bm at hm
  have e0 : ∀ k : Int, gapK (upS (upS S 5 (S 20 3) a) 20 3 (S 20 3 + 1)) k = gapK S k := fun k => by
    unfold gapK
    rw [gpF_c (S := S) (S2 := upS (upS S 5 (S 20 3) a) 20 3 (S 20 3 + 1)) (by rw [upS_g (by decide), upS_g (by decide)]) (by rw [upS_g (by decide), upS_g (by decide)]) (by rw [upS_g (by decide), upS_g (by decide)]) rfl]
  by_cases c0 : p = 0
  · subst c0
    have e1 : amt (upS (upS S 5 (S 20 3) a) 20 3 (S 20 3 + 1)) 0 = sumN (fun k => gapK (upS (upS S 5 (S 20 3) a) 20 3 (S 20 3 + 1)) k) ((S 20 3 + 1) * 5).toNat := rfl
    have e2 : amt S 0 = sumN (fun k => gapK S k) (S 20 3 * 5).toNat := rfl
    rw [e1, e2, show ((S 20 3 + 1) * 5).toNat = (S 20 3 * 5).toNat + 5 by omega, sm_add, sm_z 5 (fun k hk => by
      show gapK _ (((S 20 3 * 5).toNat + k : Nat) : Int) = 0
      rw [e0]
      exact gpF_0 (busy_no hV.2.2 (Or.inr (by omega))) 6 _), Int.add_zero]
    simp only [e0]
  · unfold amt
    rw [if_neg c0, if_neg c0]
    rfl
theorem CI_addGT {S : SS} {K : KK} {a : Int} (hV : VS S) (hC : CI S K) : CI (upS (upS S 5 (S 20 3) a) 20 3 (S 20 3 + 1)) K := fun p p0 p1 => by
  rw [hC p p0 p1, amt_addG hV]
theorem CI_addG {S : SS} {K : KK} {a : Int} (hV : VS S) (hC : CI S K) : CI (upS (upS S 5 (S 20 3) a) 20 3 (S 20 3 + 1)) K := CI_addGT hV hC
theorem c_addGroup_0 {A : AA} {P : Hp} {S : SS} {K : KK} {z : Nat × Nat} (hA : GA A) (hV : VS S) (hC : CI S K) {out : Nat} {f : Nat → Int64} (hO : OutI A P out f) (ho : out < z.1) (hF : Fr A P S z) {a : Int} (h1 : 1 ≤ a ∧ a ≤ 99) (h2 : S 20 3 < 8) : ∃ h2 z2, f_L_addGroup (some (A 0 0)) (iI a) (some out) (Hc A P S K, z) = some (.ok (iI 0), (h2, z2)) ∧ Born A P S (upS (upS S 5 (S 20 3) a) 20 3 (S 20 3 + 1)) out f (S 20 3) z h2 z2 := by
  have hm := hV.2.1
  have hm2 := hm
  unfold Bm at hm2
  have f0 : ∀ (k : Nat) (i : Int), k < 27 → 0 ≤ i → A k i ≠ z.1 := hF.no (j := 0) (by decide)
  obtain ⟨w1, w2, w3, w4, w5, w6⟩ := hF
  have hl := live_ad (S2 := upS (upS S 5 (S 20 3) a) 20 3 (S 20 3 + 1)) hm (q := 2) (by decide) (by decide) rfl (fun j j0 j1 j2 => by
    rcases (show j = 0 ∨ j = 1 ∨ j = 3 by omega) with rfl | rfl | rfl <;> rfl)
  obtain ⟨h3, z3, e1, e2, e3⟩ := born_of (P2 := hset P z.1 (aO 5 [.int (iI a)])) (z1 := z.1 + 1) (K2 := K) (q := 2) (v := S 20 3) (S2 := upS (upS S 5 (S 20 3) a) 20 3 (S 20 3 + 1)) hA hV (CI_addG hV hC) (by decide) (by decide) (by show S 20 3 ≤ 15; omega) rfl w1 w3 ((hset_n (by omega)).trans w4) hO ho (fun x hx => hset_n (by omega)) ⟨by omega, fun h => absurd h (by decide), fun h => absurd h (by decide)⟩ ((hset_n (by omega)).trans (w6 _ (by omega))) (fun k i hn b => by
      obtain ⟨rfl, hn⟩ := hn
      have k4 : k = 4 := by
        have o2 : okind 2 = 4 := rfl
        rw [o2] at hn
        omega
      subst k4
      refine (hset_s (h := P) (a := z.1) (e := aO 5 [.int (iI a)])).trans ?_
      show _ = some (aO 5 [.int (iI (upS (upS S 5 (S 20 3) a) 20 3 (S 20 3 + 1) 5 (S 20 3)))])
      rw [upS_g (by decide), upS_s]) (fun B k i hl c1 c2 => by
      have l2 := hl.2.2.1
      unfold cell
      split
      all_goals first
        | rfl
        | skip
      · show aO 5 [.int (iI (upS (upS S 5 (S 20 3) a) 20 3 (S 20 3 + 1) 5 i))] = _
        have l3 : i < S 20 3 := l2
        rw [upS_g (by decide), upS_i (by omega)]
      · have l4 : i < 4 := l2
        have l0 := hl.2.1
        rcases (show i = 0 ∨ i = 1 ∨ i = 3 by omega) with rfl | rfl | rfl <;> rfl
      · have l4 : i < 4 := l2
        have l0 := hl.2.1
        rcases (show i = 0 ∨ i = 1 ∨ i = 3 by omega) with rfl | rfl | rfl <;> rfl) hl.1 hl.2
  refine ⟨_, _, ?_, e3⟩
  unfold f_L_addGroup f_X8_addGroup
  have ei := fun y zz => e_X2_init (P := P) (S := S) (K := K) (z := zz) hA (x := iI a) (y := y) f0
  simp -implicitDefEqProofs (disch := omega) only [↓reduceIte, ↓e_lets, ↓e_ite, ↓e_cal, e_cal2, e_cal3, e_thr, e_nthrow, e_rtn, e_r0, e_r1, e_dv, iI_add, iI_sub, iI_mul, iI_neg, iI_div, iI_rem, iI_lt, iI_le, iI_eq, b_eq0, b_eq1, Int.reduceAdd, Int.reduceMul, Int.reduceSub, Int.reduceNeg, Int.reduceDiv, Int.reduceMod, Nat.reduceAdd, Bool.false_eq_true, eq_self, ltT, ltF, leT, leF, eqT, eqF, true_and, and_true, false_and, and_false, and_self, or_true, true_or, or_false, false_or, ne_eq, not_true_eq_false, not_false_eq_true, if_true, if_false, ite_true, ite_false, ite_not, some_none, some_some, none_some, none_none, A_eq hA, li_0, li_1, li_2, li_3, li_4, li_5, li_6, li_7, li_8, li_9, li_10, li_11, li_12, li_13, li_14, li_15, li_16, li_17, li_18, li_19, li_20, li_21, li_22, li_23, li_24, li_25, li_26, li_27, li_28, li_29, li_30, li_31, li_32, li_63, li_64, li_99, li_100, li_128, li_240, li_256, li_512, li_960, li_1000, li_1022, li_1023, li_100000, li_m1, li_m1000, ↓r_v0 hA, ↓r_c0 hA, ↓r_0_0 hA, ↓r_0_1 hA, ↓r_0_2 hA, ↓r_0_3 hA, ↓r_0_4 hA, ↓r_0_5 hA, ↓r_0_6 hA, ↓r_0_7 hA, ↓r_0_8 hA, ↓r_0_9 hA, ↓r_v1 hA, ↓r_c1 hA, ↓r_1_0 hA, ↓r_1_1 hA, ↓r_1_2 hA, ↓r_1_3 hA, ↓r_1_4 hA, ↓r_v2 hA, ↓r_c2 hA, ↓r_2_0 hA, ↓r_2_1 hA, ↓r_2_2 hA, ↓r_v4 hA, ↓r_c4 hA, ↓r_4_0 hA, ↓r_v5 hA, ↓r_c5 hA, ↓r_5_0 hA, ↓r_5_1 hA, ↓r_5_2 hA, ↓r_5_3 hA, ↓r_5_4 hA, ↓r_5_5 hA, ↓r_5_6p hA, ↓r_5_6n hA, ↓r_5_7p hA, ↓r_5_7n hA, ↓r_5_8 hA, ↓r_5_9 hA, ↓r_5_10 hA, ↓r_5_11 hA, ↓r_5_12 hA, ↓r_5_13 hA, ↓r_5_14 hA, ↓r_5_15 hA, ↓r_5_16 hA, ↓r_5_17 hA, ↓r_v11 hA, ↓r_c11 hA, ↓r_11_0 hA, ↓r_11_1p hA, ↓r_11_2 hA, ↓r_v13 hA, ↓r_c13 hA, ↓r_13_0 hA, ↓r_13_1 hA, ↓r_13_2 hA, ↓r_13_3 hA, ↓r_13_4 hA, ↓r_13_5 hA, ↓r_v14 hA, ↓r_c14 hA, ↓r_14_0 hA, ↓r_v15 hA, ↓r_c15 hA, ↓r_15_0 hA, ↓r_15_1 hA, ↓r_v16 hA, ↓r_c16 hA, ↓r_16_0 hA, r_l3 hA, ↓r_l3 hA, ↓r_n3 hA, r_a3 hA, r_l10 hA, ↓r_l10 hA, ↓r_n10 hA, r_a10 hA, r_l20 hA, ↓r_l20 hA, ↓r_n20 hA, r_a20 hA, r_l6 hA, ↓r_l6 hA, ↓r_n6 hA, r_a6 hA, r_l7 hA, ↓r_l7 hA, ↓r_n7 hA, r_a7 hA, r_l8 hA, ↓r_l8 hA, ↓r_n8 hA, r_a8 hA, r_l9 hA, ↓r_l9 hA, ↓r_n9 hA, r_a9 hA, r_l18 hA, ↓r_l18 hA, ↓r_n18 hA, r_a18 hA, r_l19 hA, ↓r_l19 hA, ↓r_n19 hA, r_a19 hA, r_l21 hA, ↓r_l21 hA, ↓r_n21 hA, r_a21 hA, r_l22 hA, ↓r_l22 hA, ↓r_n22 hA, r_a22 hA, r_l23 hA, ↓r_l23 hA, ↓r_n23 hA, r_a23 hA, r_l24 hA, ↓r_l24 hA, ↓r_n24 hA, r_a24 hA, r_l25 hA, ↓r_l25 hA, ↓r_n25 hA, r_a25 hA, r_l17 hA, ↓r_l17 hA, ↓r_n17 hA, r_sz0 hA, r_gt0 hA, r_sz1 hA, r_gt1 hA, r_sz2 hA, r_gt2 hA, r_sz3 hA, r_gt3 hA, w_s6 hA, w_s7 hA, w_s8 hA, w_s9 hA, w_s18 hA, w_s19 hA, w_s21 hA, w_s22 hA, w_s23 hA, w_s24 hA, w_s25 hA, w_f11 hA, w_f12 hA, w_f13 hA, w_f16 hA, Nat.reduceEqDiff, ↓w_nw hA f0, ei, e1, x_stL (hs := (h3, z3, z.2)) e2, e_out0, e_out1]
theorem e_X5_init {A : AA} {P : Hp} {S : SS} {K : KK} {z : Nat × Nat} (hA : GA A) {o : Nat} {n x1 x2 x3 y0 y1 y2 y3 y4 : Int32} (ho : ∀ (k : Nat) (i : Int), k < 27 → 0 ≤ i → A k i ≠ o) : f_X5_init o n x1 x2 x3 (Hc A (hset P o (aO 8 [.int y0, .int y1, .int y2, .int y3, .int y4])) S K, z) = some (.ok (), (Hc A (hset P o (aO 8 [.int n, .int x1, .int x2, .int x3, .int (iI 1)])) S K, z)) := by
  unfold f_X5_init
  show pV (some o) 8 4 (.int (iI 1)) (pV (some o) 8 0 (.int n) (pV (some o) 8 1 (.int x1) (pV (some o) 8 2 (.int x2) (pV (some o) 8 3 (.int x3) (rtn ()))))) _ = _
  rw [w_P hA ho hset_s (by show 4 < 5; decide), hset2, w_P hA ho hset_s (by show 0 < 5; decide), hset2, w_P hA ho hset_s (by show 1 < 5; decide), hset2, w_P hA ho hset_s (by show 2 < 5; decide), hset2, w_P hA ho hset_s (by show 3 < 5; decide), hset2]
  rfl
theorem c_addRoom_0 {A : AA} {P : Hp} {S : SS} {K : KK} {z : Nat × Nat} (hA : GA A) (hV : VS S) (hC : CI S K) {out : Nat} {f : Nat → Int64} (hO : OutI A P out f) (ho : out < z.1) (hF : Fr A P S z) (h7 : S 7 (S 20 1) = 0) {a b c : Int} (ha : 0 ≤ a ∧ a ≤ 2) (hb : 0 ≤ b ∧ b ≤ 3) (hc : 1 ≤ c ∧ c ≤ 99) (h2 : S 20 1 < 8) : ∃ h2 z2, f_L_addRoom (some (A 0 0)) (iI a) (iI b) (iI c) (some out) (Hc A P S K, z) = some (.ok (iI 0), (h2, z2)) ∧ Born A P S (upS (upS (upS (upS S 0 (S 20 1) a) 1 (S 20 1) b) 2 (S 20 1) c) 20 1 (S 20 1 + 1)) out f (S 20 1) z h2 z2 := by
  have hm := hV.2.1
  have hm2 := hm
  unfold Bm at hm2
  have f0 : ∀ (k : Nat) (i : Int), k < 27 → 0 ≤ i → A k i ≠ z.1 := hF.no (j := 0) (by decide)
  obtain ⟨w1, w2, w3, w4, w5, w6⟩ := hF
  have hl := live_ad (S2 := (upS (upS (upS (upS S 0 (S 20 1) a) 1 (S 20 1) b) 2 (S 20 1) c) 20 1 (S 20 1 + 1))) hm (q := 1) (by decide) (by decide) rfl (fun j j0 j1 j2 => by
    rcases (show j = 0 ∨ j = 2 ∨ j = 3 by omega) with rfl | rfl | rfl <;> rfl)
  obtain ⟨h3, z3, e1, e2, e3⟩ := born_of (P2 := hset P z.1 (aO 8 [.int (iI (S 20 1)), .int (iI a), .int (iI b), .int (iI c), .int (iI 1)])) (z1 := z.1 + 1) (K2 := K) (q := 1) (v := S 20 1) (S2 := (upS (upS (upS (upS S 0 (S 20 1) a) 1 (S 20 1) b) 2 (S 20 1) c) 20 1 (S 20 1 + 1))) hA hV (fun p p0 p1 => by
      rw [hC p p0 p1]
      refine congrArg iI (amt_c (S := S) (S2 := (upS (upS (upS (upS S 0 (S 20 1) a) 1 (S 20 1) b) 2 (S 20 1) c) 20 1 (S 20 1 + 1))) ?_ ?_ ?_ ?_ ?_ ?_ ?_ rfl rfl p).symm <;> rw [upS_g (by decide), upS_g (by decide), upS_g (by decide), upS_g (by decide)]) (by decide) (by decide) (by show S 20 1 ≤ 15; omega) rfl w1 w3 ((hset_n (by omega)).trans w4) hO ho (fun x hx => hset_n (by omega)) ⟨by omega, fun h => absurd h (by decide), fun h => absurd h (by decide)⟩ ((hset_n (by omega)).trans (w6 _ (by omega))) (fun k i hn bb => by
      obtain ⟨rfl, hn⟩ := hn
      have k4 : k = 1 := by
        have o2 : okind 1 = 1 := rfl
        rw [o2] at hn
        omega
      subst k4
      refine (hset_s (h := P) (a := z.1) (e := (aO 8 [.int (iI (S 20 1)), .int (iI a), .int (iI b), .int (iI c), .int (iI 1)]))).trans ?_
      have x7 : (upS (upS (upS (upS S 0 (S 20 1) a) 1 (S 20 1) b) 2 (S 20 1) c) 20 1 (S 20 1 + 1)) 7 (S 20 1) = 0 := by
        rw [upS_g (by decide), upS_g (by decide), upS_g (by decide), upS_g (by decide), h7]
      have x0 : (upS (upS (upS (upS S 0 (S 20 1) a) 1 (S 20 1) b) 2 (S 20 1) c) 20 1 (S 20 1 + 1)) 0 (S 20 1) = a := by
        rw [upS_g (by decide), upS_g (by decide), upS_g (by decide), upS_s]
      have x1 : (upS (upS (upS (upS S 0 (S 20 1) a) 1 (S 20 1) b) 2 (S 20 1) c) 20 1 (S 20 1 + 1)) 1 (S 20 1) = b := by
        rw [upS_g (by decide), upS_g (by decide), upS_s]
      have x2 : (upS (upS (upS (upS S 0 (S 20 1) a) 1 (S 20 1) b) 2 (S 20 1) c) 20 1 (S 20 1 + 1)) 2 (S 20 1) = c := by
        rw [upS_g (by decide), upS_s]
      show _ = some (aO 8 [.int (iI (S 20 1)), .int (iI ((upS (upS (upS (upS S 0 (S 20 1) a) 1 (S 20 1) b) 2 (S 20 1) c) 20 1 (S 20 1 + 1)) 0 (S 20 1))), .int (iI ((upS (upS (upS (upS S 0 (S 20 1) a) 1 (S 20 1) b) 2 (S 20 1) c) 20 1 (S 20 1 + 1)) 1 (S 20 1))), .int (iI ((upS (upS (upS (upS S 0 (S 20 1) a) 1 (S 20 1) b) 2 (S 20 1) c) 20 1 (S 20 1 + 1)) 2 (S 20 1))), .int (iI (1 - (upS (upS (upS (upS S 0 (S 20 1) a) 1 (S 20 1) b) 2 (S 20 1) c) 20 1 (S 20 1 + 1)) 7 (S 20 1)))])
      rw [x7, x0, x1, x2]
      rfl) (fun B k i hl c1 c2 => by
      have l2 := hl.2.2.1
      unfold cell
      split
      all_goals first
        | rfl
        | skip
      · have l3 : i < S 20 1 := l2
        unfold cRoom
        have x7 : (upS (upS (upS (upS S 0 (S 20 1) a) 1 (S 20 1) b) 2 (S 20 1) c) 20 1 (S 20 1 + 1)) 7 i = S 7 i := by
          rw [upS_g (by decide), upS_g (by decide), upS_g (by decide), upS_g (by decide)]
        have x0 : (upS (upS (upS (upS S 0 (S 20 1) a) 1 (S 20 1) b) 2 (S 20 1) c) 20 1 (S 20 1 + 1)) 0 i = S 0 i := by
          rw [upS_g (by decide), upS_g (by decide), upS_g (by decide), upS_i (by omega)]
        have x1 : (upS (upS (upS (upS S 0 (S 20 1) a) 1 (S 20 1) b) 2 (S 20 1) c) 20 1 (S 20 1 + 1)) 1 i = S 1 i := by
          rw [upS_g (by decide), upS_g (by decide), upS_i (by omega), upS_g (by decide)]
        have x2 : (upS (upS (upS (upS S 0 (S 20 1) a) 1 (S 20 1) b) 2 (S 20 1) c) 20 1 (S 20 1 + 1)) 2 i = S 2 i := by
          rw [upS_g (by decide), upS_i (by omega), upS_g (by decide), upS_g (by decide)]
        rw [x7, x0, x1, x2]
      · have l4 : i < 4 := l2
        have l0 := hl.2.1
        rcases (show i = 0 ∨ i = 2 ∨ i = 3 by omega) with rfl | rfl | rfl <;> rfl
      · have l4 : i < 4 := l2
        have l0 := hl.2.1
        rcases (show i = 0 ∨ i = 2 ∨ i = 3 by omega) with rfl | rfl | rfl <;> rfl) hl.1 hl.2
  refine ⟨_, _, ?_, e3⟩
  unfold f_L_addRoom f_X8_addRoom
  have ei := fun y0 y1 y2 y3 y4 zz => e_X5_init (P := P) (S := S) (K := K) (z := zz) hA (n := iI (S 20 1)) (x1 := iI a) (x2 := iI b) (x3 := iI c) (y0 := y0) (y1 := y1) (y2 := y2) (y3 := y3) (y4 := y4) f0
  simp -implicitDefEqProofs (disch := omega) only [↓reduceIte, ↓e_lets, ↓e_ite, ↓e_cal, e_cal2, e_cal3, e_thr, e_nthrow, e_rtn, e_r0, e_r1, e_dv, iI_add, iI_sub, iI_mul, iI_neg, iI_div, iI_rem, iI_lt, iI_le, iI_eq, b_eq0, b_eq1, Int.reduceAdd, Int.reduceMul, Int.reduceSub, Int.reduceNeg, Int.reduceDiv, Int.reduceMod, Nat.reduceAdd, Bool.false_eq_true, eq_self, ltT, ltF, leT, leF, eqT, eqF, true_and, and_true, false_and, and_false, and_self, or_true, true_or, or_false, false_or, ne_eq, not_true_eq_false, not_false_eq_true, if_true, if_false, ite_true, ite_false, ite_not, some_none, some_some, none_some, none_none, A_eq hA, li_0, li_1, li_2, li_3, li_4, li_5, li_6, li_7, li_8, li_9, li_10, li_11, li_12, li_13, li_14, li_15, li_16, li_17, li_18, li_19, li_20, li_21, li_22, li_23, li_24, li_25, li_26, li_27, li_28, li_29, li_30, li_31, li_32, li_63, li_64, li_99, li_100, li_128, li_240, li_256, li_512, li_960, li_1000, li_1022, li_1023, li_100000, li_m1, li_m1000, ↓r_v0 hA, ↓r_c0 hA, ↓r_0_0 hA, ↓r_0_1 hA, ↓r_0_2 hA, ↓r_0_3 hA, ↓r_0_4 hA, ↓r_0_5 hA, ↓r_0_6 hA, ↓r_0_7 hA, ↓r_0_8 hA, ↓r_0_9 hA, ↓r_v1 hA, ↓r_c1 hA, ↓r_1_0 hA, ↓r_1_1 hA, ↓r_1_2 hA, ↓r_1_3 hA, ↓r_1_4 hA, ↓r_v2 hA, ↓r_c2 hA, ↓r_2_0 hA, ↓r_2_1 hA, ↓r_2_2 hA, ↓r_v4 hA, ↓r_c4 hA, ↓r_4_0 hA, ↓r_v5 hA, ↓r_c5 hA, ↓r_5_0 hA, ↓r_5_1 hA, ↓r_5_2 hA, ↓r_5_3 hA, ↓r_5_4 hA, ↓r_5_5 hA, ↓r_5_6p hA, ↓r_5_6n hA, ↓r_5_7p hA, ↓r_5_7n hA, ↓r_5_8 hA, ↓r_5_9 hA, ↓r_5_10 hA, ↓r_5_11 hA, ↓r_5_12 hA, ↓r_5_13 hA, ↓r_5_14 hA, ↓r_5_15 hA, ↓r_5_16 hA, ↓r_5_17 hA, ↓r_v11 hA, ↓r_c11 hA, ↓r_11_0 hA, ↓r_11_1p hA, ↓r_11_2 hA, ↓r_v13 hA, ↓r_c13 hA, ↓r_13_0 hA, ↓r_13_1 hA, ↓r_13_2 hA, ↓r_13_3 hA, ↓r_13_4 hA, ↓r_13_5 hA, ↓r_v14 hA, ↓r_c14 hA, ↓r_14_0 hA, ↓r_v15 hA, ↓r_c15 hA, ↓r_15_0 hA, ↓r_15_1 hA, ↓r_v16 hA, ↓r_c16 hA, ↓r_16_0 hA, r_l3 hA, ↓r_l3 hA, ↓r_n3 hA, r_a3 hA, r_l10 hA, ↓r_l10 hA, ↓r_n10 hA, r_a10 hA, r_l20 hA, ↓r_l20 hA, ↓r_n20 hA, r_a20 hA, r_l6 hA, ↓r_l6 hA, ↓r_n6 hA, r_a6 hA, r_l7 hA, ↓r_l7 hA, ↓r_n7 hA, r_a7 hA, r_l8 hA, ↓r_l8 hA, ↓r_n8 hA, r_a8 hA, r_l9 hA, ↓r_l9 hA, ↓r_n9 hA, r_a9 hA, r_l18 hA, ↓r_l18 hA, ↓r_n18 hA, r_a18 hA, r_l19 hA, ↓r_l19 hA, ↓r_n19 hA, r_a19 hA, r_l21 hA, ↓r_l21 hA, ↓r_n21 hA, r_a21 hA, r_l22 hA, ↓r_l22 hA, ↓r_n22 hA, r_a22 hA, r_l23 hA, ↓r_l23 hA, ↓r_n23 hA, r_a23 hA, r_l24 hA, ↓r_l24 hA, ↓r_n24 hA, r_a24 hA, r_l25 hA, ↓r_l25 hA, ↓r_n25 hA, r_a25 hA, r_l17 hA, ↓r_l17 hA, ↓r_n17 hA, r_sz0 hA, r_gt0 hA, r_sz1 hA, r_gt1 hA, r_sz2 hA, r_gt2 hA, r_sz3 hA, r_gt3 hA, w_s6 hA, w_s7 hA, w_s8 hA, w_s9 hA, w_s18 hA, w_s19 hA, w_s21 hA, w_s22 hA, w_s23 hA, w_s24 hA, w_s25 hA, w_f11 hA, w_f12 hA, w_f13 hA, w_f16 hA, Nat.reduceEqDiff, ↓w_nw hA f0, ei, e1, x_stL (hs := (h3, z3, z.2)) e2, e_out0, e_out1]
