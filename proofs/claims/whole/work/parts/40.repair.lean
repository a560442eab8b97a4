/-! PURE LAYER: repairs (class) -/
theorem psN_has {S : SS} {K : KK} {l r : Int} {s : Nat} (hs : s < 30) : ∀ n, bHas (psN S K l r n) (iI (s : Int)) = true ↔ ∀ b : Nat, b < n → bHas (baK S K l r b) (iI (s : Int)) = false := by
  intro n
  induction n with
  | zero =>
    have h : ∀ s : Fin 30, bHas (1073741823 : Int32) (iI (s.val : Int)) = true := by decide +kernel
    exact ⟨fun _ b hb => absurd hb (by omega), fun _ => h ⟨s, hs⟩⟩
  | succ n ih =>
    unfold psN
    rw [bHas_and _ _ (by omega), Bool.and_eq_true, ih, m1_i, bHas_not _ (by omega)]
    constructor
    · rintro ⟨h1, h2⟩ b hb
      by_cases c : b = n
      · subst c; simpa using h2
      · exact h1 b (by omega)
    · intro h
      exact ⟨fun b hb => h b (by omega), by simpa using h n (by omega)⟩
theorem psM_has {S : SS} {l r : Int} {s : Nat} (hs : s < 30) : bHas (psM S l r) (iI (s : Int)) = true ↔ ∀ b : Nat, b < 10 → bHas (baM S l r b) (iI (s : Int)) = false := psN_has hs 10
theorem baM_0 {S : SS} {l r : Int} {s : Nat} (hs : s < 30) (h1 : 1 ≤ S 12 l) (h3 : S 12 l ≤ 3) : bHas (baM S l r 0) (iI (s : Int)) = decide (6 < (s : Int) % 6 + S 12 l) := by
  show bHas (tlM (S 12 l)) _ = _
  unfold tlM
  have h := tl_has ⟨(S 12 l - 1).toNat, by omega⟩ ⟨s, hs⟩
  simp only at h
  rw [h]
  apply decide_eq_decide.mpr
  omega
theorem fRx_b (S : SS) (l x s : Int) : -1 ≤ fRx S l x s ∧ fRx S l x s < 8 := fstN_b _ 8
theorem fRx_p {S : SS} {l x s : Int} (h : 0 ≤ fRx S l x s) : fRx S l x s < S 20 1 ∧ bHas (psM S l (fRx S l x s)) (iI s) = true ∧ 8 * s + fRx S l x s ≠ x := by
  have h1 := fstN_p (fun r => decide ((r : Int) < S 20 1) && bHas (psM S l r) (iI s) && !decide (8 * s + (r : Int) = x)) 8 h
  have h2 : (((fRx S l x s).toNat : Nat) : Int) = fRx S l x s := by omega
  change (decide (((fRx S l x s).toNat : Int) < S 20 1) && bHas (psM S l ((fRx S l x s).toNat : Int)) (iI s) && !decide (8 * s + ((fRx S l x s).toNat : Int) = x)) = true at h1
  rw [h2] at h1
  simp only [Bool.and_eq_true, decide_eq_true_eq, Bool.not_eq_true', decide_eq_false_iff_not] at h1
  exact ⟨h1.1.1, h1.1.2, h1.2⟩
/-- a cheapest place, where there is one, is possible -/
theorem chP_p {S : SS} (hV : VS S) {l x : Int} (l0 : 0 ≤ l) (l1 : l < S 20 4) : chP S l x = -1 ∨ (0 ≤ chP S l x ∧ chP S l x < 240 ∧ chP S l x % 8 < S 20 1 ∧ chP S l x / 8 % 6 + S 12 l ≤ 6 ∧ chP S l x ≠ x ∧ bHas (psM S l (chP S l x % 8)) (iI (chP S l x / 8)) = true) := by
  have hab := amin_b (fun s : Nat => decide (0 ≤ fRx S l x s)) (fun s => adC S l s) 30
  have hao := amin_ok (fun s : Nat => decide (0 ≤ fRx S l x s)) (fun s => adC S l s) 30
  unfold chP cheP
  generalize amin (fun s : Nat => decide (0 ≤ fRx S l x s)) (fun s => adC S l s) 30 = a at *
  by_cases c : a < 0
  · exact Or.inl (if_pos c)
  · rw [if_neg c]
    dsimp only
    have h1 := hao (by omega)
    have h1 : 0 ≤ fRx S l x (a.toNat : Int) := by simpa using h1
    have h2 : ((a.toNat : Nat) : Int) = a := by omega
    rw [h2] at h1 ⊢
    have h3 := fRx_p h1
    have h4 := fRx_b S l x a
    have hl := hV.2.2 l l0 l1
    have e1 : (8 * a + fRx S l x a) % 8 = fRx S l x a := by omega
    have e2 : (8 * a + fRx S l x a) / 8 = a := by omega
    refine Or.inr ⟨by omega, by omega, by omega, ?_, h3.2.2, by rw [e1, e2]; exact h3.2.1⟩
    rw [e2]
    have h5 := h3.2.1
    rw [← h2, psM_has (by omega)] at h5
    have h6 := h5 0 (by decide)
    rw [show ((0 : Nat) : Int) = 0 from rfl, baM_0 (by omega) (by omega) (by omega)] at h6
    have h7 := of_decide_eq_false h6
    omega
theorem VS_ch {S : SS} (hV : VS S) {l x : Int} (l0 : 0 ≤ l) (l1 : l < S 20 4) : VS (upS S 14 l (chP S l x)) := by
  rcases chP_p hV (x := x) l0 l1 with h | h
  · rw [h]; exact VS_pl hV (by decide) (by decide) (fun h => absurd h (by decide))
  · exact VS_pl hV (by omega) (by omega) (fun _ => ⟨h.2.2.1, h.2.2.2.1⟩)
def haQ (S : SS) (q : Nat → Bool) : Int := amin q (fun k => cpS S k) (S 20 4).toNat
theorem haS_Q (S : SS) (x : Int32) : haS S x (S 20 4).toNat = haQ S (fun k => bHas x (iI (k : Int))) := rfl
theorem haQ_b (S : SS) (q : Nat → Bool) (hm : Bm S) : -1 ≤ haQ S q ∧ haQ S q < S 20 4 := by
  have h := amin_b q (fun k => cpS S k) (S 20 4).toNat
  unfold Bm at hm
  unfold haQ
  omega
theorem haQ_p {S : SS} {q : Nat → Bool} (h : 0 ≤ haQ S q) : q (haQ S q).toNat = true := amin_ok q _ _ h
theorem haQ_c {S : SS} {q q2 : Nat → Bool} (h : ∀ k, k < (S 20 4).toNat → q k = q2 k) : haQ S q = haQ S q2 := amin_c _ h (fun _ _ _ => rfl)
/-- the repair of the lessons that are not tried -/
def reS : Nat → SS → (Nat → Bool) → SS
  | 0, S, _ => S
  | f + 1, S, q => if haQ S q < 0 then S else reS f (upS S 14 (haQ S q) (chP S (haQ S q) (-2))) (fun k => q k && !decide ((k : Int) = haQ S q))
theorem reS_20 : ∀ f S q, reS f S q 20 = S 20 := by
  intro f
  induction f with
  | zero => intro S q; rfl
  | succ f ih =>
    intro S q
    unfold reS
    split
    · rfl
    · rw [ih, upS_g (by decide)]
theorem reS_c : ∀ f S (q q2 : Nat → Bool), (∀ k, k < (S 20 4).toNat → q k = q2 k) → reS f S q = reS f S q2 := by
  intro f
  induction f with
  | zero => intro S q q2 _; rfl
  | succ f ih =>
    intro S q q2 h
    unfold reS
    rw [haQ_c h]
    split
    · rfl
    · refine ih _ _ _ (fun k hk => ?_)
      rw [upS_g (by decide)] at hk
      rw [h k hk]
theorem VS_re : ∀ f S q, VS S → VS (reS f S q) := by
  intro f
  induction f with
  | zero => intro S q h; exact h
  | succ f ih =>
    intro S q h
    unfold reS
    have hb := haQ_b S q h.2.1
    split
    · exact h
    · exact ih _ _ (VS_ch h (by omega) (by omega))
def cntN (p : Nat → Bool) (n : Nat) : Int := sumN (fun k => if p k = true then 1 else 0) n
theorem sumN_0 {f : Nat → Int} {n : Nat} : ∀ m, (∀ k, n ≤ k → k < n + m → f k = 0) → sumN f (n + m) = sumN f n := by
  intro m
  induction m with
  | zero => intro _; rfl
  | succ m ih =>
    intro h
    show sumN f (n + m) + f (n + m) = _
    rw [ih (fun k h1 h2 => h k h1 (by omega)), h (n + m) (by omega) (by omega)]
    omega
theorem bcN_cnt {x : Int32} {p : Nat → Bool} {n : Nat} (hn : n ≤ 32) (h : ∀ s : Nat, s < 32 → bHas x (iI (s : Int)) = (decide (s < n) && p s)) : bcN x = cntN p n := by
  unfold bcN cntN
  obtain ⟨m, hm⟩ : ∃ m, 32 = n + m := ⟨32 - n, by omega⟩
  rw [hm, sumN_0 m (fun k h1 h2 => by rw [h k (by omega), show decide (k < n) = false by simp; omega]; rfl)]
  refine sumN_c n (fun k hk => ?_)
  rw [h k (by omega), show decide (k < n) = true by simp; omega, Bool.true_and]
theorem e_unplaced {A : AA} {P : Hp} {S : SS} {K : KK} {z : Nat × Nat} (hA : GA A) (hb : Bn S) (hm : Bm S) (hv : Vl S)  : f_X6_unplaced (A 13 0) (Hc A P S K, z) = some (.ok (setM (fun k => decide (S 14 k < 0)) (S 20 4).toNat), (Hc A P S K, z)) := by
  have hm2 := hm
  unfold Bm at hm2
  unfold f_X6_unplaced
  rw [e_lets, e_lets, li_0]
  have h9 : (((S 20 4).toNat : Nat) : Int) = S 20 4 := by omega
  refine loopD (fun f (t : Int32 × Int32) => L_X6_unplaced_4 (some (A 13 0)) (fun v => rtn v) f t.1 t.2 (Hc A P S K, z)) (fun m => (setM (fun k => decide (S 14 k < 0)) m, iI (m : Int))) (S 20 4).toNat _ (fun k f hk => ?_) (fun f => ?_) 100000 (by omega)
  · show L_X6_unplaced_4 _ _ (f + 1) (setM (fun k => decide (S 14 k < 0)) k) (iI (k : Int)) (Hc A P S K, z) = L_X6_unplaced_4 _ _ f (setM (fun k => decide (S 14 k < 0)) k ||| (if decide (S 14 (k : Int) < 0) = true then iI 1 <<< (iI (k : Int) &&& iI 31) else iI 0)) (iI ((k + 1 : Nat) : Int)) (Hc A P S K, z)
    rw [u_L_X6_unplaced_4, nat1]
    have k1 : (k : Int) < S 20 4 := by omega
    by_cases c : S 14 (k : Int) < 0
    · rw [if_pos (decide_eq_true c)]
      simp (disch := omega) only [↓reduceIte, ↓e_lets, ↓e_ite, ↓e_cal, e_cal2, e_cal3, e_thr, e_nthrow, e_rtn, e_r0, e_r1, e_dv, iI_add, iI_sub, iI_mul, iI_neg, iI_div, iI_rem, iI_lt, iI_le, iI_eq, b_eq0, b_eq1, Int.reduceAdd, Int.reduceMul, Int.reduceSub, Int.reduceNeg, Int.reduceDiv, Int.reduceMod, Nat.reduceAdd, Bool.false_eq_true, eq_self, ltT, ltF, leT, leF, eqT, eqF, true_and, and_true, false_and, and_false, and_self, or_true, true_or, or_false, false_or, ne_eq, not_true_eq_false, not_false_eq_true, if_true, if_false, ite_true, ite_false, ite_not, some_none, some_some, none_some, none_none, A_eq hA, li_0, li_1, li_2, li_3, li_4, li_5, li_6, li_7, li_8, li_9, li_10, li_11, li_12, li_13, li_14, li_15, li_16, li_17, li_18, li_19, li_20, li_21, li_22, li_23, li_24, li_25, li_26, li_27, li_28, li_29, li_30, li_31, li_32, li_63, li_64, li_99, li_100, li_128, li_240, li_256, li_512, li_960, li_1000, li_1022, li_1023, li_100000, li_m1, li_m1000, ↓r_v0 hA, ↓r_c0 hA, ↓r_0_0 hA, ↓r_0_1 hA, ↓r_0_2 hA, ↓r_0_3 hA, ↓r_0_4 hA, ↓r_0_5 hA, ↓r_0_6 hA, ↓r_0_7 hA, ↓r_0_8 hA, ↓r_0_9 hA, ↓r_v1 hA, ↓r_c1 hA, ↓r_1_0 hA, ↓r_1_1 hA, ↓r_1_2 hA, ↓r_1_3 hA, ↓r_1_4 hA, ↓r_v2 hA, ↓r_c2 hA, ↓r_2_0 hA, ↓r_2_1 hA, ↓r_2_2 hA, ↓r_v4 hA, ↓r_c4 hA, ↓r_4_0 hA, ↓r_v5 hA, ↓r_c5 hA, ↓r_5_0 hA, ↓r_5_1 hA, ↓r_5_2 hA, ↓r_5_3 hA, ↓r_5_4 hA, ↓r_5_5 hA, ↓r_5_6p hA, ↓r_5_6n hA, ↓r_5_7p hA, ↓r_5_7n hA, ↓r_5_8 hA, ↓r_5_9 hA, ↓r_5_10 hA, ↓r_5_11 hA, ↓r_5_12 hA, ↓r_5_13 hA, ↓r_5_14 hA, ↓r_5_15 hA, ↓r_5_16 hA, ↓r_5_17 hA, ↓r_v11 hA, ↓r_c11 hA, ↓r_11_0 hA, ↓r_11_1p hA, ↓r_11_2 hA, ↓r_v13 hA, ↓r_c13 hA, ↓r_13_0 hA, ↓r_13_1 hA, ↓r_13_2 hA, ↓r_13_3 hA, ↓r_13_4 hA, ↓r_13_5 hA, ↓r_v14 hA, ↓r_c14 hA, ↓r_14_0 hA, ↓r_v15 hA, ↓r_c15 hA, ↓r_15_0 hA, ↓r_15_1 hA, ↓r_v16 hA, ↓r_c16 hA, ↓r_16_0 hA, r_l3 hA, ↓r_l3 hA, ↓r_n3 hA, r_a3 hA, r_l10 hA, ↓r_l10 hA, ↓r_n10 hA, r_a10 hA, r_l20 hA, ↓r_l20 hA, ↓r_n20 hA, r_a20 hA, r_l6 hA, ↓r_l6 hA, ↓r_n6 hA, r_a6 hA, r_l7 hA, ↓r_l7 hA, ↓r_n7 hA, r_a7 hA, r_l8 hA, ↓r_l8 hA, ↓r_n8 hA, r_a8 hA, r_l9 hA, ↓r_l9 hA, ↓r_n9 hA, r_a9 hA, r_l18 hA, ↓r_l18 hA, ↓r_n18 hA, r_a18 hA, r_l19 hA, ↓r_l19 hA, ↓r_n19 hA, r_a19 hA, r_l21 hA, ↓r_l21 hA, ↓r_n21 hA, r_a21 hA, r_l22 hA, ↓r_l22 hA, ↓r_n22 hA, r_a22 hA, r_l23 hA, ↓r_l23 hA, ↓r_n23 hA, r_a23 hA, r_l24 hA, ↓r_l24 hA, ↓r_n24 hA, r_a24 hA, r_l25 hA, ↓r_l25 hA, ↓r_n25 hA, r_a25 hA, r_l17 hA, ↓r_l17 hA, ↓r_n17 hA, r_sz0 hA, r_gt0 hA, r_sz1 hA, r_gt1 hA, r_sz2 hA, r_gt2 hA, r_sz3 hA, r_gt3 hA, w_s6 hA, w_s7 hA, w_s8 hA, w_s9 hA, w_s18 hA, w_s19 hA, w_s21 hA, w_s22 hA, w_s23 hA, w_s24 hA, w_s25 hA, w_f11 hA, w_f12 hA, w_f13 hA, w_f16 hA, ↓u_j_X6_unplaced_40]
    · rw [if_neg (by simp; omega)]
      simp (disch := omega) only [↓reduceIte, ↓e_lets, ↓e_ite, ↓e_cal, e_cal2, e_cal3, e_thr, e_nthrow, e_rtn, e_r0, e_r1, e_dv, iI_add, iI_sub, iI_mul, iI_neg, iI_div, iI_rem, iI_lt, iI_le, iI_eq, b_eq0, b_eq1, Int.reduceAdd, Int.reduceMul, Int.reduceSub, Int.reduceNeg, Int.reduceDiv, Int.reduceMod, Nat.reduceAdd, Bool.false_eq_true, eq_self, ltT, ltF, leT, leF, eqT, eqF, true_and, and_true, false_and, and_false, and_self, or_true, true_or, or_false, false_or, ne_eq, not_true_eq_false, not_false_eq_true, if_true, if_false, ite_true, ite_false, ite_not, some_none, some_some, none_some, none_none, A_eq hA, li_0, li_1, li_2, li_3, li_4, li_5, li_6, li_7, li_8, li_9, li_10, li_11, li_12, li_13, li_14, li_15, li_16, li_17, li_18, li_19, li_20, li_21, li_22, li_23, li_24, li_25, li_26, li_27, li_28, li_29, li_30, li_31, li_32, li_63, li_64, li_99, li_100, li_128, li_240, li_256, li_512, li_960, li_1000, li_1022, li_1023, li_100000, li_m1, li_m1000, ↓r_v0 hA, ↓r_c0 hA, ↓r_0_0 hA, ↓r_0_1 hA, ↓r_0_2 hA, ↓r_0_3 hA, ↓r_0_4 hA, ↓r_0_5 hA, ↓r_0_6 hA, ↓r_0_7 hA, ↓r_0_8 hA, ↓r_0_9 hA, ↓r_v1 hA, ↓r_c1 hA, ↓r_1_0 hA, ↓r_1_1 hA, ↓r_1_2 hA, ↓r_1_3 hA, ↓r_1_4 hA, ↓r_v2 hA, ↓r_c2 hA, ↓r_2_0 hA, ↓r_2_1 hA, ↓r_2_2 hA, ↓r_v4 hA, ↓r_c4 hA, ↓r_4_0 hA, ↓r_v5 hA, ↓r_c5 hA, ↓r_5_0 hA, ↓r_5_1 hA, ↓r_5_2 hA, ↓r_5_3 hA, ↓r_5_4 hA, ↓r_5_5 hA, ↓r_5_6p hA, ↓r_5_6n hA, ↓r_5_7p hA, ↓r_5_7n hA, ↓r_5_8 hA, ↓r_5_9 hA, ↓r_5_10 hA, ↓r_5_11 hA, ↓r_5_12 hA, ↓r_5_13 hA, ↓r_5_14 hA, ↓r_5_15 hA, ↓r_5_16 hA, ↓r_5_17 hA, ↓r_v11 hA, ↓r_c11 hA, ↓r_11_0 hA, ↓r_11_1p hA, ↓r_11_2 hA, ↓r_v13 hA, ↓r_c13 hA, ↓r_13_0 hA, ↓r_13_1 hA, ↓r_13_2 hA, ↓r_13_3 hA, ↓r_13_4 hA, ↓r_13_5 hA, ↓r_v14 hA, ↓r_c14 hA, ↓r_14_0 hA, ↓r_v15 hA, ↓r_c15 hA, ↓r_15_0 hA, ↓r_15_1 hA, ↓r_v16 hA, ↓r_c16 hA, ↓r_16_0 hA, r_l3 hA, ↓r_l3 hA, ↓r_n3 hA, r_a3 hA, r_l10 hA, ↓r_l10 hA, ↓r_n10 hA, r_a10 hA, r_l20 hA, ↓r_l20 hA, ↓r_n20 hA, r_a20 hA, r_l6 hA, ↓r_l6 hA, ↓r_n6 hA, r_a6 hA, r_l7 hA, ↓r_l7 hA, ↓r_n7 hA, r_a7 hA, r_l8 hA, ↓r_l8 hA, ↓r_n8 hA, r_a8 hA, r_l9 hA, ↓r_l9 hA, ↓r_n9 hA, r_a9 hA, r_l18 hA, ↓r_l18 hA, ↓r_n18 hA, r_a18 hA, r_l19 hA, ↓r_l19 hA, ↓r_n19 hA, r_a19 hA, r_l21 hA, ↓r_l21 hA, ↓r_n21 hA, r_a21 hA, r_l22 hA, ↓r_l22 hA, ↓r_n22 hA, r_a22 hA, r_l23 hA, ↓r_l23 hA, ↓r_n23 hA, r_a23 hA, r_l24 hA, ↓r_l24 hA, ↓r_n24 hA, r_a24 hA, r_l25 hA, ↓r_l25 hA, ↓r_n25 hA, r_a25 hA, r_l17 hA, ↓r_l17 hA, ↓r_n17 hA, r_sz0 hA, r_gt0 hA, r_sz1 hA, r_gt1 hA, r_sz2 hA, r_gt2 hA, r_sz3 hA, r_gt3 hA, w_s6 hA, w_s7 hA, w_s8 hA, w_s9 hA, w_s18 hA, w_s19 hA, w_s21 hA, w_s22 hA, w_s23 hA, w_s24 hA, w_s25 hA, w_f11 hA, w_f12 hA, w_f13 hA, w_f16 hA, ↓u_j_X6_unplaced_40]
  · show L_X6_unplaced_4 _ _ (f + 1) _ (iI (((S 20 4).toNat : Nat) : Int)) (Hc A P S K, z) = _
    rw [u_L_X6_unplaced_4, h9]
    simp (disch := omega) only [↓reduceIte, ↓e_lets, ↓e_ite, ↓e_cal, e_cal2, e_cal3, e_thr, e_nthrow, e_rtn, e_r0, e_r1, e_dv, iI_add, iI_sub, iI_mul, iI_neg, iI_div, iI_rem, iI_lt, iI_le, iI_eq, b_eq0, b_eq1, Int.reduceAdd, Int.reduceMul, Int.reduceSub, Int.reduceNeg, Int.reduceDiv, Int.reduceMod, Nat.reduceAdd, Bool.false_eq_true, eq_self, ltT, ltF, leT, leF, eqT, eqF, true_and, and_true, false_and, and_false, and_self, or_true, true_or, or_false, false_or, ne_eq, not_true_eq_false, not_false_eq_true, if_true, if_false, ite_true, ite_false, ite_not, some_none, some_some, none_some, none_none, A_eq hA, li_0, li_1, li_2, li_3, li_4, li_5, li_6, li_7, li_8, li_9, li_10, li_11, li_12, li_13, li_14, li_15, li_16, li_17, li_18, li_19, li_20, li_21, li_22, li_23, li_24, li_25, li_26, li_27, li_28, li_29, li_30, li_31, li_32, li_63, li_64, li_99, li_100, li_128, li_240, li_256, li_512, li_960, li_1000, li_1022, li_1023, li_100000, li_m1, li_m1000, ↓r_v0 hA, ↓r_c0 hA, ↓r_0_0 hA, ↓r_0_1 hA, ↓r_0_2 hA, ↓r_0_3 hA, ↓r_0_4 hA, ↓r_0_5 hA, ↓r_0_6 hA, ↓r_0_7 hA, ↓r_0_8 hA, ↓r_0_9 hA, ↓r_v1 hA, ↓r_c1 hA, ↓r_1_0 hA, ↓r_1_1 hA, ↓r_1_2 hA, ↓r_1_3 hA, ↓r_1_4 hA, ↓r_v2 hA, ↓r_c2 hA, ↓r_2_0 hA, ↓r_2_1 hA, ↓r_2_2 hA, ↓r_v4 hA, ↓r_c4 hA, ↓r_4_0 hA, ↓r_v5 hA, ↓r_c5 hA, ↓r_5_0 hA, ↓r_5_1 hA, ↓r_5_2 hA, ↓r_5_3 hA, ↓r_5_4 hA, ↓r_5_5 hA, ↓r_5_6p hA, ↓r_5_6n hA, ↓r_5_7p hA, ↓r_5_7n hA, ↓r_5_8 hA, ↓r_5_9 hA, ↓r_5_10 hA, ↓r_5_11 hA, ↓r_5_12 hA, ↓r_5_13 hA, ↓r_5_14 hA, ↓r_5_15 hA, ↓r_5_16 hA, ↓r_5_17 hA, ↓r_v11 hA, ↓r_c11 hA, ↓r_11_0 hA, ↓r_11_1p hA, ↓r_11_2 hA, ↓r_v13 hA, ↓r_c13 hA, ↓r_13_0 hA, ↓r_13_1 hA, ↓r_13_2 hA, ↓r_13_3 hA, ↓r_13_4 hA, ↓r_13_5 hA, ↓r_v14 hA, ↓r_c14 hA, ↓r_14_0 hA, ↓r_v15 hA, ↓r_c15 hA, ↓r_15_0 hA, ↓r_15_1 hA, ↓r_v16 hA, ↓r_c16 hA, ↓r_16_0 hA, r_l3 hA, ↓r_l3 hA, ↓r_n3 hA, r_a3 hA, r_l10 hA, ↓r_l10 hA, ↓r_n10 hA, r_a10 hA, r_l20 hA, ↓r_l20 hA, ↓r_n20 hA, r_a20 hA, r_l6 hA, ↓r_l6 hA, ↓r_n6 hA, r_a6 hA, r_l7 hA, ↓r_l7 hA, ↓r_n7 hA, r_a7 hA, r_l8 hA, ↓r_l8 hA, ↓r_n8 hA, r_a8 hA, r_l9 hA, ↓r_l9 hA, ↓r_n9 hA, r_a9 hA, r_l18 hA, ↓r_l18 hA, ↓r_n18 hA, r_a18 hA, r_l19 hA, ↓r_l19 hA, ↓r_n19 hA, r_a19 hA, r_l21 hA, ↓r_l21 hA, ↓r_n21 hA, r_a21 hA, r_l22 hA, ↓r_l22 hA, ↓r_n22 hA, r_a22 hA, r_l23 hA, ↓r_l23 hA, ↓r_n23 hA, r_a23 hA, r_l24 hA, ↓r_l24 hA, ↓r_n24 hA, r_a24 hA, r_l25 hA, ↓r_l25 hA, ↓r_n25 hA, r_a25 hA, r_l17 hA, ↓r_l17 hA, ↓r_n17 hA, r_sz0 hA, r_gt0 hA, r_sz1 hA, r_gt1 hA, r_sz2 hA, r_gt2 hA, r_sz3 hA, r_gt3 hA, w_s6 hA, w_s7 hA, w_s8 hA, w_s9 hA, w_s18 hA, w_s19 hA, w_s21 hA, w_s22 hA, w_s23 hA, w_s24 hA, w_s25 hA, w_f11 hA, w_f12 hA, w_f13 hA, w_f16 hA]
theorem e_L_repair {A : AA} {P : Hp} {z : Nat × Nat} (hA : GA A) (x : Int32) (Kc : OO Int32) (c4 : Int) : ∀ (f : Nat) (t : Int) (u : Int32) (S : SS) (K : KK) (fuel : Nat), S 20 4 = c4 → 0 ≤ t → t + f = 16 → f < fuel → VS S → CI S K → (∀ k : Nat, (k : Int) < c4 → bHas u (iI (k : Int)) = true → S 14 k = -1) → ∃ K2, L_X6_repair_9 (some (A 13 0)) x Kc Kc fuel u (iI t) (Hc A P S K, z) = Kc (Hc A P (reS f S (fun k => bHas u (iI (k : Int)))) K2, z) ∧ KX K K2 ∧ CI (reS f S (fun k => bHas u (iI (k : Int)))) K2 := by
  intro f
  induction f with
  | zero =>
    intro t u S K fuel h4 t0 t1 hf hV hC hq
    obtain ⟨g, rfl⟩ : ∃ g, fuel = g + 1 := ⟨fuel - 1, by omega⟩
    refine ⟨K, ?_, KX.rfl, hC⟩
    rw [u_L_X6_repair_9]
    simp (disch := omega) only [↓reduceIte, ↓e_lets, ↓e_ite, ↓e_cal, e_cal2, e_cal3, e_thr, e_nthrow, e_rtn, e_r0, e_r1, e_dv, iI_add, iI_sub, iI_mul, iI_neg, iI_div, iI_rem, iI_lt, iI_le, iI_eq, b_eq0, b_eq1, Int.reduceAdd, Int.reduceMul, Int.reduceSub, Int.reduceNeg, Int.reduceDiv, Int.reduceMod, Nat.reduceAdd, Bool.false_eq_true, eq_self, ltT, ltF, leT, leF, eqT, eqF, true_and, and_true, false_and, and_false, and_self, or_true, true_or, or_false, false_or, ne_eq, not_true_eq_false, not_false_eq_true, if_true, if_false, ite_true, ite_false, ite_not, some_none, some_some, none_some, none_none, A_eq hA, li_0, li_1, li_2, li_3, li_4, li_5, li_6, li_7, li_8, li_9, li_10, li_11, li_12, li_13, li_14, li_15, li_16, li_17, li_18, li_19, li_20, li_21, li_22, li_23, li_24, li_25, li_26, li_27, li_28, li_29, li_30, li_31, li_32, li_63, li_64, li_99, li_100, li_128, li_240, li_256, li_512, li_960, li_1000, li_1022, li_1023, li_100000, li_m1, li_m1000, ↓r_v0 hA, ↓r_c0 hA, ↓r_0_0 hA, ↓r_0_1 hA, ↓r_0_2 hA, ↓r_0_3 hA, ↓r_0_4 hA, ↓r_0_5 hA, ↓r_0_6 hA, ↓r_0_7 hA, ↓r_0_8 hA, ↓r_0_9 hA, ↓r_v1 hA, ↓r_c1 hA, ↓r_1_0 hA, ↓r_1_1 hA, ↓r_1_2 hA, ↓r_1_3 hA, ↓r_1_4 hA, ↓r_v2 hA, ↓r_c2 hA, ↓r_2_0 hA, ↓r_2_1 hA, ↓r_2_2 hA, ↓r_v4 hA, ↓r_c4 hA, ↓r_4_0 hA, ↓r_v5 hA, ↓r_c5 hA, ↓r_5_0 hA, ↓r_5_1 hA, ↓r_5_2 hA, ↓r_5_3 hA, ↓r_5_4 hA, ↓r_5_5 hA, ↓r_5_6p hA, ↓r_5_6n hA, ↓r_5_7p hA, ↓r_5_7n hA, ↓r_5_8 hA, ↓r_5_9 hA, ↓r_5_10 hA, ↓r_5_11 hA, ↓r_5_12 hA, ↓r_5_13 hA, ↓r_5_14 hA, ↓r_5_15 hA, ↓r_5_16 hA, ↓r_5_17 hA, ↓r_v11 hA, ↓r_c11 hA, ↓r_11_0 hA, ↓r_11_1p hA, ↓r_11_2 hA, ↓r_v13 hA, ↓r_c13 hA, ↓r_13_0 hA, ↓r_13_1 hA, ↓r_13_2 hA, ↓r_13_3 hA, ↓r_13_4 hA, ↓r_13_5 hA, ↓r_v14 hA, ↓r_c14 hA, ↓r_14_0 hA, ↓r_v15 hA, ↓r_c15 hA, ↓r_15_0 hA, ↓r_15_1 hA, ↓r_v16 hA, ↓r_c16 hA, ↓r_16_0 hA, r_l3 hA, ↓r_l3 hA, ↓r_n3 hA, r_a3 hA, r_l10 hA, ↓r_l10 hA, ↓r_n10 hA, r_a10 hA, r_l20 hA, ↓r_l20 hA, ↓r_n20 hA, r_a20 hA, r_l6 hA, ↓r_l6 hA, ↓r_n6 hA, r_a6 hA, r_l7 hA, ↓r_l7 hA, ↓r_n7 hA, r_a7 hA, r_l8 hA, ↓r_l8 hA, ↓r_n8 hA, r_a8 hA, r_l9 hA, ↓r_l9 hA, ↓r_n9 hA, r_a9 hA, r_l18 hA, ↓r_l18 hA, ↓r_n18 hA, r_a18 hA, r_l19 hA, ↓r_l19 hA, ↓r_n19 hA, r_a19 hA, r_l21 hA, ↓r_l21 hA, ↓r_n21 hA, r_a21 hA, r_l22 hA, ↓r_l22 hA, ↓r_n22 hA, r_a22 hA, r_l23 hA, ↓r_l23 hA, ↓r_n23 hA, r_a23 hA, r_l24 hA, ↓r_l24 hA, ↓r_n24 hA, r_a24 hA, r_l25 hA, ↓r_l25 hA, ↓r_n25 hA, r_a25 hA, r_l17 hA, ↓r_l17 hA, ↓r_n17 hA, r_sz0 hA, r_gt0 hA, r_sz1 hA, r_gt1 hA, r_sz2 hA, r_gt2 hA, r_sz3 hA, r_gt3 hA, w_s6 hA, w_s7 hA, w_s8 hA, w_s9 hA, w_s18 hA, w_s19 hA, w_s21 hA, w_s22 hA, w_s23 hA, w_s24 hA, w_s25 hA, w_f11 hA, w_f12 hA, w_f13 hA, w_f16 hA]
    rfl
  | succ f ih =>
    intro t u S K fuel h4 t0 t1 hf hV hC hq
    obtain ⟨g, rfl⟩ : ∃ g, fuel = g + 1 := ⟨fuel - 1, by omega⟩
    have hm2 := hV.2.1
    unfold Bm at hm2
    obtain ⟨K1, e1, h1⟩ := e_findHardest (P := P) (K := K) (z := z) hA hV.1 hV.2.1 hV.2.2 u
    rw [haS_Q] at e1
    have hhb := haQ_b S (fun k => bHas u (iI (k : Int))) hV.2.1
    have hhp := haQ_p (S := S) (q := fun k => bHas u (iI (k : Int)))
    unfold reS
    generalize hh : haQ S (fun k => bHas u (iI (k : Int))) = h at *
    by_cases c : h < 0
    · rw [if_pos c] at e1
      rw [if_pos c]
      refine ⟨K1, ?_, h1.x, CI_KE h1 hC⟩
      rw [u_L_X6_repair_9]
      simp (disch := omega) only [↓reduceIte, ↓e_lets, ↓e_ite, ↓e_cal, e_cal2, e_cal3, e_thr, e_nthrow, e_rtn, e_r0, e_r1, e_dv, iI_add, iI_sub, iI_mul, iI_neg, iI_div, iI_rem, iI_lt, iI_le, iI_eq, b_eq0, b_eq1, Int.reduceAdd, Int.reduceMul, Int.reduceSub, Int.reduceNeg, Int.reduceDiv, Int.reduceMod, Nat.reduceAdd, Bool.false_eq_true, eq_self, ltT, ltF, leT, leF, eqT, eqF, true_and, and_true, false_and, and_false, and_self, or_true, true_or, or_false, false_or, ne_eq, not_true_eq_false, not_false_eq_true, if_true, if_false, ite_true, ite_false, ite_not, some_none, some_some, none_some, none_none, A_eq hA, li_0, li_1, li_2, li_3, li_4, li_5, li_6, li_7, li_8, li_9, li_10, li_11, li_12, li_13, li_14, li_15, li_16, li_17, li_18, li_19, li_20, li_21, li_22, li_23, li_24, li_25, li_26, li_27, li_28, li_29, li_30, li_31, li_32, li_63, li_64, li_99, li_100, li_128, li_240, li_256, li_512, li_960, li_1000, li_1022, li_1023, li_100000, li_m1, li_m1000, ↓r_v0 hA, ↓r_c0 hA, ↓r_0_0 hA, ↓r_0_1 hA, ↓r_0_2 hA, ↓r_0_3 hA, ↓r_0_4 hA, ↓r_0_5 hA, ↓r_0_6 hA, ↓r_0_7 hA, ↓r_0_8 hA, ↓r_0_9 hA, ↓r_v1 hA, ↓r_c1 hA, ↓r_1_0 hA, ↓r_1_1 hA, ↓r_1_2 hA, ↓r_1_3 hA, ↓r_1_4 hA, ↓r_v2 hA, ↓r_c2 hA, ↓r_2_0 hA, ↓r_2_1 hA, ↓r_2_2 hA, ↓r_v4 hA, ↓r_c4 hA, ↓r_4_0 hA, ↓r_v5 hA, ↓r_c5 hA, ↓r_5_0 hA, ↓r_5_1 hA, ↓r_5_2 hA, ↓r_5_3 hA, ↓r_5_4 hA, ↓r_5_5 hA, ↓r_5_6p hA, ↓r_5_6n hA, ↓r_5_7p hA, ↓r_5_7n hA, ↓r_5_8 hA, ↓r_5_9 hA, ↓r_5_10 hA, ↓r_5_11 hA, ↓r_5_12 hA, ↓r_5_13 hA, ↓r_5_14 hA, ↓r_5_15 hA, ↓r_5_16 hA, ↓r_5_17 hA, ↓r_v11 hA, ↓r_c11 hA, ↓r_11_0 hA, ↓r_11_1p hA, ↓r_11_2 hA, ↓r_v13 hA, ↓r_c13 hA, ↓r_13_0 hA, ↓r_13_1 hA, ↓r_13_2 hA, ↓r_13_3 hA, ↓r_13_4 hA, ↓r_13_5 hA, ↓r_v14 hA, ↓r_c14 hA, ↓r_14_0 hA, ↓r_v15 hA, ↓r_c15 hA, ↓r_15_0 hA, ↓r_15_1 hA, ↓r_v16 hA, ↓r_c16 hA, ↓r_16_0 hA, r_l3 hA, ↓r_l3 hA, ↓r_n3 hA, r_a3 hA, r_l10 hA, ↓r_l10 hA, ↓r_n10 hA, r_a10 hA, r_l20 hA, ↓r_l20 hA, ↓r_n20 hA, r_a20 hA, r_l6 hA, ↓r_l6 hA, ↓r_n6 hA, r_a6 hA, r_l7 hA, ↓r_l7 hA, ↓r_n7 hA, r_a7 hA, r_l8 hA, ↓r_l8 hA, ↓r_n8 hA, r_a8 hA, r_l9 hA, ↓r_l9 hA, ↓r_n9 hA, r_a9 hA, r_l18 hA, ↓r_l18 hA, ↓r_n18 hA, r_a18 hA, r_l19 hA, ↓r_l19 hA, ↓r_n19 hA, r_a19 hA, r_l21 hA, ↓r_l21 hA, ↓r_n21 hA, r_a21 hA, r_l22 hA, ↓r_l22 hA, ↓r_n22 hA, r_a22 hA, r_l23 hA, ↓r_l23 hA, ↓r_n23 hA, r_a23 hA, r_l24 hA, ↓r_l24 hA, ↓r_n24 hA, r_a24 hA, r_l25 hA, ↓r_l25 hA, ↓r_n25 hA, r_a25 hA, r_l17 hA, ↓r_l17 hA, ↓r_n17 hA, r_sz0 hA, r_gt0 hA, r_sz1 hA, r_gt1 hA, r_sz2 hA, r_gt2 hA, r_sz3 hA, r_gt3 hA, w_s6 hA, w_s7 hA, w_s8 hA, w_s9 hA, w_s18 hA, w_s19 hA, w_s21 hA, w_s22 hA, w_s23 hA, w_s24 hA, w_s25 hA, w_f11 hA, w_f12 hA, w_f13 hA, w_f16 hA, e1]
    · rw [if_neg c] at e1
      rw [if_neg c]
      have l0 : 0 ≤ h := by omega
      have l1 : h < S 20 4 := by omega
      have h3 : ((h.toNat : Nat) : Int) = h := by omega
      have hun : S 14 h = -1 := by
        have := hq h.toNat (by omega) (hhp l0)
        rw [h3] at this
        exact this
      obtain ⟨K2, e2, g1, g2⟩ := e_findCheapest (P := P) (K := K1) (z := z) hA hV.1 hV.2.1 hV.2.2 l0 l1
      have hC2 : CI S K2 := CI_KE g1 (CI_KE h1 hC)
      have hx : ∃ K3, f_X6_putAt (A 13 0) (some (A 5 h)) (iI (chP S h (-2))) (Hc A P S K2, z) = some (.ok (), (Hc A P (upS S 14 h (chP S h (-2))) K3, z)) ∧ KX K2 K3 ∧ CI (upS S 14 h (chP S h (-2))) K3 := by
        rcases chP_p hV (x := -2) l0 l1 with hp | hp
        · rw [hp, pl_same hun]
          exact ⟨K2, e_putAtN hA hV.1 hV.2.1 hV.2.2 l0 l1, KX.rfl, hC2⟩
        · exact e_putAt hA hV hC2 l0 l1 hp.1 hp.2.1 hp.2.2.1 hp.2.2.2.1
      obtain ⟨K3, e3, g3, g4⟩ := hx
      have hu : ∀ k : Nat, (k : Int) < S 20 4 → bHas (u &&& ((iI 1 <<< (iI h &&& iI 31)) ^^^ iI (-1))) (iI (k : Int)) = (bHas u (iI (k : Int)) && !decide ((k : Int) = h)) := by
        intro k hk
        rw [bHas_and _ _ (by omega), m1_i, bHas_not _ (by omega), ← h3, bHas_bitk (by omega) (by omega)]
        congr 2
        apply decide_eq_decide.mpr
        omega
      have e20 : upS S 14 h (chP S h (-2)) 20 = S 20 := upS_g (by decide)
      obtain ⟨K4, e4, g5, g6⟩ := ih (t + 1) (u &&& ((iI 1 <<< (iI h &&& iI 31)) ^^^ iI (-1))) (upS S 14 h (chP S h (-2))) K3 g (by rw [e20]; exact h4) (by omega) (by omega) (by omega) (VS_ch hV l0 l1) g4 (fun k hk hbk => by
        rw [hu k (by omega)] at hbk
        have hbk2 : bHas u (iI (k : Int)) = true ∧ ¬ (k : Int) = h := by simpa using hbk
        rw [pl_k hbk2.2]
        exact hq k hk hbk2.1)
      have hre : reS f (upS S 14 h (chP S h (-2))) (fun k => bHas (u &&& ((iI 1 <<< (iI h &&& iI 31)) ^^^ iI (-1))) (iI (k : Int))) = reS f (upS S 14 h (chP S h (-2))) (fun k => bHas u (iI (k : Int)) && !decide ((k : Int) = h)) := reS_c _ _ _ _ (fun k hk => by
        rw [e20] at hk
        exact hu k (by omega))
      rw [hre] at e4 g6
      refine ⟨K4, ?_, ((h1.x.tr g1.x).tr g3).tr g5, g6⟩
      rw [← e4, u_L_X6_repair_9]
      simp (disch := omega) only [↓reduceIte, ↓e_lets, ↓e_ite, ↓e_cal, e_cal2, e_cal3, e_thr, e_nthrow, e_rtn, e_r0, e_r1, e_dv, iI_add, iI_sub, iI_mul, iI_neg, iI_div, iI_rem, iI_lt, iI_le, iI_eq, b_eq0, b_eq1, Int.reduceAdd, Int.reduceMul, Int.reduceSub, Int.reduceNeg, Int.reduceDiv, Int.reduceMod, Nat.reduceAdd, Bool.false_eq_true, eq_self, ltT, ltF, leT, leF, eqT, eqF, true_and, and_true, false_and, and_false, and_self, or_true, true_or, or_false, false_or, ne_eq, not_true_eq_false, not_false_eq_true, if_true, if_false, ite_true, ite_false, ite_not, some_none, some_some, none_some, none_none, A_eq hA, li_0, li_1, li_2, li_3, li_4, li_5, li_6, li_7, li_8, li_9, li_10, li_11, li_12, li_13, li_14, li_15, li_16, li_17, li_18, li_19, li_20, li_21, li_22, li_23, li_24, li_25, li_26, li_27, li_28, li_29, li_30, li_31, li_32, li_63, li_64, li_99, li_100, li_128, li_240, li_256, li_512, li_960, li_1000, li_1022, li_1023, li_100000, li_m1, li_m1000, ↓r_v0 hA, ↓r_c0 hA, ↓r_0_0 hA, ↓r_0_1 hA, ↓r_0_2 hA, ↓r_0_3 hA, ↓r_0_4 hA, ↓r_0_5 hA, ↓r_0_6 hA, ↓r_0_7 hA, ↓r_0_8 hA, ↓r_0_9 hA, ↓r_v1 hA, ↓r_c1 hA, ↓r_1_0 hA, ↓r_1_1 hA, ↓r_1_2 hA, ↓r_1_3 hA, ↓r_1_4 hA, ↓r_v2 hA, ↓r_c2 hA, ↓r_2_0 hA, ↓r_2_1 hA, ↓r_2_2 hA, ↓r_v4 hA, ↓r_c4 hA, ↓r_4_0 hA, ↓r_v5 hA, ↓r_c5 hA, ↓r_5_0 hA, ↓r_5_1 hA, ↓r_5_2 hA, ↓r_5_3 hA, ↓r_5_4 hA, ↓r_5_5 hA, ↓r_5_6p hA, ↓r_5_6n hA, ↓r_5_7p hA, ↓r_5_7n hA, ↓r_5_8 hA, ↓r_5_9 hA, ↓r_5_10 hA, ↓r_5_11 hA, ↓r_5_12 hA, ↓r_5_13 hA, ↓r_5_14 hA, ↓r_5_15 hA, ↓r_5_16 hA, ↓r_5_17 hA, ↓r_v11 hA, ↓r_c11 hA, ↓r_11_0 hA, ↓r_11_1p hA, ↓r_11_2 hA, ↓r_v13 hA, ↓r_c13 hA, ↓r_13_0 hA, ↓r_13_1 hA, ↓r_13_2 hA, ↓r_13_3 hA, ↓r_13_4 hA, ↓r_13_5 hA, ↓r_v14 hA, ↓r_c14 hA, ↓r_14_0 hA, ↓r_v15 hA, ↓r_c15 hA, ↓r_15_0 hA, ↓r_15_1 hA, ↓r_v16 hA, ↓r_c16 hA, ↓r_16_0 hA, r_l3 hA, ↓r_l3 hA, ↓r_n3 hA, r_a3 hA, r_l10 hA, ↓r_l10 hA, ↓r_n10 hA, r_a10 hA, r_l20 hA, ↓r_l20 hA, ↓r_n20 hA, r_a20 hA, r_l6 hA, ↓r_l6 hA, ↓r_n6 hA, r_a6 hA, r_l7 hA, ↓r_l7 hA, ↓r_n7 hA, r_a7 hA, r_l8 hA, ↓r_l8 hA, ↓r_n8 hA, r_a8 hA, r_l9 hA, ↓r_l9 hA, ↓r_n9 hA, r_a9 hA, r_l18 hA, ↓r_l18 hA, ↓r_n18 hA, r_a18 hA, r_l19 hA, ↓r_l19 hA, ↓r_n19 hA, r_a19 hA, r_l21 hA, ↓r_l21 hA, ↓r_n21 hA, r_a21 hA, r_l22 hA, ↓r_l22 hA, ↓r_n22 hA, r_a22 hA, r_l23 hA, ↓r_l23 hA, ↓r_n23 hA, r_a23 hA, r_l24 hA, ↓r_l24 hA, ↓r_n24 hA, r_a24 hA, r_l25 hA, ↓r_l25 hA, ↓r_n25 hA, r_a25 hA, r_l17 hA, ↓r_l17 hA, ↓r_n17 hA, r_sz0 hA, r_gt0 hA, r_sz1 hA, r_gt1 hA, r_sz2 hA, r_gt2 hA, r_sz3 hA, r_gt3 hA, w_s6 hA, w_s7 hA, w_s8 hA, w_s9 hA, w_s18 hA, w_s19 hA, w_s21 hA, w_s22 hA, w_s23 hA, w_s24 hA, w_s25 hA, w_f11 hA, w_f12 hA, w_f13 hA, w_f16 hA, e1, e2, e3]
theorem e_repair {A : AA} {P : Hp} {S : SS} {K : KK} {z : Nat × Nat} (hA : GA A) (hV : VS S) (hC : CI S K) (x : Int32) : ∃ K2, f_X6_repair (A 13 0) x (Hc A P S K, z) = some (.ok (iI (cntN (fun k => bHas x (iI (k : Int)) && decide (reS 16 (rmS S (fun k => bHas x (iI (k : Int))) (S 20 4)) (fun k => bHas x (iI (k : Int))) 14 k < 0)) (S 20 4).toNat)), (Hc A P (reS 16 (rmS S (fun k => bHas x (iI (k : Int))) (S 20 4)) (fun k => bHas x (iI (k : Int)))) K2, z)) ∧ KX K K2 ∧ CI (reS 16 (rmS S (fun k => bHas x (iI (k : Int))) (S 20 4)) (fun k => bHas x (iI (k : Int)))) K2 := by
  obtain ⟨hb, hm, hv⟩ := hV
  have hm2 := hm
  unfold Bm at hm2
  obtain ⟨K1, e1, h1, h2⟩ := e_takeAll (P := P) (z := z) hA ⟨hb, hm, hv⟩ hC x
  have h9 : (((S 20 4).toNat : Nat) : Int) = S 20 4 := by omega
  have hV1 : VS (rmS S (fun k => bHas x (iI (k : Int))) (S 20 4)) := by
    have := VS_rm ⟨hb, hm, hv⟩ (fun k => bHas x (iI (k : Int))) (S 20 4).toNat (by omega)
    rw [h9] at this
    exact this
  have e20 : rmS S (fun k => bHas x (iI (k : Int))) (S 20 4) 20 = S 20 := rmS_g (by decide)
  have hq : ∀ k : Nat, (k : Int) < S 20 4 → bHas x (iI (k : Int)) = true → rmS S (fun k => bHas x (iI (k : Int))) (S 20 4) 14 k = -1 := fun k hk hx => if_pos ⟨rfl, by omega, hk, by simpa using hx⟩
  generalize rmS S (fun k => bHas x (iI (k : Int))) (S 20 4) = S1 at *
  obtain ⟨K2, e2, h3, h4⟩ := e_L_repair (P := P) (z := z) hA x (j_X6_repair_60 (some (A 13 0)) x) (S 20 4) 16 0 x S1 K1 100000 (by rw [e20]) (by decide) (by decide) (by decide) hV1 h2 hq
  have hV2 := VS_re 16 S1 (fun k => bHas x (iI (k : Int))) hV1
  have e21 := reS_20 16 S1 (fun k => bHas x (iI (k : Int)))
  generalize reS 16 S1 (fun k => bHas x (iI (k : Int))) = S2 at *
  have e22 : S2 20 = S 20 := e21.trans e20
  have e3 := e_unplaced (P := P) (K := K2) (z := z) hA hV2.1 hV2.2.1 hV2.2.2
  have e5 : bcN (x &&& setM (fun k => decide (S2 14 k < 0)) (S2 20 4).toNat) = cntN (fun k => bHas x (iI (k : Int)) && decide (S2 14 k < 0)) (S 20 4).toNat := by
    rw [e22]
    refine bcN_cnt (by omega) (fun s hs => ?_)
    rw [bHas_and _ _ hs, bHas_setM _ (by omega) hs]
    cases bHas x (iI (s : Int)) <;> simp
  refine ⟨K2, ?_, h1.tr h3, h4⟩
  unfold f_X6_repair
  simp (disch := omega) only [↓reduceIte, ↓e_lets, ↓e_ite, ↓e_cal, e_cal2, e_cal3, e_thr, e_nthrow, e_rtn, e_r0, e_r1, e_dv, iI_add, iI_sub, iI_mul, iI_neg, iI_div, iI_rem, iI_lt, iI_le, iI_eq, b_eq0, b_eq1, Int.reduceAdd, Int.reduceMul, Int.reduceSub, Int.reduceNeg, Int.reduceDiv, Int.reduceMod, Nat.reduceAdd, Bool.false_eq_true, eq_self, ltT, ltF, leT, leF, eqT, eqF, true_and, and_true, false_and, and_false, and_self, or_true, true_or, or_false, false_or, ne_eq, not_true_eq_false, not_false_eq_true, if_true, if_false, ite_true, ite_false, ite_not, some_none, some_some, none_some, none_none, A_eq hA, li_0, li_1, li_2, li_3, li_4, li_5, li_6, li_7, li_8, li_9, li_10, li_11, li_12, li_13, li_14, li_15, li_16, li_17, li_18, li_19, li_20, li_21, li_22, li_23, li_24, li_25, li_26, li_27, li_28, li_29, li_30, li_31, li_32, li_63, li_64, li_99, li_100, li_128, li_240, li_256, li_512, li_960, li_1000, li_1022, li_1023, li_100000, li_m1, li_m1000, ↓r_v0 hA, ↓r_c0 hA, ↓r_0_0 hA, ↓r_0_1 hA, ↓r_0_2 hA, ↓r_0_3 hA, ↓r_0_4 hA, ↓r_0_5 hA, ↓r_0_6 hA, ↓r_0_7 hA, ↓r_0_8 hA, ↓r_0_9 hA, ↓r_v1 hA, ↓r_c1 hA, ↓r_1_0 hA, ↓r_1_1 hA, ↓r_1_2 hA, ↓r_1_3 hA, ↓r_1_4 hA, ↓r_v2 hA, ↓r_c2 hA, ↓r_2_0 hA, ↓r_2_1 hA, ↓r_2_2 hA, ↓r_v4 hA, ↓r_c4 hA, ↓r_4_0 hA, ↓r_v5 hA, ↓r_c5 hA, ↓r_5_0 hA, ↓r_5_1 hA, ↓r_5_2 hA, ↓r_5_3 hA, ↓r_5_4 hA, ↓r_5_5 hA, ↓r_5_6p hA, ↓r_5_6n hA, ↓r_5_7p hA, ↓r_5_7n hA, ↓r_5_8 hA, ↓r_5_9 hA, ↓r_5_10 hA, ↓r_5_11 hA, ↓r_5_12 hA, ↓r_5_13 hA, ↓r_5_14 hA, ↓r_5_15 hA, ↓r_5_16 hA, ↓r_5_17 hA, ↓r_v11 hA, ↓r_c11 hA, ↓r_11_0 hA, ↓r_11_1p hA, ↓r_11_2 hA, ↓r_v13 hA, ↓r_c13 hA, ↓r_13_0 hA, ↓r_13_1 hA, ↓r_13_2 hA, ↓r_13_3 hA, ↓r_13_4 hA, ↓r_13_5 hA, ↓r_v14 hA, ↓r_c14 hA, ↓r_14_0 hA, ↓r_v15 hA, ↓r_c15 hA, ↓r_15_0 hA, ↓r_15_1 hA, ↓r_v16 hA, ↓r_c16 hA, ↓r_16_0 hA, r_l3 hA, ↓r_l3 hA, ↓r_n3 hA, r_a3 hA, r_l10 hA, ↓r_l10 hA, ↓r_n10 hA, r_a10 hA, r_l20 hA, ↓r_l20 hA, ↓r_n20 hA, r_a20 hA, r_l6 hA, ↓r_l6 hA, ↓r_n6 hA, r_a6 hA, r_l7 hA, ↓r_l7 hA, ↓r_n7 hA, r_a7 hA, r_l8 hA, ↓r_l8 hA, ↓r_n8 hA, r_a8 hA, r_l9 hA, ↓r_l9 hA, ↓r_n9 hA, r_a9 hA, r_l18 hA, ↓r_l18 hA, ↓r_n18 hA, r_a18 hA, r_l19 hA, ↓r_l19 hA, ↓r_n19 hA, r_a19 hA, r_l21 hA, ↓r_l21 hA, ↓r_n21 hA, r_a21 hA, r_l22 hA, ↓r_l22 hA, ↓r_n22 hA, r_a22 hA, r_l23 hA, ↓r_l23 hA, ↓r_n23 hA, r_a23 hA, r_l24 hA, ↓r_l24 hA, ↓r_n24 hA, r_a24 hA, r_l25 hA, ↓r_l25 hA, ↓r_n25 hA, r_a25 hA, r_l17 hA, ↓r_l17 hA, ↓r_n17 hA, r_sz0 hA, r_gt0 hA, r_sz1 hA, r_gt1 hA, r_sz2 hA, r_gt2 hA, r_sz3 hA, r_gt3 hA, w_s6 hA, w_s7 hA, w_s8 hA, w_s9 hA, w_s18 hA, w_s19 hA, w_s21 hA, w_s22 hA, w_s23 hA, w_s24 hA, w_s25 hA, w_f11 hA, w_f12 hA, w_f13 hA, w_f16 hA, e1]
  rw [e2]
  unfold j_X6_repair_60
  simp (disch := omega) only [↓reduceIte, ↓e_lets, ↓e_ite, ↓e_cal, e_cal2, e_cal3, e_thr, e_nthrow, e_rtn, e_r0, e_r1, e_dv, iI_add, iI_sub, iI_mul, iI_neg, iI_div, iI_rem, iI_lt, iI_le, iI_eq, b_eq0, b_eq1, Int.reduceAdd, Int.reduceMul, Int.reduceSub, Int.reduceNeg, Int.reduceDiv, Int.reduceMod, Nat.reduceAdd, Bool.false_eq_true, eq_self, ltT, ltF, leT, leF, eqT, eqF, true_and, and_true, false_and, and_false, and_self, or_true, true_or, or_false, false_or, ne_eq, not_true_eq_false, not_false_eq_true, if_true, if_false, ite_true, ite_false, ite_not, some_none, some_some, none_some, none_none, A_eq hA, li_0, li_1, li_2, li_3, li_4, li_5, li_6, li_7, li_8, li_9, li_10, li_11, li_12, li_13, li_14, li_15, li_16, li_17, li_18, li_19, li_20, li_21, li_22, li_23, li_24, li_25, li_26, li_27, li_28, li_29, li_30, li_31, li_32, li_63, li_64, li_99, li_100, li_128, li_240, li_256, li_512, li_960, li_1000, li_1022, li_1023, li_100000, li_m1, li_m1000, ↓r_v0 hA, ↓r_c0 hA, ↓r_0_0 hA, ↓r_0_1 hA, ↓r_0_2 hA, ↓r_0_3 hA, ↓r_0_4 hA, ↓r_0_5 hA, ↓r_0_6 hA, ↓r_0_7 hA, ↓r_0_8 hA, ↓r_0_9 hA, ↓r_v1 hA, ↓r_c1 hA, ↓r_1_0 hA, ↓r_1_1 hA, ↓r_1_2 hA, ↓r_1_3 hA, ↓r_1_4 hA, ↓r_v2 hA, ↓r_c2 hA, ↓r_2_0 hA, ↓r_2_1 hA, ↓r_2_2 hA, ↓r_v4 hA, ↓r_c4 hA, ↓r_4_0 hA, ↓r_v5 hA, ↓r_c5 hA, ↓r_5_0 hA, ↓r_5_1 hA, ↓r_5_2 hA, ↓r_5_3 hA, ↓r_5_4 hA, ↓r_5_5 hA, ↓r_5_6p hA, ↓r_5_6n hA, ↓r_5_7p hA, ↓r_5_7n hA, ↓r_5_8 hA, ↓r_5_9 hA, ↓r_5_10 hA, ↓r_5_11 hA, ↓r_5_12 hA, ↓r_5_13 hA, ↓r_5_14 hA, ↓r_5_15 hA, ↓r_5_16 hA, ↓r_5_17 hA, ↓r_v11 hA, ↓r_c11 hA, ↓r_11_0 hA, ↓r_11_1p hA, ↓r_11_2 hA, ↓r_v13 hA, ↓r_c13 hA, ↓r_13_0 hA, ↓r_13_1 hA, ↓r_13_2 hA, ↓r_13_3 hA, ↓r_13_4 hA, ↓r_13_5 hA, ↓r_v14 hA, ↓r_c14 hA, ↓r_14_0 hA, ↓r_v15 hA, ↓r_c15 hA, ↓r_15_0 hA, ↓r_15_1 hA, ↓r_v16 hA, ↓r_c16 hA, ↓r_16_0 hA, r_l3 hA, ↓r_l3 hA, ↓r_n3 hA, r_a3 hA, r_l10 hA, ↓r_l10 hA, ↓r_n10 hA, r_a10 hA, r_l20 hA, ↓r_l20 hA, ↓r_n20 hA, r_a20 hA, r_l6 hA, ↓r_l6 hA, ↓r_n6 hA, r_a6 hA, r_l7 hA, ↓r_l7 hA, ↓r_n7 hA, r_a7 hA, r_l8 hA, ↓r_l8 hA, ↓r_n8 hA, r_a8 hA, r_l9 hA, ↓r_l9 hA, ↓r_n9 hA, r_a9 hA, r_l18 hA, ↓r_l18 hA, ↓r_n18 hA, r_a18 hA, r_l19 hA, ↓r_l19 hA, ↓r_n19 hA, r_a19 hA, r_l21 hA, ↓r_l21 hA, ↓r_n21 hA, r_a21 hA, r_l22 hA, ↓r_l22 hA, ↓r_n22 hA, r_a22 hA, r_l23 hA, ↓r_l23 hA, ↓r_n23 hA, r_a23 hA, r_l24 hA, ↓r_l24 hA, ↓r_n24 hA, r_a24 hA, r_l25 hA, ↓r_l25 hA, ↓r_n25 hA, r_a25 hA, r_l17 hA, ↓r_l17 hA, ↓r_n17 hA, r_sz0 hA, r_gt0 hA, r_sz1 hA, r_gt1 hA, r_sz2 hA, r_gt2 hA, r_sz3 hA, r_gt3 hA, w_s6 hA, w_s7 hA, w_s8 hA, w_s9 hA, w_s18 hA, w_s19 hA, w_s21 hA, w_s22 hA, w_s23 hA, w_s24 hA, w_s25 hA, w_f11 hA, w_f12 hA, w_f13 hA, w_f16 hA, e3, e_bitCount, e5]
