/-! PURE LAYER: the reference: rows of booleans filled, repairs, free lessons set -/
theorem b_ldH {R : Type} {m0 a : Nat} {P : Hp} {S : SS} {z : Nat × Nat} {W : Nat → Bool} (ha : m0 + 20 < a) {k : Nat} (hk : (k : Int) < 16) {K : Int32 → OO R} : ldI 1 (some a) (iI (k : Int)) K (Hm m0 (hset P a (bC W)) S, z) = K (iI (if W k = true then 1 else 0)) (Hm m0 (hset P a (bC W)) S, z) := by
  have hq : (Hm m0 (hset P a (bC W)) S, z).1 a = some (bC W) := by
    show Hm m0 _ S a = _
    rw [Hm_out (Or.inr ha), hset_s]
  rw [b_ld hq (by omega) hk, Int.toNat_natCast]
theorem b_stH {R : Type} {m0 a : Nat} {P : Hp} {S : SS} {z : Nat × Nat} {W : Nat → Bool} (ha : m0 + 20 < a) {k : Nat} (hk : (k : Int) < 16) {x : Int} (hx : x = 0 ∨ x = 1) {K : OO R} : stZ (some a) (iI (k : Int)) (iI x) K (Hm m0 (hset P a (bC W)) S, z) = K (Hm m0 (hset P a (bC (fun j => if j = k then decide (x = 1) else W j))) S, z) := by
  have hq : (Hm m0 (hset P a (bC W)) S, z).1 a = some (bC W) := by
    show Hm m0 _ S a = _
    rw [Hm_out (Or.inr ha), hset_s]
  rw [b_st hq (by omega) hk hx]
  show K (hset (Hm m0 (hset P a _) S) a _, _) = _
  rw [Hm_hset (Or.inr ha), hset2, Int.toNat_natCast]
theorem b_st1 {R : Type} {m0 a : Nat} {P : Hp} {S : SS} {z : Nat × Nat} {W : Nat → Bool} (ha : m0 + 20 < a) {k : Nat} (hk : (k : Int) < 16) {K : OO R} : stZ (some a) (iI (k : Int)) (iI 1) K (Hm m0 (hset P a (bC W)) S, z) = K (Hm m0 (hset P a (bC (fun j => if j = k then true else W j))) S, z) := b_stH ha hk (Or.inr rfl)
theorem b_st0 {R : Type} {m0 a : Nat} {P : Hp} {S : SS} {z : Nat × Nat} {W : Nat → Bool} (ha : m0 + 20 < a) {k : Nat} (hk : (k : Int) < 16) {K : OO R} : stZ (some a) (iI (k : Int)) (iI 0) K (Hm m0 (hset P a (bC W)) S, z) = K (Hm m0 (hset P a (bC (fun j => if j = k then false else W j))) S, z) := b_stH ha hk (Or.inl rfl)
theorem row_go {R : Type} (L : Nat → Int32 → Hs → Option R) {m0 a : Nat} {P : Hp} {S : SS} {z : Nat × Nat} (q W0 : Nat → Bool) (n : Nat) (Y : Hs → Option R)
    (step : ∀ (k f : Nat) (W : Nat → Bool), k < n → W k = W0 k → L (f + 1) (iI (k : Int)) (Hm m0 (hset P a (bC W)) S, z) = L f (iI ((k : Int) + 1)) (Hm m0 (hset P a (bC (fun j => if j = k then q k else W j))) S, z))
    (fin : ∀ (f : Nat) (W : Nat → Bool), L (f + 1) (iI (n : Int)) (Hm m0 (hset P a (bC W)) S, z) = Y (Hm m0 (hset P a (bC W)) S, z)) (fuel : Nat) (hf : n < fuel) : L fuel (iI 0) (Hm m0 (hset P a (bC W0)) S, z) = Y (Hm m0 (hset P a (bC (fun j => if j < n then q j else W0 j))) S, z) := by
  have hL := loopD (fun f (t : Int32 × (Nat → Bool)) => L f t.1 (Hm m0 (hset P a (bC t.2)) S, z)) (fun m => (iI (m : Int), fun j => if j < m then q j else W0 j)) n (Y (Hm m0 (hset P a (bC (fun j => if j < n then q j else W0 j))) S, z)) (fun k f hk => ?_) (fun f => fin f _) fuel hf
  · have e0 : (fun j : Nat => if j < 0 then q j else W0 j) = W0 := funext (fun j => if_neg (by omega))
    simp only [e0] at hL
    exact hL
  · show L (f + 1) (iI (k : Int)) (Hm m0 (hset P a (bC (fun j => if j < k then q j else W0 j))) S, z) = L f (iI ((k : Int) + 1)) (Hm m0 (hset P a (bC (fun j => if j < k + 1 then q j else W0 j))) S, z)
    rw [step k f _ hk (if_neg (by omega))]
    have e1 : (fun j : Nat => if j = k then q k else if j < k then q j else W0 j) = fun j : Nat => if j < k + 1 then q j else W0 j := by
      funext j
      by_cases c : j = k
      · subst c
        rw [if_pos rfl, if_pos (by omega)]
      · rw [if_neg c]
        by_cases d : j < k
        · rw [if_pos d, if_pos (by omega)]
        · rw [if_neg d, if_neg (by omega)]
    rw [e1]
theorem amin_al {ok : Nat → Bool} {c : Nat → Int} : ∀ n, amin ok c n < 0 → ∀ k, k < n → ok k = false := by
  intro n
  induction n with
  | zero => intro _ k hk; exact absurd hk (by omega)
  | succ n ih =>
    intro h k hk
    have hb := amin_b ok c n
    have e : amin ok c (n + 1) = if ok n = true ∧ (amin ok c n < 0 ∨ c n < c (amin ok c n).toNat) then (n : Int) else amin ok c n := rfl
    rw [e] at h
    split at h
    · omega
    · rename_i hn
      by_cases d : k = n
      · subst d
        cases f : ok k
        · rfl
        · exact absurd ⟨f, Or.inl h⟩ hn
      · exact ih h k (by omega)
theorem cntN_z {q : Nat → Bool} {n : Nat} (h : ∀ k, k < n → q k = false) : cntN q n = 0 := sumN_z n (fun k hk => by rw [h k hk]; rfl)
theorem reS_ne {k : Int} (k0 : 0 ≤ k) : ∀ (f : Nat) (S : SS) (q : Nat → Bool), q k.toNat = false → reS f S q 14 k = S 14 k := by
  intro f
  induction f with
  | zero => intro S q _; rfl
  | succ f ih =>
    intro S q hq
    have e : reS (f + 1) S q = if haQ S q < 0 then S else reS f (upS S 14 (haQ S q) (chP S (haQ S q) (-2))) (fun k => q k && !decide ((k : Int) = haQ S q)) := rfl
    rw [e]
    by_cases c : haQ S q < 0
    · rw [if_pos c]
    · rw [if_neg c, ih _ _ (by rw [hq]; rfl)]
      have h1 := haQ_p (S := S) (q := q) (by omega)
      refine upS_i (fun w => ?_)
      rw [← w, hq] at h1
      exact absurd h1 (by decide)
theorem cntN_one {p q : Nat → Bool} {n j : Nat} (h : ∀ k, k < n → k ≠ j → q k = p k) (hj : j < n) (h2 : q j = false) : cntN p n = cntN q n + (if p j = true then 1 else 0) := by
  cases c : p j
  · rw [cntN_c (p := p) (q := q) (fun k hk => by
      by_cases d : k = j
      · subst d; rw [c, h2]
      · exact (h k hk d).symm)]
    show _ = cntN q n + 0
    omega
  · rw [cntN_dec n j h hj c h2]
    show _ = _ + 1
    omega
theorem e_L_re4 {m0 : Nat} {P : Hp} {S : SS} {z : Nat × Nat} (hm : Bm S) {a : Nat} (ha : m0 + 20 < a) {q : Nat → Bool} (hP : P a = some (bC q)) (hq : ∀ k : Nat, (k : Int) < S 20 4 → q k = true → S 8 k = 0) (a2 : Int32) (Kc : OO Int32) : L_X9_repairs_4 (some m0) (some a) a2 Kc 100000 (iI 0) (Hm m0 P S, z) = Kc (Hm m0 P (rmS S q (S 20 4)), z) := by
  have hm2 := hm
  unfold Bm at hm2
  have h9 : (((S 20 4).toNat : Nat) : Int) = S 20 4 := by omega
  have hL := loopD (fun f (t : Int32 × SS) => L_X9_repairs_4 (some m0) (some a) a2 Kc f t.1 (Hm m0 P t.2, z)) (fun m => (iI (m : Int), rmS S q (m : Int))) (S 20 4).toNat (Kc (Hm m0 P (rmS S q (S 20 4)), z)) (fun k f hk => ?_) (fun f => ?_) 100000 (by omega)
  · have e0 : rmS S q ((0 : Nat) : Int) = S := rmS_0 S q
    simp only [e0] at hL
    exact hL
  · show L_X9_repairs_4 (some m0) (some a) a2 Kc (f + 1) (iI (k : Int)) (Hm m0 P (rmS S q (k : Int)), z) = L_X9_repairs_4 (some m0) (some a) a2 Kc f (iI ((k : Int) + 1)) (Hm m0 P (rmS S q ((k + 1 : Nat) : Int)), z)
    have hg : rmS S q (k : Int) 20 = S 20 := rmS_g (by decide)
    have hqq : (Hm m0 P (rmS S q (k : Int)), z).1 a = some (bC q) := by
      show Hm m0 P _ a = _
      rw [Hm_out (Or.inr ha)]
      exact hP
    have r1 := fun K : Int32 → OO Int32 => b_ld hqq (i := (k : Int)) (by omega) (by omega) (K := K)
    rw [Int.toNat_natCast] at r1
    rw [u_L_X9_repairs_4]
    cases d : q k
    · rw [d] at r1
      rw [rmS_2 S q k d]
      simp -implicitDefEqProofs (disch := omega) only [↓reduceIte, ↓e_lets, ↓e_ite, ↓e_cal, e_cal2, e_cal3, e_thr, e_nthrow, e_rtn, e_r0, e_r1, e_dv, iI_add, iI_sub, iI_mul, iI_neg, iI_div, iI_rem, iI_lt, iI_le, iI_eq, b_eq0, b_eq1, Int.reduceAdd, Int.reduceMul, Int.reduceSub, Int.reduceNeg, Int.reduceDiv, Int.reduceMod, Nat.reduceAdd, Bool.false_eq_true, eq_self, ltT, ltF, leT, leF, eqT, eqF, true_and, and_true, false_and, and_false, and_self, or_true, true_or, or_false, false_or, ne_eq, not_true_eq_false, not_false_eq_true, if_true, if_false, ite_true, ite_false, ite_not, some_none, some_some, none_some, none_none, li_0, li_1, li_2, li_3, li_4, li_5, li_6, li_7, li_8, li_9, li_10, li_11, li_12, li_13, li_14, li_15, li_16, li_17, li_18, li_19, li_20, li_21, li_22, li_23, li_24, li_25, li_26, li_27, li_28, li_29, li_30, li_31, li_32, li_63, li_64, li_99, li_100, li_128, li_240, li_256, li_512, li_960, li_1000, li_1022, li_1023, li_100000, li_m1, li_m1000, ↓m_g0 MR_Hm, ↓m_g1 MR_Hm, ↓m_g2 MR_Hm, ↓m_g3 MR_Hm, ↓m_g4 MR_Hm, ↓m_g5 MR_Hm, ↓m_g6 MR_Hm, ↓m_g7 MR_Hm, ↓m_g8 MR_Hm, ↓m_g9 MR_Hm, ↓m_g10 MR_Hm, ↓m_g11 MR_Hm, ↓m_g12 MR_Hm, ↓m_g13 MR_Hm, ↓m_g14 MR_Hm, ↓m_g15 MR_Hm, ↓m_g16 MR_Hm, ↓m_g17 MR_Hm, ↓m_g18 MR_Hm, ↓m_g19 MR_Hm, ↓m_g20 MR_Hm, ↓m_g21 MR_Hm, ↓m_g22 MR_Hm, ↓m_g23 MR_Hm, ↓m_g24 MR_Hm, ↓m_g25 MR_Hm, ↓m_g26 MR_Hm, ↓m_g27 MR_Hm, ↓m_ld0 MR_Hm, ↓m_ld1 MR_Hm, ↓m_ld2 MR_Hm, ↓m_ld3 MR_Hm, ↓m_ld4 MR_Hm, ↓m_ld5 MR_Hm, ↓m_ld6 MR_Hm, ↓m_ld7 MR_Hm, ↓m_ld8 MR_Hm, ↓m_ld9 MR_Hm, ↓m_ld10 MR_Hm, ↓m_ld11 MR_Hm, ↓m_ld12 MR_Hm, ↓m_ld13 MR_Hm, ↓m_ld14 MR_Hm, ↓m_ld15 MR_Hm, ↓m_ld16 MR_Hm, ↓m_ld17 MR_Hm, ↓m_ld18 MR_Hm, ↓m_ld19 MR_Hm, ↓m_rcv MR_Hm, ↓m_s0, ↓m_s1, ↓m_s2, ↓m_s3, ↓m_s4, ↓m_s5, ↓m_s6, ↓m_s7, ↓m_s8, ↓m_s9, ↓m_s10, ↓m_s11, ↓m_s12, ↓m_s13, ↓m_s14, ↓m_s15, ↓m_s16, ↓m_s17, ↓m_s18, ↓m_s19, ↓m_p0, ↓m_p1, ↓m_p2, ↓m_p3, ↓m_p4, ↓m_p5, ↓m_p6, ↓m_p7, hg, ↓r1, ↓u_j_X9_repairs_35]
    · rw [d] at r1
      have h8 : upS (rmS S q ((k + 1 : Nat) : Int)) 8 k 0 = rmS S q ((k + 1 : Nat) : Int) := by
        have e : rmS S q ((k + 1 : Nat) : Int) 8 k = 0 := by rw [rmS_g (by decide)]; exact hq k (by omega) d
        have := upN (S := rmS S q ((k + 1 : Nat) : Int)) (f := 8) (i := (k : Int))
        rw [e] at this
        exact this
      have h14 := rmS_1 S q k d
      simp -implicitDefEqProofs (disch := omega) only [↓reduceIte, ↓e_lets, ↓e_ite, ↓e_cal, e_cal2, e_cal3, e_thr, e_nthrow, e_rtn, e_r0, e_r1, e_dv, iI_add, iI_sub, iI_mul, iI_neg, iI_div, iI_rem, iI_lt, iI_le, iI_eq, b_eq0, b_eq1, Int.reduceAdd, Int.reduceMul, Int.reduceSub, Int.reduceNeg, Int.reduceDiv, Int.reduceMod, Nat.reduceAdd, Bool.false_eq_true, eq_self, ltT, ltF, leT, leF, eqT, eqF, true_and, and_true, false_and, and_false, and_self, or_true, true_or, or_false, false_or, ne_eq, not_true_eq_false, not_false_eq_true, if_true, if_false, ite_true, ite_false, ite_not, some_none, some_some, none_some, none_none, li_0, li_1, li_2, li_3, li_4, li_5, li_6, li_7, li_8, li_9, li_10, li_11, li_12, li_13, li_14, li_15, li_16, li_17, li_18, li_19, li_20, li_21, li_22, li_23, li_24, li_25, li_26, li_27, li_28, li_29, li_30, li_31, li_32, li_63, li_64, li_99, li_100, li_128, li_240, li_256, li_512, li_960, li_1000, li_1022, li_1023, li_100000, li_m1, li_m1000, ↓m_g0 MR_Hm, ↓m_g1 MR_Hm, ↓m_g2 MR_Hm, ↓m_g3 MR_Hm, ↓m_g4 MR_Hm, ↓m_g5 MR_Hm, ↓m_g6 MR_Hm, ↓m_g7 MR_Hm, ↓m_g8 MR_Hm, ↓m_g9 MR_Hm, ↓m_g10 MR_Hm, ↓m_g11 MR_Hm, ↓m_g12 MR_Hm, ↓m_g13 MR_Hm, ↓m_g14 MR_Hm, ↓m_g15 MR_Hm, ↓m_g16 MR_Hm, ↓m_g17 MR_Hm, ↓m_g18 MR_Hm, ↓m_g19 MR_Hm, ↓m_g20 MR_Hm, ↓m_g21 MR_Hm, ↓m_g22 MR_Hm, ↓m_g23 MR_Hm, ↓m_g24 MR_Hm, ↓m_g25 MR_Hm, ↓m_g26 MR_Hm, ↓m_g27 MR_Hm, ↓m_ld0 MR_Hm, ↓m_ld1 MR_Hm, ↓m_ld2 MR_Hm, ↓m_ld3 MR_Hm, ↓m_ld4 MR_Hm, ↓m_ld5 MR_Hm, ↓m_ld6 MR_Hm, ↓m_ld7 MR_Hm, ↓m_ld8 MR_Hm, ↓m_ld9 MR_Hm, ↓m_ld10 MR_Hm, ↓m_ld11 MR_Hm, ↓m_ld12 MR_Hm, ↓m_ld13 MR_Hm, ↓m_ld14 MR_Hm, ↓m_ld15 MR_Hm, ↓m_ld16 MR_Hm, ↓m_ld17 MR_Hm, ↓m_ld18 MR_Hm, ↓m_ld19 MR_Hm, ↓m_rcv MR_Hm, ↓m_s0, ↓m_s1, ↓m_s2, ↓m_s3, ↓m_s4, ↓m_s5, ↓m_s6, ↓m_s7, ↓m_s8, ↓m_s9, ↓m_s10, ↓m_s11, ↓m_s12, ↓m_s13, ↓m_s14, ↓m_s15, ↓m_s16, ↓m_s17, ↓m_s18, ↓m_s19, ↓m_p0, ↓m_p1, ↓m_p2, ↓m_p3, ↓m_p4, ↓m_p5, ↓m_p6, ↓m_p7, hg, ↓r1, h14, h8, ↓u_j_X9_repairs_35]
  · show L_X9_repairs_4 (some m0) (some a) a2 Kc (f + 1) (iI (((S 20 4).toNat : Nat) : Int)) (Hm m0 P (rmS S q (((S 20 4).toNat : Nat) : Int)), z) = _
    have hg : rmS S q (S 20 4) 20 = S 20 := rmS_g (by decide)
    rw [h9, u_L_X9_repairs_4]
    simp -implicitDefEqProofs (disch := omega) only [↓reduceIte, ↓e_lets, ↓e_ite, ↓e_cal, e_cal2, e_cal3, e_thr, e_nthrow, e_rtn, e_r0, e_r1, e_dv, iI_add, iI_sub, iI_mul, iI_neg, iI_div, iI_rem, iI_lt, iI_le, iI_eq, b_eq0, b_eq1, Int.reduceAdd, Int.reduceMul, Int.reduceSub, Int.reduceNeg, Int.reduceDiv, Int.reduceMod, Nat.reduceAdd, Bool.false_eq_true, eq_self, ltT, ltF, leT, leF, eqT, eqF, true_and, and_true, false_and, and_false, and_self, or_true, true_or, or_false, false_or, ne_eq, not_true_eq_false, not_false_eq_true, if_true, if_false, ite_true, ite_false, ite_not, some_none, some_some, none_some, none_none, li_0, li_1, li_2, li_3, li_4, li_5, li_6, li_7, li_8, li_9, li_10, li_11, li_12, li_13, li_14, li_15, li_16, li_17, li_18, li_19, li_20, li_21, li_22, li_23, li_24, li_25, li_26, li_27, li_28, li_29, li_30, li_31, li_32, li_63, li_64, li_99, li_100, li_128, li_240, li_256, li_512, li_960, li_1000, li_1022, li_1023, li_100000, li_m1, li_m1000, ↓m_g0 MR_Hm, ↓m_g1 MR_Hm, ↓m_g2 MR_Hm, ↓m_g3 MR_Hm, ↓m_g4 MR_Hm, ↓m_g5 MR_Hm, ↓m_g6 MR_Hm, ↓m_g7 MR_Hm, ↓m_g8 MR_Hm, ↓m_g9 MR_Hm, ↓m_g10 MR_Hm, ↓m_g11 MR_Hm, ↓m_g12 MR_Hm, ↓m_g13 MR_Hm, ↓m_g14 MR_Hm, ↓m_g15 MR_Hm, ↓m_g16 MR_Hm, ↓m_g17 MR_Hm, ↓m_g18 MR_Hm, ↓m_g19 MR_Hm, ↓m_g20 MR_Hm, ↓m_g21 MR_Hm, ↓m_g22 MR_Hm, ↓m_g23 MR_Hm, ↓m_g24 MR_Hm, ↓m_g25 MR_Hm, ↓m_g26 MR_Hm, ↓m_g27 MR_Hm, ↓m_ld0 MR_Hm, ↓m_ld1 MR_Hm, ↓m_ld2 MR_Hm, ↓m_ld3 MR_Hm, ↓m_ld4 MR_Hm, ↓m_ld5 MR_Hm, ↓m_ld6 MR_Hm, ↓m_ld7 MR_Hm, ↓m_ld8 MR_Hm, ↓m_ld9 MR_Hm, ↓m_ld10 MR_Hm, ↓m_ld11 MR_Hm, ↓m_ld12 MR_Hm, ↓m_ld13 MR_Hm, ↓m_ld14 MR_Hm, ↓m_ld15 MR_Hm, ↓m_ld16 MR_Hm, ↓m_ld17 MR_Hm, ↓m_ld18 MR_Hm, ↓m_ld19 MR_Hm, ↓m_rcv MR_Hm, ↓m_s0, ↓m_s1, ↓m_s2, ↓m_s3, ↓m_s4, ↓m_s5, ↓m_s6, ↓m_s7, ↓m_s8, ↓m_s9, ↓m_s10, ↓m_s11, ↓m_s12, ↓m_s13, ↓m_s14, ↓m_s15, ↓m_s16, ↓m_s17, ↓m_s18, ↓m_s19, ↓m_p0, ↓m_p1, ↓m_p2, ↓m_p3, ↓m_p4, ↓m_p5, ↓m_p6, ↓m_p7, hg]
theorem e_L_re47 {m0 a : Nat} {z : Nat × Nat} (ha : m0 + 20 < a) (Kc : Int32 → OO Int32) : ∀ (f : Nat) (c : Int) (S : SS) (q : Nat → Bool) (P : Hp) (fuel : Nat), cntN q (S 20 4).toNat ≤ f → f < fuel → VS S → P a = some (bC q) → ∃ P2, L_X9_repairs_47 (some m0) (some a) Kc fuel (iI c) (iI (haQ S q)) (Hm m0 P S, z) = Kc (iI (c + cntN (fun k => q k && decide (reS f S q 14 k < 0)) (S 20 4).toNat)) (Hm m0 P2 (reS f S q), z) ∧ ∀ x, x ≠ a → P2 x = P x := by
  have base : ∀ (f : Nat) (c : Int) (S : SS) (q : Nat → Bool) (P : Hp) (fu : Nat), reS f S q = S → VS S → haQ S q < 0 → ∃ P2, L_X9_repairs_47 (some m0) (some a) Kc (fu + 1) (iI c) (iI (haQ S q)) (Hm m0 P S, z) = Kc (iI (c + cntN (fun k => q k && decide (reS f S q 14 k < 0)) (S 20 4).toNat)) (Hm m0 P2 (reS f S q), z) ∧ ∀ x, x ≠ a → P2 x = P x := by
    intro f c S q P fu hr hV hQ
    refine ⟨P, ?_, fun _ _ => rfl⟩
    have hQb := haQ_b S q hV.2.1
    rw [hr, cntN_z (fun k hk => by rw [amin_al _ hQ k hk]; rfl), Int.add_zero, u_L_X9_repairs_47]
    simp -implicitDefEqProofs (disch := omega) only [↓reduceIte, ↓e_lets, ↓e_ite, ↓e_cal, e_cal2, e_cal3, e_thr, e_nthrow, e_rtn, e_r0, e_r1, e_dv, iI_add, iI_sub, iI_mul, iI_neg, iI_div, iI_rem, iI_lt, iI_le, iI_eq, b_eq0, b_eq1, Int.reduceAdd, Int.reduceMul, Int.reduceSub, Int.reduceNeg, Int.reduceDiv, Int.reduceMod, Nat.reduceAdd, Bool.false_eq_true, eq_self, ltT, ltF, leT, leF, eqT, eqF, true_and, and_true, false_and, and_false, and_self, or_true, true_or, or_false, false_or, ne_eq, not_true_eq_false, not_false_eq_true, if_true, if_false, ite_true, ite_false, ite_not, some_none, some_some, none_some, none_none, li_0, li_1, li_2, li_3, li_4, li_5, li_6, li_7, li_8, li_9, li_10, li_11, li_12, li_13, li_14, li_15, li_16, li_17, li_18, li_19, li_20, li_21, li_22, li_23, li_24, li_25, li_26, li_27, li_28, li_29, li_30, li_31, li_32, li_63, li_64, li_99, li_100, li_128, li_240, li_256, li_512, li_960, li_1000, li_1022, li_1023, li_100000, li_m1, li_m1000, ↓m_g0 MR_Hm, ↓m_g1 MR_Hm, ↓m_g2 MR_Hm, ↓m_g3 MR_Hm, ↓m_g4 MR_Hm, ↓m_g5 MR_Hm, ↓m_g6 MR_Hm, ↓m_g7 MR_Hm, ↓m_g8 MR_Hm, ↓m_g9 MR_Hm, ↓m_g10 MR_Hm, ↓m_g11 MR_Hm, ↓m_g12 MR_Hm, ↓m_g13 MR_Hm, ↓m_g14 MR_Hm, ↓m_g15 MR_Hm, ↓m_g16 MR_Hm, ↓m_g17 MR_Hm, ↓m_g18 MR_Hm, ↓m_g19 MR_Hm, ↓m_g20 MR_Hm, ↓m_g21 MR_Hm, ↓m_g22 MR_Hm, ↓m_g23 MR_Hm, ↓m_g24 MR_Hm, ↓m_g25 MR_Hm, ↓m_g26 MR_Hm, ↓m_g27 MR_Hm, ↓m_ld0 MR_Hm, ↓m_ld1 MR_Hm, ↓m_ld2 MR_Hm, ↓m_ld3 MR_Hm, ↓m_ld4 MR_Hm, ↓m_ld5 MR_Hm, ↓m_ld6 MR_Hm, ↓m_ld7 MR_Hm, ↓m_ld8 MR_Hm, ↓m_ld9 MR_Hm, ↓m_ld10 MR_Hm, ↓m_ld11 MR_Hm, ↓m_ld12 MR_Hm, ↓m_ld13 MR_Hm, ↓m_ld14 MR_Hm, ↓m_ld15 MR_Hm, ↓m_ld16 MR_Hm, ↓m_ld17 MR_Hm, ↓m_ld18 MR_Hm, ↓m_ld19 MR_Hm, ↓m_rcv MR_Hm, ↓m_s0, ↓m_s1, ↓m_s2, ↓m_s3, ↓m_s4, ↓m_s5, ↓m_s6, ↓m_s7, ↓m_s8, ↓m_s9, ↓m_s10, ↓m_s11, ↓m_s12, ↓m_s13, ↓m_s14, ↓m_s15, ↓m_s16, ↓m_s17, ↓m_s18, ↓m_s19, ↓m_p0, ↓m_p1, ↓m_p2, ↓m_p3, ↓m_p4, ↓m_p5, ↓m_p6, ↓m_p7]
  intro f
  induction f with
  | zero =>
    intro c S q P fuel h1 h2 hV hP
    obtain ⟨fu, rfl⟩ : ∃ f, fuel = f + 1 := ⟨fuel - 1, by omega⟩
    refine base 0 c S q P fu rfl hV ?_
    have hQb := haQ_b S q hV.2.1
    by_cases d : haQ S q < 0
    · exact d
    · have h3 := haQ_p (S := S) (q := q) (by omega)
      have h4 := sumN_ge (f := fun k : Nat => if q k = true then (1 : Int) else 0) (S 20 4).toNat (fun k _ => by split <;> omega) (haQ S q).toNat (by omega)
      rw [if_pos h3] at h4
      have h5 : (1 : Int) ≤ cntN q (S 20 4).toNat := h4
      omega
  | succ f ih =>
    intro c S q P fuel h1 h2 hV hP
    obtain ⟨fu, rfl⟩ : ∃ f, fuel = f + 1 := ⟨fuel - 1, by omega⟩
    have eR : reS (f + 1) S q = if haQ S q < 0 then S else reS f (upS S 14 (haQ S q) (chP S (haQ S q) (-2))) (fun k => q k && !decide ((k : Int) = haQ S q)) := rfl
    by_cases d : haQ S q < 0
    · exact base (f + 1) c S q P fu (by rw [eR, if_pos d]) hV d
    · have hm2 := hV.2.1
      unfold Bm at hm2
      have hQb := haQ_b S q hV.2.1
      have hQp := haQ_p (S := S) (q := q) (by omega)
      have e1 := e_cheapestOf (m0 := m0) (P := hset P a (bC (fun k => q k && !decide ((k : Int) = haQ S q)))) (z := z) hV (l := haQ S q) (by omega) hQb.2
      have hch := chP_p hV (l := haQ S q) (x := -2) (by omega) hQb.2
      have hVc := VS_ch hV (l := haQ S q) (x := -2) (by omega) hQb.2
      have hqq : (Hm m0 P S, z).1 a = some (bC q) := by
        show Hm m0 P S a = _
        rw [Hm_out (Or.inr ha)]
        exact hP
      rw [if_neg d] at eR
      rw [eR]
      clear eR
      generalize haQ S q = l at *
      have r1 := fun K : OO Int32 => b_st hqq (i := l) (by omega) (by omega) (x := 0) (Or.inl rfl) (K := K)
      have e2 : (fun k => if k = l.toNat then decide ((0 : Int) = 1) else q k) = fun k : Nat => q k && !decide ((k : Int) = l) := by
        funext k
        by_cases w : k = l.toNat
        · rw [if_pos w, decide_eq_true (show (k : Int) = l by omega)]
          simp
        · rw [if_neg w, decide_eq_false (show ¬ (k : Int) = l by omega)]
          simp
      have r2 : ∀ K : OO Int32, stZ (some a) (iI l) (iI 0) K (Hm m0 P S, z) = K (Hm m0 (hset P a (bC (fun k : Nat => q k && !decide ((k : Int) = l)))) S, z) := fun K => by
        rw [r1, e2]
        show K (hset (Hm m0 P S) a _, z) = _
        rw [Hm_hset (Or.inr ha)]
      have e3 := e_X9_isPlaced (MR_Hm (m0 := m0) (P := hset P a (bC (fun k : Nat => q k && !decide ((k : Int) = l)))) (S := upS S 14 l (chP S l (-2))) (z := z)) (l := l) (by omega) (by omega) (by rw [upS_s]; omega)
      rw [upS_s] at e3
      have hq2 : (Hm m0 (hset P a (bC (fun k : Nat => q k && !decide ((k : Int) = l)))) (upS S 14 l (chP S l (-2))), z).1 a = some (bC (fun k : Nat => q k && !decide ((k : Int) = l))) := by
        show Hm m0 _ _ a = _
        rw [Hm_out (Or.inr ha), hset_s]
      have e4 := e_X9_hardestOf (MR_Hm (m0 := m0) (P := hset P a (bC (fun k : Nat => q k && !decide ((k : Int) = l)))) (S := upS S 14 l (chP S l (-2))) (z := z)) hVc hq2
      have s20 : upS S 14 l (chP S l (-2)) 20 = S 20 := upS_g (by decide)
      have hd := cntN_dec (p := q) (q := fun k => q k && !decide ((k : Int) = l)) (S 20 4).toNat l.toNat (fun k hk hne => by rw [decide_eq_false (show ¬ (k : Int) = l by omega)]; simp) (by omega) hQp (by rw [decide_eq_true (show ((l.toNat : Nat) : Int) = l by omega)]; simp)
      obtain ⟨P2, g1, g2⟩ := ih (c + (if chP S l (-2) < 0 then 1 else 0)) (upS S 14 l (chP S l (-2))) (fun k => q k && !decide ((k : Int) = l)) (hset P a (bC (fun k : Nat => q k && !decide ((k : Int) = l)))) fu (by rw [s20]; omega) (by omega) hVc hset_s
      rw [s20] at g1
      refine ⟨P2, ?_, fun x hx => (g2 x hx).trans (hset_n hx)⟩
      have hfin : c + (if chP S l (-2) < 0 then 1 else 0) + cntN (fun k => (q k && !decide ((k : Int) = l)) && decide (reS f (upS S 14 l (chP S l (-2))) (fun k => q k && !decide ((k : Int) = l)) 14 k < 0)) (S 20 4).toNat = c + cntN (fun k => q k && decide (reS f (upS S 14 l (chP S l (-2))) (fun k => q k && !decide ((k : Int) = l)) 14 k < 0)) (S 20 4).toNat := by
        have hne := reS_ne (k := l) (by omega) f (upS S 14 l (chP S l (-2))) (fun k => q k && !decide ((k : Int) = l)) (by
          show (q l.toNat && !decide (((l.toNat : Nat) : Int) = l)) = false
          rw [decide_eq_true (show ((l.toNat : Nat) : Int) = l by omega)]
          simp)
        rw [upS_s] at hne
        have h1 := cntN_one (p := fun k => q k && decide (reS f (upS S 14 l (chP S l (-2))) (fun k => q k && !decide ((k : Int) = l)) 14 k < 0)) (q := fun k => (q k && !decide ((k : Int) = l)) && decide (reS f (upS S 14 l (chP S l (-2))) (fun k => q k && !decide ((k : Int) = l)) 14 k < 0)) (n := (S 20 4).toNat) (j := l.toNat) (fun k hk hne => by
          show ((q k && !decide ((k : Int) = l)) && _) = (q k && _)
          rw [decide_eq_false (show ¬ (k : Int) = l by omega)]
          simp) (by omega) (by
          show ((q l.toNat && !decide (((l.toNat : Nat) : Int) = l)) && _) = false
          rw [decide_eq_true (show ((l.toNat : Nat) : Int) = l by omega)]
          simp)
        rw [h1]
        show _ = c + (_ + if (q l.toNat && decide (reS f (upS S 14 l (chP S l (-2))) (fun k => q k && !decide ((k : Int) = l)) 14 ((l.toNat : Nat) : Int) < 0)) = true then 1 else 0)
        rw [hQp, Bool.true_and, show ((l.toNat : Nat) : Int) = l by omega, hne]
        by_cases w : chP S l (-2) < 0
        · rw [if_pos w, decide_eq_true w, if_pos rfl]; omega
        · rw [if_neg w, decide_eq_false w, if_neg (by decide)]; omega
      rw [hfin] at g1
      refine Eq.trans ?_ g1
      rw [u_L_X9_repairs_47]
      by_cases w : chP S l (-2) < 0
      · rw [if_neg (by omega)] at e3
        rw [if_pos w]
        simp -implicitDefEqProofs (disch := omega) only [↓reduceIte, ↓e_lets, ↓e_ite, ↓e_cal, e_cal2, e_cal3, e_thr, e_nthrow, e_rtn, e_r0, e_r1, e_dv, iI_add, iI_sub, iI_mul, iI_neg, iI_div, iI_rem, iI_lt, iI_le, iI_eq, b_eq0, b_eq1, Int.reduceAdd, Int.reduceMul, Int.reduceSub, Int.reduceNeg, Int.reduceDiv, Int.reduceMod, Nat.reduceAdd, Bool.false_eq_true, eq_self, ltT, ltF, leT, leF, eqT, eqF, true_and, and_true, false_and, and_false, and_self, or_true, true_or, or_false, false_or, ne_eq, not_true_eq_false, not_false_eq_true, if_true, if_false, ite_true, ite_false, ite_not, some_none, some_some, none_some, none_none, li_0, li_1, li_2, li_3, li_4, li_5, li_6, li_7, li_8, li_9, li_10, li_11, li_12, li_13, li_14, li_15, li_16, li_17, li_18, li_19, li_20, li_21, li_22, li_23, li_24, li_25, li_26, li_27, li_28, li_29, li_30, li_31, li_32, li_63, li_64, li_99, li_100, li_128, li_240, li_256, li_512, li_960, li_1000, li_1022, li_1023, li_100000, li_m1, li_m1000, ↓m_g0 MR_Hm, ↓m_g1 MR_Hm, ↓m_g2 MR_Hm, ↓m_g3 MR_Hm, ↓m_g4 MR_Hm, ↓m_g5 MR_Hm, ↓m_g6 MR_Hm, ↓m_g7 MR_Hm, ↓m_g8 MR_Hm, ↓m_g9 MR_Hm, ↓m_g10 MR_Hm, ↓m_g11 MR_Hm, ↓m_g12 MR_Hm, ↓m_g13 MR_Hm, ↓m_g14 MR_Hm, ↓m_g15 MR_Hm, ↓m_g16 MR_Hm, ↓m_g17 MR_Hm, ↓m_g18 MR_Hm, ↓m_g19 MR_Hm, ↓m_g20 MR_Hm, ↓m_g21 MR_Hm, ↓m_g22 MR_Hm, ↓m_g23 MR_Hm, ↓m_g24 MR_Hm, ↓m_g25 MR_Hm, ↓m_g26 MR_Hm, ↓m_g27 MR_Hm, ↓m_ld0 MR_Hm, ↓m_ld1 MR_Hm, ↓m_ld2 MR_Hm, ↓m_ld3 MR_Hm, ↓m_ld4 MR_Hm, ↓m_ld5 MR_Hm, ↓m_ld6 MR_Hm, ↓m_ld7 MR_Hm, ↓m_ld8 MR_Hm, ↓m_ld9 MR_Hm, ↓m_ld10 MR_Hm, ↓m_ld11 MR_Hm, ↓m_ld12 MR_Hm, ↓m_ld13 MR_Hm, ↓m_ld14 MR_Hm, ↓m_ld15 MR_Hm, ↓m_ld16 MR_Hm, ↓m_ld17 MR_Hm, ↓m_ld18 MR_Hm, ↓m_ld19 MR_Hm, ↓m_rcv MR_Hm, ↓m_s0, ↓m_s1, ↓m_s2, ↓m_s3, ↓m_s4, ↓m_s5, ↓m_s6, ↓m_s7, ↓m_s8, ↓m_s9, ↓m_s10, ↓m_s11, ↓m_s12, ↓m_s13, ↓m_s14, ↓m_s15, ↓m_s16, ↓m_s17, ↓m_s18, ↓m_s19, ↓m_p0, ↓m_p1, ↓m_p2, ↓m_p3, ↓m_p4, ↓m_p5, ↓m_p6, ↓m_p7, ↓r2, e1, e3, e4, ↓u_j_X9_repairs_80]
      · rw [if_pos (by omega)] at e3
        rw [if_neg w]
        simp -implicitDefEqProofs (disch := omega) only [↓reduceIte, ↓e_lets, ↓e_ite, ↓e_cal, e_cal2, e_cal3, e_thr, e_nthrow, e_rtn, e_r0, e_r1, e_dv, iI_add, iI_sub, iI_mul, iI_neg, iI_div, iI_rem, iI_lt, iI_le, iI_eq, b_eq0, b_eq1, Int.reduceAdd, Int.reduceMul, Int.reduceSub, Int.reduceNeg, Int.reduceDiv, Int.reduceMod, Nat.reduceAdd, Bool.false_eq_true, eq_self, ltT, ltF, leT, leF, eqT, eqF, true_and, and_true, false_and, and_false, and_self, or_true, true_or, or_false, false_or, ne_eq, not_true_eq_false, not_false_eq_true, if_true, if_false, ite_true, ite_false, ite_not, some_none, some_some, none_some, none_none, li_0, li_1, li_2, li_3, li_4, li_5, li_6, li_7, li_8, li_9, li_10, li_11, li_12, li_13, li_14, li_15, li_16, li_17, li_18, li_19, li_20, li_21, li_22, li_23, li_24, li_25, li_26, li_27, li_28, li_29, li_30, li_31, li_32, li_63, li_64, li_99, li_100, li_128, li_240, li_256, li_512, li_960, li_1000, li_1022, li_1023, li_100000, li_m1, li_m1000, ↓m_g0 MR_Hm, ↓m_g1 MR_Hm, ↓m_g2 MR_Hm, ↓m_g3 MR_Hm, ↓m_g4 MR_Hm, ↓m_g5 MR_Hm, ↓m_g6 MR_Hm, ↓m_g7 MR_Hm, ↓m_g8 MR_Hm, ↓m_g9 MR_Hm, ↓m_g10 MR_Hm, ↓m_g11 MR_Hm, ↓m_g12 MR_Hm, ↓m_g13 MR_Hm, ↓m_g14 MR_Hm, ↓m_g15 MR_Hm, ↓m_g16 MR_Hm, ↓m_g17 MR_Hm, ↓m_g18 MR_Hm, ↓m_g19 MR_Hm, ↓m_g20 MR_Hm, ↓m_g21 MR_Hm, ↓m_g22 MR_Hm, ↓m_g23 MR_Hm, ↓m_g24 MR_Hm, ↓m_g25 MR_Hm, ↓m_g26 MR_Hm, ↓m_g27 MR_Hm, ↓m_ld0 MR_Hm, ↓m_ld1 MR_Hm, ↓m_ld2 MR_Hm, ↓m_ld3 MR_Hm, ↓m_ld4 MR_Hm, ↓m_ld5 MR_Hm, ↓m_ld6 MR_Hm, ↓m_ld7 MR_Hm, ↓m_ld8 MR_Hm, ↓m_ld9 MR_Hm, ↓m_ld10 MR_Hm, ↓m_ld11 MR_Hm, ↓m_ld12 MR_Hm, ↓m_ld13 MR_Hm, ↓m_ld14 MR_Hm, ↓m_ld15 MR_Hm, ↓m_ld16 MR_Hm, ↓m_ld17 MR_Hm, ↓m_ld18 MR_Hm, ↓m_ld19 MR_Hm, ↓m_rcv MR_Hm, ↓m_s0, ↓m_s1, ↓m_s2, ↓m_s3, ↓m_s4, ↓m_s5, ↓m_s6, ↓m_s7, ↓m_s8, ↓m_s9, ↓m_s10, ↓m_s11, ↓m_s12, ↓m_s13, ↓m_s14, ↓m_s15, ↓m_s16, ↓m_s17, ↓m_s18, ↓m_s19, ↓m_p0, ↓m_p1, ↓m_p2, ↓m_p3, ↓m_p4, ↓m_p5, ↓m_p6, ↓m_p7, ↓r2, e1, e3, e4, ↓u_j_X9_repairs_80]
theorem e_repairs {m0 : Nat} {P : Hp} {S : SS} {z : Nat × Nat} (hV : VS S) {a : Nat} (ha : m0 + 20 < a) {q : Nat → Bool} (hP : P a = some (bC q)) (hq : ∀ k : Nat, (k : Int) < S 20 4 → q k = true → S 8 k = 0) : ∃ P2, f_X9_repairs m0 (some a) (Hm m0 P S, z) = some (.ok (iI (rpV S q)), (Hm m0 P2 (rpS S q), z)) ∧ ∀ x, x ≠ a → P2 x = P x := by
  have hm2 := hV.2.1
  unfold Bm at hm2
  have h9 : (((S 20 4).toNat : Nat) : Int) = S 20 4 := by omega
  have hVr := VS_rm hV q (S 20 4).toNat (by omega)
  rw [h9] at hVr
  have hqq : (Hm m0 P (rmS S q (S 20 4)), z).1 a = some (bC q) := by
    show Hm m0 P _ a = _
    rw [Hm_out (Or.inr ha)]
    exact hP
  have e1 := e_X9_hardestOf (MR_Hm (m0 := m0) (P := P) (S := rmS S q (S 20 4)) (z := z)) hVr hqq
  have hcb := cntN_b q (S 20 4).toNat
  have s20 : rmS S q (S 20 4) 20 = S 20 := rmS_g (by decide)
  obtain ⟨P2, g1, g2⟩ := e_L_re47 (m0 := m0) (a := a) (z := z) ha (fun v19 => rtn v19) 16 0 (rmS S q (S 20 4)) q P 100000 (by rw [s20]; omega) (by decide) hVr hP
  rw [s20, Int.zero_add] at g1
  refine ⟨P2, ?_, g2⟩
  rw [u_f_X9_repairs, e_lets, e_lets, li_0, e_L_re4 hV.2.1 ha hP hq]
  refine Eq.trans ?_ g1
  simp -implicitDefEqProofs (disch := omega) only [↓reduceIte, ↓e_lets, ↓e_ite, ↓e_cal, e_cal2, e_cal3, e_thr, e_nthrow, e_rtn, e_r0, e_r1, e_dv, iI_add, iI_sub, iI_mul, iI_neg, iI_div, iI_rem, iI_lt, iI_le, iI_eq, b_eq0, b_eq1, Int.reduceAdd, Int.reduceMul, Int.reduceSub, Int.reduceNeg, Int.reduceDiv, Int.reduceMod, Nat.reduceAdd, Bool.false_eq_true, eq_self, ltT, ltF, leT, leF, eqT, eqF, true_and, and_true, false_and, and_false, and_self, or_true, true_or, or_false, false_or, ne_eq, not_true_eq_false, not_false_eq_true, if_true, if_false, ite_true, ite_false, ite_not, some_none, some_some, none_some, none_none, li_0, li_1, li_2, li_3, li_4, li_5, li_6, li_7, li_8, li_9, li_10, li_11, li_12, li_13, li_14, li_15, li_16, li_17, li_18, li_19, li_20, li_21, li_22, li_23, li_24, li_25, li_26, li_27, li_28, li_29, li_30, li_31, li_32, li_63, li_64, li_99, li_100, li_128, li_240, li_256, li_512, li_960, li_1000, li_1022, li_1023, li_100000, li_m1, li_m1000, ↓m_g0 MR_Hm, ↓m_g1 MR_Hm, ↓m_g2 MR_Hm, ↓m_g3 MR_Hm, ↓m_g4 MR_Hm, ↓m_g5 MR_Hm, ↓m_g6 MR_Hm, ↓m_g7 MR_Hm, ↓m_g8 MR_Hm, ↓m_g9 MR_Hm, ↓m_g10 MR_Hm, ↓m_g11 MR_Hm, ↓m_g12 MR_Hm, ↓m_g13 MR_Hm, ↓m_g14 MR_Hm, ↓m_g15 MR_Hm, ↓m_g16 MR_Hm, ↓m_g17 MR_Hm, ↓m_g18 MR_Hm, ↓m_g19 MR_Hm, ↓m_g20 MR_Hm, ↓m_g21 MR_Hm, ↓m_g22 MR_Hm, ↓m_g23 MR_Hm, ↓m_g24 MR_Hm, ↓m_g25 MR_Hm, ↓m_g26 MR_Hm, ↓m_g27 MR_Hm, ↓m_ld0 MR_Hm, ↓m_ld1 MR_Hm, ↓m_ld2 MR_Hm, ↓m_ld3 MR_Hm, ↓m_ld4 MR_Hm, ↓m_ld5 MR_Hm, ↓m_ld6 MR_Hm, ↓m_ld7 MR_Hm, ↓m_ld8 MR_Hm, ↓m_ld9 MR_Hm, ↓m_ld10 MR_Hm, ↓m_ld11 MR_Hm, ↓m_ld12 MR_Hm, ↓m_ld13 MR_Hm, ↓m_ld14 MR_Hm, ↓m_ld15 MR_Hm, ↓m_ld16 MR_Hm, ↓m_ld17 MR_Hm, ↓m_ld18 MR_Hm, ↓m_ld19 MR_Hm, ↓m_rcv MR_Hm, ↓m_s0, ↓m_s1, ↓m_s2, ↓m_s3, ↓m_s4, ↓m_s5, ↓m_s6, ↓m_s7, ↓m_s8, ↓m_s9, ↓m_s10, ↓m_s11, ↓m_s12, ↓m_s13, ↓m_s14, ↓m_s15, ↓m_s16, ↓m_s17, ↓m_s18, ↓m_s19, ↓m_p0, ↓m_p1, ↓m_p2, ↓m_p3, ↓m_p4, ↓m_p5, ↓m_p6, ↓m_p7, e1]
theorem e_hasLocked {S : SS} {m0 : Nat} {hs : Hs} (h : MR S m0 hs) (hV : VS S) {a : Nat} {q : Nat → Bool} (hq : hs.1 a = some (bC q)) : f_X9_hasLocked m0 (some a) hs = some (.ok (iI (if 0 ≤ fstN (fun k => q k && !decide (S 8 k = 0)) (S 20 4).toNat then 1 else 0)), hs) := by
  obtain ⟨hb, hm, hv⟩ := hV
  have hm2 := hm
  unfold Bm at hm2
  have h9 : (((S 20 4).toNat : Nat) : Int) = S 20 4 := by omega
  have hL := loopX (fun f (t : Int32) => L_X9_hasLocked_2 (some m0) (some a) (retZ (iI 1)) (retZ (iI 0)) f t hs) (fun m => iI (m : Int)) (fun k => q k && !decide (S 8 k = 0)) (S 20 4).toNat (fun _ => some (.ok (iI 1), hs)) (some (.ok (iI 0), hs)) (fun k f hk hp => ?_) (fun k f hk hp => ?_) (fun f => ?_) 100000 (by omega)
  · have e : f_X9_hasLocked m0 (some a) hs = L_X9_hasLocked_2 (some m0) (some a) (retZ (iI 1)) (retZ (iI 0)) 100000 (iI ((0 : Nat) : Int)) hs := by
      rw [u_f_X9_hasLocked, e_lets, li_0, li_1]
      rfl
    rw [e]
    refine hL.trans ?_
    by_cases c : fstN (fun k => q k && !decide (S 8 k = 0)) (S 20 4).toNat < 0
    · rw [if_pos c, if_neg (by omega)]
    · rw [if_neg c, if_pos (by omega)]
  · show L_X9_hasLocked_2 (some m0) (some a) (retZ (iI 1)) (retZ (iI 0)) (f + 1) (iI (k : Int)) hs = L_X9_hasLocked_2 (some m0) (some a) (retZ (iI 1)) (retZ (iI 0)) f (iI ((k : Int) + 1)) hs
    have r1 := fun K : Int32 → OO Int32 => b_ld hq (i := (k : Int)) (by omega) (by omega) (K := K)
    rw [Int.toNat_natCast] at r1
    have hk3 := hb (k : Int)
    rw [u_L_X9_hasLocked_2]
    cases d : q k
    · rw [d] at r1
      simp -implicitDefEqProofs (disch := omega) only [↓reduceIte, ↓e_lets, ↓e_ite, ↓e_cal, e_cal2, e_cal3, e_thr, e_nthrow, e_rtn, e_r0, e_r1, e_dv, iI_add, iI_sub, iI_mul, iI_neg, iI_div, iI_rem, iI_lt, iI_le, iI_eq, b_eq0, b_eq1, Int.reduceAdd, Int.reduceMul, Int.reduceSub, Int.reduceNeg, Int.reduceDiv, Int.reduceMod, Nat.reduceAdd, Bool.false_eq_true, eq_self, ltT, ltF, leT, leF, eqT, eqF, true_and, and_true, false_and, and_false, and_self, or_true, true_or, or_false, false_or, ne_eq, not_true_eq_false, not_false_eq_true, if_true, if_false, ite_true, ite_false, ite_not, some_none, some_some, none_some, none_none, li_0, li_1, li_2, li_3, li_4, li_5, li_6, li_7, li_8, li_9, li_10, li_11, li_12, li_13, li_14, li_15, li_16, li_17, li_18, li_19, li_20, li_21, li_22, li_23, li_24, li_25, li_26, li_27, li_28, li_29, li_30, li_31, li_32, li_63, li_64, li_99, li_100, li_128, li_240, li_256, li_512, li_960, li_1000, li_1022, li_1023, li_100000, li_m1, li_m1000, ↓m_g0 h, ↓m_g1 h, ↓m_g2 h, ↓m_g3 h, ↓m_g4 h, ↓m_g5 h, ↓m_g6 h, ↓m_g7 h, ↓m_g8 h, ↓m_g9 h, ↓m_g10 h, ↓m_g11 h, ↓m_g12 h, ↓m_g13 h, ↓m_g14 h, ↓m_g15 h, ↓m_g16 h, ↓m_g17 h, ↓m_g18 h, ↓m_g19 h, ↓m_g20 h, ↓m_g21 h, ↓m_g22 h, ↓m_g23 h, ↓m_g24 h, ↓m_g25 h, ↓m_g26 h, ↓m_g27 h, ↓m_ld0 h, ↓m_ld1 h, ↓m_ld2 h, ↓m_ld3 h, ↓m_ld4 h, ↓m_ld5 h, ↓m_ld6 h, ↓m_ld7 h, ↓m_ld8 h, ↓m_ld9 h, ↓m_ld10 h, ↓m_ld11 h, ↓m_ld12 h, ↓m_ld13 h, ↓m_ld14 h, ↓m_ld15 h, ↓m_ld16 h, ↓m_ld17 h, ↓m_ld18 h, ↓m_ld19 h, ↓m_rcv h, ↓r1, ↓u_j_X9_hasLocked_27]
    · rw [d] at r1
      rw [d, Bool.true_and, Bool.not_eq_false', decide_eq_true_eq] at hp
      simp -implicitDefEqProofs (disch := omega) only [↓reduceIte, ↓e_lets, ↓e_ite, ↓e_cal, e_cal2, e_cal3, e_thr, e_nthrow, e_rtn, e_r0, e_r1, e_dv, iI_add, iI_sub, iI_mul, iI_neg, iI_div, iI_rem, iI_lt, iI_le, iI_eq, b_eq0, b_eq1, Int.reduceAdd, Int.reduceMul, Int.reduceSub, Int.reduceNeg, Int.reduceDiv, Int.reduceMod, Nat.reduceAdd, Bool.false_eq_true, eq_self, ltT, ltF, leT, leF, eqT, eqF, true_and, and_true, false_and, and_false, and_self, or_true, true_or, or_false, false_or, ne_eq, not_true_eq_false, not_false_eq_true, if_true, if_false, ite_true, ite_false, ite_not, some_none, some_some, none_some, none_none, li_0, li_1, li_2, li_3, li_4, li_5, li_6, li_7, li_8, li_9, li_10, li_11, li_12, li_13, li_14, li_15, li_16, li_17, li_18, li_19, li_20, li_21, li_22, li_23, li_24, li_25, li_26, li_27, li_28, li_29, li_30, li_31, li_32, li_63, li_64, li_99, li_100, li_128, li_240, li_256, li_512, li_960, li_1000, li_1022, li_1023, li_100000, li_m1, li_m1000, ↓m_g0 h, ↓m_g1 h, ↓m_g2 h, ↓m_g3 h, ↓m_g4 h, ↓m_g5 h, ↓m_g6 h, ↓m_g7 h, ↓m_g8 h, ↓m_g9 h, ↓m_g10 h, ↓m_g11 h, ↓m_g12 h, ↓m_g13 h, ↓m_g14 h, ↓m_g15 h, ↓m_g16 h, ↓m_g17 h, ↓m_g18 h, ↓m_g19 h, ↓m_g20 h, ↓m_g21 h, ↓m_g22 h, ↓m_g23 h, ↓m_g24 h, ↓m_g25 h, ↓m_g26 h, ↓m_g27 h, ↓m_ld0 h, ↓m_ld1 h, ↓m_ld2 h, ↓m_ld3 h, ↓m_ld4 h, ↓m_ld5 h, ↓m_ld6 h, ↓m_ld7 h, ↓m_ld8 h, ↓m_ld9 h, ↓m_ld10 h, ↓m_ld11 h, ↓m_ld12 h, ↓m_ld13 h, ↓m_ld14 h, ↓m_ld15 h, ↓m_ld16 h, ↓m_ld17 h, ↓m_ld18 h, ↓m_ld19 h, ↓m_rcv h, ↓r1, ↓u_j_X9_hasLocked_27]
  · show L_X9_hasLocked_2 (some m0) (some a) (retZ (iI 1)) (retZ (iI 0)) (f + 1) (iI (k : Int)) hs = _
    have r1 := fun K : Int32 → OO Int32 => b_ld hq (i := (k : Int)) (by omega) (by omega) (K := K)
    rw [Int.toNat_natCast] at r1
    have hk3 := hb (k : Int)
    rw [Bool.and_eq_true, Bool.not_eq_true', decide_eq_false_iff_not] at hp
    rw [hp.1] at r1
    have hp2 := hp.2
    rw [u_L_X9_hasLocked_2]
    simp -implicitDefEqProofs (disch := omega) only [↓reduceIte, ↓e_lets, ↓e_ite, ↓e_cal, e_cal2, e_cal3, e_thr, e_nthrow, e_rtn, e_r0, e_r1, e_dv, iI_add, iI_sub, iI_mul, iI_neg, iI_div, iI_rem, iI_lt, iI_le, iI_eq, b_eq0, b_eq1, Int.reduceAdd, Int.reduceMul, Int.reduceSub, Int.reduceNeg, Int.reduceDiv, Int.reduceMod, Nat.reduceAdd, Bool.false_eq_true, eq_self, ltT, ltF, leT, leF, eqT, eqF, true_and, and_true, false_and, and_false, and_self, or_true, true_or, or_false, false_or, ne_eq, not_true_eq_false, not_false_eq_true, if_true, if_false, ite_true, ite_false, ite_not, some_none, some_some, none_some, none_none, li_0, li_1, li_2, li_3, li_4, li_5, li_6, li_7, li_8, li_9, li_10, li_11, li_12, li_13, li_14, li_15, li_16, li_17, li_18, li_19, li_20, li_21, li_22, li_23, li_24, li_25, li_26, li_27, li_28, li_29, li_30, li_31, li_32, li_63, li_64, li_99, li_100, li_128, li_240, li_256, li_512, li_960, li_1000, li_1022, li_1023, li_100000, li_m1, li_m1000, ↓m_g0 h, ↓m_g1 h, ↓m_g2 h, ↓m_g3 h, ↓m_g4 h, ↓m_g5 h, ↓m_g6 h, ↓m_g7 h, ↓m_g8 h, ↓m_g9 h, ↓m_g10 h, ↓m_g11 h, ↓m_g12 h, ↓m_g13 h, ↓m_g14 h, ↓m_g15 h, ↓m_g16 h, ↓m_g17 h, ↓m_g18 h, ↓m_g19 h, ↓m_g20 h, ↓m_g21 h, ↓m_g22 h, ↓m_g23 h, ↓m_g24 h, ↓m_g25 h, ↓m_g26 h, ↓m_g27 h, ↓m_ld0 h, ↓m_ld1 h, ↓m_ld2 h, ↓m_ld3 h, ↓m_ld4 h, ↓m_ld5 h, ↓m_ld6 h, ↓m_ld7 h, ↓m_ld8 h, ↓m_ld9 h, ↓m_ld10 h, ↓m_ld11 h, ↓m_ld12 h, ↓m_ld13 h, ↓m_ld14 h, ↓m_ld15 h, ↓m_ld16 h, ↓m_ld17 h, ↓m_ld18 h, ↓m_ld19 h, ↓m_rcv h, ↓r1, e_ret1]
  · show L_X9_hasLocked_2 (some m0) (some a) (retZ (iI 1)) (retZ (iI 0)) (f + 1) (iI (((S 20 4).toNat : Nat) : Int)) hs = _
    rw [h9, u_L_X9_hasLocked_2]
    simp -implicitDefEqProofs (disch := omega) only [↓reduceIte, ↓e_lets, ↓e_ite, ↓e_cal, e_cal2, e_cal3, e_thr, e_nthrow, e_rtn, e_r0, e_r1, e_dv, iI_add, iI_sub, iI_mul, iI_neg, iI_div, iI_rem, iI_lt, iI_le, iI_eq, b_eq0, b_eq1, Int.reduceAdd, Int.reduceMul, Int.reduceSub, Int.reduceNeg, Int.reduceDiv, Int.reduceMod, Nat.reduceAdd, Bool.false_eq_true, eq_self, ltT, ltF, leT, leF, eqT, eqF, true_and, and_true, false_and, and_false, and_self, or_true, true_or, or_false, false_or, ne_eq, not_true_eq_false, not_false_eq_true, if_true, if_false, ite_true, ite_false, ite_not, some_none, some_some, none_some, none_none, li_0, li_1, li_2, li_3, li_4, li_5, li_6, li_7, li_8, li_9, li_10, li_11, li_12, li_13, li_14, li_15, li_16, li_17, li_18, li_19, li_20, li_21, li_22, li_23, li_24, li_25, li_26, li_27, li_28, li_29, li_30, li_31, li_32, li_63, li_64, li_99, li_100, li_128, li_240, li_256, li_512, li_960, li_1000, li_1022, li_1023, li_100000, li_m1, li_m1000, ↓m_g0 h, ↓m_g1 h, ↓m_g2 h, ↓m_g3 h, ↓m_g4 h, ↓m_g5 h, ↓m_g6 h, ↓m_g7 h, ↓m_g8 h, ↓m_g9 h, ↓m_g10 h, ↓m_g11 h, ↓m_g12 h, ↓m_g13 h, ↓m_g14 h, ↓m_g15 h, ↓m_g16 h, ↓m_g17 h, ↓m_g18 h, ↓m_g19 h, ↓m_g20 h, ↓m_g21 h, ↓m_g22 h, ↓m_g23 h, ↓m_g24 h, ↓m_g25 h, ↓m_g26 h, ↓m_g27 h, ↓m_ld0 h, ↓m_ld1 h, ↓m_ld2 h, ↓m_ld3 h, ↓m_ld4 h, ↓m_ld5 h, ↓m_ld6 h, ↓m_ld7 h, ↓m_ld8 h, ↓m_ld9 h, ↓m_ld10 h, ↓m_ld11 h, ↓m_ld12 h, ↓m_ld13 h, ↓m_ld14 h, ↓m_ld15 h, ↓m_ld16 h, ↓m_ld17 h, ↓m_ld18 h, ↓m_ld19 h, ↓m_rcv h, e_ret0]
theorem e_setsFree {m0 : Nat} {P : Hp} {S : SS} {z : Nat × Nat} (hV : VS S) (hz : m0 + 20 < z.1) (ht : ∀ k : Nat, (k : Int) < S 20 4 → -1 ≤ S 17 k ∧ S 17 k < 240) : ∃ X, f_X9_setsFree m0 (Hm m0 P S, z) = some (.ok (), (Hm m0 (hset P z.1 (bC X)) (sfS (fun k => frB S k) (fun k => S 17 k) (rmS S (fun k => frB S k) (S 20 4)) (S 20 4).toNat), (z.1 + 1, z.2))) := by
  have hV0 := hV
  obtain ⟨hb, hm, hv⟩ := hV
  have hm2 := hm
  unfold Bm at hm2
  have h9 : (((S 20 4).toNat : Nat) : Int) = S 20 4 := by omega
  refine ⟨fun j => if j < (S 20 4).toNat then frB S j else false, ?_⟩
  rw [u_f_X9_setsFree, li_16, e_nw hz, e_lets, e_lets, li_0]
  have hL1 := fun Kc : OO Unit => row_go (fun f x hs => L_X9_setsFree_7 (some m0) (some z.1) Kc f x hs) (m0 := m0) (a := z.1) (P := P) (S := S) (z := (z.1 + 1, z.2)) (fun k => frB S k) (fun _ => false) (S 20 4).toNat Kc (fun k f W hk hW => by
    show L_X9_setsFree_7 (some m0) (some z.1) Kc (f + 1) (iI (k : Int)) _ = L_X9_setsFree_7 (some m0) (some z.1) Kc f (iI ((k : Int) + 1)) (Hm m0 (hset P z.1 (bC (fun j => if j = k then frB S k else W j))) S, (z.1 + 1, z.2))
    have hk3 := hb (k : Int)
    have e1 := e_X9_isPast (MR_Hm (m0 := m0) (P := hset P z.1 (bC W)) (S := S) (z := (z.1 + 1, z.2))) hb (l := (k : Int)) (by omega) (by omega) hm
    have s1 := fun K : OO Unit => b_st1 (m0 := m0) (P := P) (S := S) (z := (z.1 + 1, z.2)) (W := W) hz (k := k) (by omega) (K := K)
    have s0 := fun K : OO Unit => b_st0 (m0 := m0) (P := P) (S := S) (z := (z.1 + 1, z.2)) (W := W) hz (k := k) (by omega) (K := K)
    have hfr : frB S k = decide (S 8 k = 0 ∧ ¬ (0 ≤ S 14 k ∧ S 14 k / 8 / 6 < S 20 6)) := rfl
    rw [u_L_X9_setsFree_7]
    by_cases c : S 8 k = 0
    · by_cases d : 0 ≤ S 14 k ∧ S 14 k / 8 / 6 < S 20 6
      · rw [if_pos d] at e1
        rw [hfr, decide_eq_false (fun q => q.2 d)]
        simp -implicitDefEqProofs (disch := omega) only [↓reduceIte, ↓e_lets, ↓e_ite, ↓e_cal, e_cal2, e_cal3, e_thr, e_nthrow, e_rtn, e_r0, e_r1, e_dv, iI_add, iI_sub, iI_mul, iI_neg, iI_div, iI_rem, iI_lt, iI_le, iI_eq, b_eq0, b_eq1, Int.reduceAdd, Int.reduceMul, Int.reduceSub, Int.reduceNeg, Int.reduceDiv, Int.reduceMod, Nat.reduceAdd, Bool.false_eq_true, eq_self, ltT, ltF, leT, leF, eqT, eqF, true_and, and_true, false_and, and_false, and_self, or_true, true_or, or_false, false_or, ne_eq, not_true_eq_false, not_false_eq_true, if_true, if_false, ite_true, ite_false, ite_not, some_none, some_some, none_some, none_none, li_0, li_1, li_2, li_3, li_4, li_5, li_6, li_7, li_8, li_9, li_10, li_11, li_12, li_13, li_14, li_15, li_16, li_17, li_18, li_19, li_20, li_21, li_22, li_23, li_24, li_25, li_26, li_27, li_28, li_29, li_30, li_31, li_32, li_63, li_64, li_99, li_100, li_128, li_240, li_256, li_512, li_960, li_1000, li_1022, li_1023, li_100000, li_m1, li_m1000, ↓m_g0 MR_Hm, ↓m_g1 MR_Hm, ↓m_g2 MR_Hm, ↓m_g3 MR_Hm, ↓m_g4 MR_Hm, ↓m_g5 MR_Hm, ↓m_g6 MR_Hm, ↓m_g7 MR_Hm, ↓m_g8 MR_Hm, ↓m_g9 MR_Hm, ↓m_g10 MR_Hm, ↓m_g11 MR_Hm, ↓m_g12 MR_Hm, ↓m_g13 MR_Hm, ↓m_g14 MR_Hm, ↓m_g15 MR_Hm, ↓m_g16 MR_Hm, ↓m_g17 MR_Hm, ↓m_g18 MR_Hm, ↓m_g19 MR_Hm, ↓m_g20 MR_Hm, ↓m_g21 MR_Hm, ↓m_g22 MR_Hm, ↓m_g23 MR_Hm, ↓m_g24 MR_Hm, ↓m_g25 MR_Hm, ↓m_g26 MR_Hm, ↓m_g27 MR_Hm, ↓m_ld0 MR_Hm, ↓m_ld1 MR_Hm, ↓m_ld2 MR_Hm, ↓m_ld3 MR_Hm, ↓m_ld4 MR_Hm, ↓m_ld5 MR_Hm, ↓m_ld6 MR_Hm, ↓m_ld7 MR_Hm, ↓m_ld8 MR_Hm, ↓m_ld9 MR_Hm, ↓m_ld10 MR_Hm, ↓m_ld11 MR_Hm, ↓m_ld12 MR_Hm, ↓m_ld13 MR_Hm, ↓m_ld14 MR_Hm, ↓m_ld15 MR_Hm, ↓m_ld16 MR_Hm, ↓m_ld17 MR_Hm, ↓m_ld18 MR_Hm, ↓m_ld19 MR_Hm, ↓m_rcv MR_Hm, ↓m_s0, ↓m_s1, ↓m_s2, ↓m_s3, ↓m_s4, ↓m_s5, ↓m_s6, ↓m_s7, ↓m_s8, ↓m_s9, ↓m_s10, ↓m_s11, ↓m_s12, ↓m_s13, ↓m_s14, ↓m_s15, ↓m_s16, ↓m_s17, ↓m_s18, ↓m_s19, ↓m_p0, ↓m_p1, ↓m_p2, ↓m_p3, ↓m_p4, ↓m_p5, ↓m_p6, ↓m_p7, e1, ↓s1, ↓s0, ↓u_j_X9_setsFree_38, ↓u_j_X9_setsFree_39]
      · rw [if_neg d] at e1
        rw [hfr, decide_eq_true ⟨c, d⟩]
        simp -implicitDefEqProofs (disch := omega) only [↓reduceIte, ↓e_lets, ↓e_ite, ↓e_cal, e_cal2, e_cal3, e_thr, e_nthrow, e_rtn, e_r0, e_r1, e_dv, iI_add, iI_sub, iI_mul, iI_neg, iI_div, iI_rem, iI_lt, iI_le, iI_eq, b_eq0, b_eq1, Int.reduceAdd, Int.reduceMul, Int.reduceSub, Int.reduceNeg, Int.reduceDiv, Int.reduceMod, Nat.reduceAdd, Bool.false_eq_true, eq_self, ltT, ltF, leT, leF, eqT, eqF, true_and, and_true, false_and, and_false, and_self, or_true, true_or, or_false, false_or, ne_eq, not_true_eq_false, not_false_eq_true, if_true, if_false, ite_true, ite_false, ite_not, some_none, some_some, none_some, none_none, li_0, li_1, li_2, li_3, li_4, li_5, li_6, li_7, li_8, li_9, li_10, li_11, li_12, li_13, li_14, li_15, li_16, li_17, li_18, li_19, li_20, li_21, li_22, li_23, li_24, li_25, li_26, li_27, li_28, li_29, li_30, li_31, li_32, li_63, li_64, li_99, li_100, li_128, li_240, li_256, li_512, li_960, li_1000, li_1022, li_1023, li_100000, li_m1, li_m1000, ↓m_g0 MR_Hm, ↓m_g1 MR_Hm, ↓m_g2 MR_Hm, ↓m_g3 MR_Hm, ↓m_g4 MR_Hm, ↓m_g5 MR_Hm, ↓m_g6 MR_Hm, ↓m_g7 MR_Hm, ↓m_g8 MR_Hm, ↓m_g9 MR_Hm, ↓m_g10 MR_Hm, ↓m_g11 MR_Hm, ↓m_g12 MR_Hm, ↓m_g13 MR_Hm, ↓m_g14 MR_Hm, ↓m_g15 MR_Hm, ↓m_g16 MR_Hm, ↓m_g17 MR_Hm, ↓m_g18 MR_Hm, ↓m_g19 MR_Hm, ↓m_g20 MR_Hm, ↓m_g21 MR_Hm, ↓m_g22 MR_Hm, ↓m_g23 MR_Hm, ↓m_g24 MR_Hm, ↓m_g25 MR_Hm, ↓m_g26 MR_Hm, ↓m_g27 MR_Hm, ↓m_ld0 MR_Hm, ↓m_ld1 MR_Hm, ↓m_ld2 MR_Hm, ↓m_ld3 MR_Hm, ↓m_ld4 MR_Hm, ↓m_ld5 MR_Hm, ↓m_ld6 MR_Hm, ↓m_ld7 MR_Hm, ↓m_ld8 MR_Hm, ↓m_ld9 MR_Hm, ↓m_ld10 MR_Hm, ↓m_ld11 MR_Hm, ↓m_ld12 MR_Hm, ↓m_ld13 MR_Hm, ↓m_ld14 MR_Hm, ↓m_ld15 MR_Hm, ↓m_ld16 MR_Hm, ↓m_ld17 MR_Hm, ↓m_ld18 MR_Hm, ↓m_ld19 MR_Hm, ↓m_rcv MR_Hm, ↓m_s0, ↓m_s1, ↓m_s2, ↓m_s3, ↓m_s4, ↓m_s5, ↓m_s6, ↓m_s7, ↓m_s8, ↓m_s9, ↓m_s10, ↓m_s11, ↓m_s12, ↓m_s13, ↓m_s14, ↓m_s15, ↓m_s16, ↓m_s17, ↓m_s18, ↓m_s19, ↓m_p0, ↓m_p1, ↓m_p2, ↓m_p3, ↓m_p4, ↓m_p5, ↓m_p6, ↓m_p7, e1, ↓s1, ↓s0, ↓u_j_X9_setsFree_38, ↓u_j_X9_setsFree_39]
    · rw [hfr, decide_eq_false (fun q => c q.1)]
      simp -implicitDefEqProofs (disch := omega) only [↓reduceIte, ↓e_lets, ↓e_ite, ↓e_cal, e_cal2, e_cal3, e_thr, e_nthrow, e_rtn, e_r0, e_r1, e_dv, iI_add, iI_sub, iI_mul, iI_neg, iI_div, iI_rem, iI_lt, iI_le, iI_eq, b_eq0, b_eq1, Int.reduceAdd, Int.reduceMul, Int.reduceSub, Int.reduceNeg, Int.reduceDiv, Int.reduceMod, Nat.reduceAdd, Bool.false_eq_true, eq_self, ltT, ltF, leT, leF, eqT, eqF, true_and, and_true, false_and, and_false, and_self, or_true, true_or, or_false, false_or, ne_eq, not_true_eq_false, not_false_eq_true, if_true, if_false, ite_true, ite_false, ite_not, some_none, some_some, none_some, none_none, li_0, li_1, li_2, li_3, li_4, li_5, li_6, li_7, li_8, li_9, li_10, li_11, li_12, li_13, li_14, li_15, li_16, li_17, li_18, li_19, li_20, li_21, li_22, li_23, li_24, li_25, li_26, li_27, li_28, li_29, li_30, li_31, li_32, li_63, li_64, li_99, li_100, li_128, li_240, li_256, li_512, li_960, li_1000, li_1022, li_1023, li_100000, li_m1, li_m1000, ↓m_g0 MR_Hm, ↓m_g1 MR_Hm, ↓m_g2 MR_Hm, ↓m_g3 MR_Hm, ↓m_g4 MR_Hm, ↓m_g5 MR_Hm, ↓m_g6 MR_Hm, ↓m_g7 MR_Hm, ↓m_g8 MR_Hm, ↓m_g9 MR_Hm, ↓m_g10 MR_Hm, ↓m_g11 MR_Hm, ↓m_g12 MR_Hm, ↓m_g13 MR_Hm, ↓m_g14 MR_Hm, ↓m_g15 MR_Hm, ↓m_g16 MR_Hm, ↓m_g17 MR_Hm, ↓m_g18 MR_Hm, ↓m_g19 MR_Hm, ↓m_g20 MR_Hm, ↓m_g21 MR_Hm, ↓m_g22 MR_Hm, ↓m_g23 MR_Hm, ↓m_g24 MR_Hm, ↓m_g25 MR_Hm, ↓m_g26 MR_Hm, ↓m_g27 MR_Hm, ↓m_ld0 MR_Hm, ↓m_ld1 MR_Hm, ↓m_ld2 MR_Hm, ↓m_ld3 MR_Hm, ↓m_ld4 MR_Hm, ↓m_ld5 MR_Hm, ↓m_ld6 MR_Hm, ↓m_ld7 MR_Hm, ↓m_ld8 MR_Hm, ↓m_ld9 MR_Hm, ↓m_ld10 MR_Hm, ↓m_ld11 MR_Hm, ↓m_ld12 MR_Hm, ↓m_ld13 MR_Hm, ↓m_ld14 MR_Hm, ↓m_ld15 MR_Hm, ↓m_ld16 MR_Hm, ↓m_ld17 MR_Hm, ↓m_ld18 MR_Hm, ↓m_ld19 MR_Hm, ↓m_rcv MR_Hm, ↓m_s0, ↓m_s1, ↓m_s2, ↓m_s3, ↓m_s4, ↓m_s5, ↓m_s6, ↓m_s7, ↓m_s8, ↓m_s9, ↓m_s10, ↓m_s11, ↓m_s12, ↓m_s13, ↓m_s14, ↓m_s15, ↓m_s16, ↓m_s17, ↓m_s18, ↓m_s19, ↓m_p0, ↓m_p1, ↓m_p2, ↓m_p3, ↓m_p4, ↓m_p5, ↓m_p6, ↓m_p7, e1, ↓s1, ↓s0, ↓u_j_X9_setsFree_38, ↓u_j_X9_setsFree_39]) (fun f W => by
    show L_X9_setsFree_7 (some m0) (some z.1) Kc (f + 1) (iI (((S 20 4).toNat : Nat) : Int)) _ = _
    rw [h9, u_L_X9_setsFree_7]
    simp -implicitDefEqProofs (disch := omega) only [↓reduceIte, ↓e_lets, ↓e_ite, ↓e_cal, e_cal2, e_cal3, e_thr, e_nthrow, e_rtn, e_r0, e_r1, e_dv, iI_add, iI_sub, iI_mul, iI_neg, iI_div, iI_rem, iI_lt, iI_le, iI_eq, b_eq0, b_eq1, Int.reduceAdd, Int.reduceMul, Int.reduceSub, Int.reduceNeg, Int.reduceDiv, Int.reduceMod, Nat.reduceAdd, Bool.false_eq_true, eq_self, ltT, ltF, leT, leF, eqT, eqF, true_and, and_true, false_and, and_false, and_self, or_true, true_or, or_false, false_or, ne_eq, not_true_eq_false, not_false_eq_true, if_true, if_false, ite_true, ite_false, ite_not, some_none, some_some, none_some, none_none, li_0, li_1, li_2, li_3, li_4, li_5, li_6, li_7, li_8, li_9, li_10, li_11, li_12, li_13, li_14, li_15, li_16, li_17, li_18, li_19, li_20, li_21, li_22, li_23, li_24, li_25, li_26, li_27, li_28, li_29, li_30, li_31, li_32, li_63, li_64, li_99, li_100, li_128, li_240, li_256, li_512, li_960, li_1000, li_1022, li_1023, li_100000, li_m1, li_m1000, ↓m_g0 MR_Hm, ↓m_g1 MR_Hm, ↓m_g2 MR_Hm, ↓m_g3 MR_Hm, ↓m_g4 MR_Hm, ↓m_g5 MR_Hm, ↓m_g6 MR_Hm, ↓m_g7 MR_Hm, ↓m_g8 MR_Hm, ↓m_g9 MR_Hm, ↓m_g10 MR_Hm, ↓m_g11 MR_Hm, ↓m_g12 MR_Hm, ↓m_g13 MR_Hm, ↓m_g14 MR_Hm, ↓m_g15 MR_Hm, ↓m_g16 MR_Hm, ↓m_g17 MR_Hm, ↓m_g18 MR_Hm, ↓m_g19 MR_Hm, ↓m_g20 MR_Hm, ↓m_g21 MR_Hm, ↓m_g22 MR_Hm, ↓m_g23 MR_Hm, ↓m_g24 MR_Hm, ↓m_g25 MR_Hm, ↓m_g26 MR_Hm, ↓m_g27 MR_Hm, ↓m_ld0 MR_Hm, ↓m_ld1 MR_Hm, ↓m_ld2 MR_Hm, ↓m_ld3 MR_Hm, ↓m_ld4 MR_Hm, ↓m_ld5 MR_Hm, ↓m_ld6 MR_Hm, ↓m_ld7 MR_Hm, ↓m_ld8 MR_Hm, ↓m_ld9 MR_Hm, ↓m_ld10 MR_Hm, ↓m_ld11 MR_Hm, ↓m_ld12 MR_Hm, ↓m_ld13 MR_Hm, ↓m_ld14 MR_Hm, ↓m_ld15 MR_Hm, ↓m_ld16 MR_Hm, ↓m_ld17 MR_Hm, ↓m_ld18 MR_Hm, ↓m_ld19 MR_Hm, ↓m_rcv MR_Hm, ↓m_s0, ↓m_s1, ↓m_s2, ↓m_s3, ↓m_s4, ↓m_s5, ↓m_s6, ↓m_s7, ↓m_s8, ↓m_s9, ↓m_s10, ↓m_s11, ↓m_s12, ↓m_s13, ↓m_s14, ↓m_s15, ↓m_s16, ↓m_s17, ↓m_s18, ↓m_s19, ↓m_p0, ↓m_p1, ↓m_p2, ↓m_p3, ↓m_p4, ↓m_p5, ↓m_p6, ↓m_p7]) 100000 (by omega)
  rw [hL1]
  generalize hX : (fun j : Nat => if j < (S 20 4).toNat then frB S j else false) = X
  have hXk : ∀ k : Nat, k < (S 20 4).toNat → X k = frB S k := fun k hk => by rw [← hX]; exact if_pos hk
  have hL2 : ∀ Kc : OO Unit, L_X9_setsFree_48 (some m0) (some z.1) Kc 100000 (iI 0) (Hm m0 (hset P z.1 (bC X)) S, (z.1 + 1, z.2)) = Kc (Hm m0 (hset P z.1 (bC X)) (rmS S (fun k => frB S k) (S 20 4)), (z.1 + 1, z.2)) := fun Kc => by
    have hL := loopD (fun f (t : Int32 × SS) => L_X9_setsFree_48 (some m0) (some z.1) Kc f t.1 (Hm m0 (hset P z.1 (bC X)) t.2, (z.1 + 1, z.2))) (fun m => (iI (m : Int), rmS S (fun k => frB S k) (m : Int))) (S 20 4).toNat (Kc (Hm m0 (hset P z.1 (bC X)) (rmS S (fun k => frB S k) (S 20 4)), (z.1 + 1, z.2))) (fun k f hk => ?_) (fun f => ?_) 100000 (by omega)
    · have e0 : rmS S (fun k => frB S k) ((0 : Nat) : Int) = S := rmS_0 S _
      simp only [e0] at hL
      exact hL
    · show L_X9_setsFree_48 (some m0) (some z.1) Kc (f + 1) (iI (k : Int)) (Hm m0 (hset P z.1 (bC X)) (rmS S (fun k => frB S k) (k : Int)), (z.1 + 1, z.2)) = L_X9_setsFree_48 (some m0) (some z.1) Kc f (iI ((k : Int) + 1)) (Hm m0 (hset P z.1 (bC X)) (rmS S (fun k => frB S k) ((k + 1 : Nat) : Int)), (z.1 + 1, z.2))
      have hg : rmS S (fun k => frB S k) (k : Int) 20 = S 20 := rmS_g (by decide)
      have r1 := fun K : Int32 → OO Unit => b_ldH (m0 := m0) (P := P) (S := rmS S (fun k => frB S k) (k : Int)) (z := (z.1 + 1, z.2)) (W := X) hz (k := k) (by omega) (K := K)
      rw [hXk k hk] at r1
      rw [u_L_X9_setsFree_48]
      cases d : frB S k
      · rw [d] at r1
        rw [rmS_2 S (fun k => frB S k) k d]
        simp -implicitDefEqProofs (disch := omega) only [↓reduceIte, ↓e_lets, ↓e_ite, ↓e_cal, e_cal2, e_cal3, e_thr, e_nthrow, e_rtn, e_r0, e_r1, e_dv, iI_add, iI_sub, iI_mul, iI_neg, iI_div, iI_rem, iI_lt, iI_le, iI_eq, b_eq0, b_eq1, Int.reduceAdd, Int.reduceMul, Int.reduceSub, Int.reduceNeg, Int.reduceDiv, Int.reduceMod, Nat.reduceAdd, Bool.false_eq_true, eq_self, ltT, ltF, leT, leF, eqT, eqF, true_and, and_true, false_and, and_false, and_self, or_true, true_or, or_false, false_or, ne_eq, not_true_eq_false, not_false_eq_true, if_true, if_false, ite_true, ite_false, ite_not, some_none, some_some, none_some, none_none, li_0, li_1, li_2, li_3, li_4, li_5, li_6, li_7, li_8, li_9, li_10, li_11, li_12, li_13, li_14, li_15, li_16, li_17, li_18, li_19, li_20, li_21, li_22, li_23, li_24, li_25, li_26, li_27, li_28, li_29, li_30, li_31, li_32, li_63, li_64, li_99, li_100, li_128, li_240, li_256, li_512, li_960, li_1000, li_1022, li_1023, li_100000, li_m1, li_m1000, ↓m_g0 MR_Hm, ↓m_g1 MR_Hm, ↓m_g2 MR_Hm, ↓m_g3 MR_Hm, ↓m_g4 MR_Hm, ↓m_g5 MR_Hm, ↓m_g6 MR_Hm, ↓m_g7 MR_Hm, ↓m_g8 MR_Hm, ↓m_g9 MR_Hm, ↓m_g10 MR_Hm, ↓m_g11 MR_Hm, ↓m_g12 MR_Hm, ↓m_g13 MR_Hm, ↓m_g14 MR_Hm, ↓m_g15 MR_Hm, ↓m_g16 MR_Hm, ↓m_g17 MR_Hm, ↓m_g18 MR_Hm, ↓m_g19 MR_Hm, ↓m_g20 MR_Hm, ↓m_g21 MR_Hm, ↓m_g22 MR_Hm, ↓m_g23 MR_Hm, ↓m_g24 MR_Hm, ↓m_g25 MR_Hm, ↓m_g26 MR_Hm, ↓m_g27 MR_Hm, ↓m_ld0 MR_Hm, ↓m_ld1 MR_Hm, ↓m_ld2 MR_Hm, ↓m_ld3 MR_Hm, ↓m_ld4 MR_Hm, ↓m_ld5 MR_Hm, ↓m_ld6 MR_Hm, ↓m_ld7 MR_Hm, ↓m_ld8 MR_Hm, ↓m_ld9 MR_Hm, ↓m_ld10 MR_Hm, ↓m_ld11 MR_Hm, ↓m_ld12 MR_Hm, ↓m_ld13 MR_Hm, ↓m_ld14 MR_Hm, ↓m_ld15 MR_Hm, ↓m_ld16 MR_Hm, ↓m_ld17 MR_Hm, ↓m_ld18 MR_Hm, ↓m_ld19 MR_Hm, ↓m_rcv MR_Hm, ↓m_s0, ↓m_s1, ↓m_s2, ↓m_s3, ↓m_s4, ↓m_s5, ↓m_s6, ↓m_s7, ↓m_s8, ↓m_s9, ↓m_s10, ↓m_s11, ↓m_s12, ↓m_s13, ↓m_s14, ↓m_s15, ↓m_s16, ↓m_s17, ↓m_s18, ↓m_s19, ↓m_p0, ↓m_p1, ↓m_p2, ↓m_p3, ↓m_p4, ↓m_p5, ↓m_p6, ↓m_p7, hg, ↓r1, ↓u_j_X9_setsFree_69]
      · rw [d] at r1
        rw [← rmS_1 S (fun k => frB S k) k d]
        simp -implicitDefEqProofs (disch := omega) only [↓reduceIte, ↓e_lets, ↓e_ite, ↓e_cal, e_cal2, e_cal3, e_thr, e_nthrow, e_rtn, e_r0, e_r1, e_dv, iI_add, iI_sub, iI_mul, iI_neg, iI_div, iI_rem, iI_lt, iI_le, iI_eq, b_eq0, b_eq1, Int.reduceAdd, Int.reduceMul, Int.reduceSub, Int.reduceNeg, Int.reduceDiv, Int.reduceMod, Nat.reduceAdd, Bool.false_eq_true, eq_self, ltT, ltF, leT, leF, eqT, eqF, true_and, and_true, false_and, and_false, and_self, or_true, true_or, or_false, false_or, ne_eq, not_true_eq_false, not_false_eq_true, if_true, if_false, ite_true, ite_false, ite_not, some_none, some_some, none_some, none_none, li_0, li_1, li_2, li_3, li_4, li_5, li_6, li_7, li_8, li_9, li_10, li_11, li_12, li_13, li_14, li_15, li_16, li_17, li_18, li_19, li_20, li_21, li_22, li_23, li_24, li_25, li_26, li_27, li_28, li_29, li_30, li_31, li_32, li_63, li_64, li_99, li_100, li_128, li_240, li_256, li_512, li_960, li_1000, li_1022, li_1023, li_100000, li_m1, li_m1000, ↓m_g0 MR_Hm, ↓m_g1 MR_Hm, ↓m_g2 MR_Hm, ↓m_g3 MR_Hm, ↓m_g4 MR_Hm, ↓m_g5 MR_Hm, ↓m_g6 MR_Hm, ↓m_g7 MR_Hm, ↓m_g8 MR_Hm, ↓m_g9 MR_Hm, ↓m_g10 MR_Hm, ↓m_g11 MR_Hm, ↓m_g12 MR_Hm, ↓m_g13 MR_Hm, ↓m_g14 MR_Hm, ↓m_g15 MR_Hm, ↓m_g16 MR_Hm, ↓m_g17 MR_Hm, ↓m_g18 MR_Hm, ↓m_g19 MR_Hm, ↓m_g20 MR_Hm, ↓m_g21 MR_Hm, ↓m_g22 MR_Hm, ↓m_g23 MR_Hm, ↓m_g24 MR_Hm, ↓m_g25 MR_Hm, ↓m_g26 MR_Hm, ↓m_g27 MR_Hm, ↓m_ld0 MR_Hm, ↓m_ld1 MR_Hm, ↓m_ld2 MR_Hm, ↓m_ld3 MR_Hm, ↓m_ld4 MR_Hm, ↓m_ld5 MR_Hm, ↓m_ld6 MR_Hm, ↓m_ld7 MR_Hm, ↓m_ld8 MR_Hm, ↓m_ld9 MR_Hm, ↓m_ld10 MR_Hm, ↓m_ld11 MR_Hm, ↓m_ld12 MR_Hm, ↓m_ld13 MR_Hm, ↓m_ld14 MR_Hm, ↓m_ld15 MR_Hm, ↓m_ld16 MR_Hm, ↓m_ld17 MR_Hm, ↓m_ld18 MR_Hm, ↓m_ld19 MR_Hm, ↓m_rcv MR_Hm, ↓m_s0, ↓m_s1, ↓m_s2, ↓m_s3, ↓m_s4, ↓m_s5, ↓m_s6, ↓m_s7, ↓m_s8, ↓m_s9, ↓m_s10, ↓m_s11, ↓m_s12, ↓m_s13, ↓m_s14, ↓m_s15, ↓m_s16, ↓m_s17, ↓m_s18, ↓m_s19, ↓m_p0, ↓m_p1, ↓m_p2, ↓m_p3, ↓m_p4, ↓m_p5, ↓m_p6, ↓m_p7, hg, ↓r1, ↓u_j_X9_setsFree_69]
    · show L_X9_setsFree_48 (some m0) (some z.1) Kc (f + 1) (iI (((S 20 4).toNat : Nat) : Int)) (Hm m0 (hset P z.1 (bC X)) (rmS S (fun k => frB S k) (((S 20 4).toNat : Nat) : Int)), (z.1 + 1, z.2)) = _
      have hg : rmS S (fun k => frB S k) (S 20 4) 20 = S 20 := rmS_g (by decide)
      rw [h9, u_L_X9_setsFree_48]
      simp -implicitDefEqProofs (disch := omega) only [↓reduceIte, ↓e_lets, ↓e_ite, ↓e_cal, e_cal2, e_cal3, e_thr, e_nthrow, e_rtn, e_r0, e_r1, e_dv, iI_add, iI_sub, iI_mul, iI_neg, iI_div, iI_rem, iI_lt, iI_le, iI_eq, b_eq0, b_eq1, Int.reduceAdd, Int.reduceMul, Int.reduceSub, Int.reduceNeg, Int.reduceDiv, Int.reduceMod, Nat.reduceAdd, Bool.false_eq_true, eq_self, ltT, ltF, leT, leF, eqT, eqF, true_and, and_true, false_and, and_false, and_self, or_true, true_or, or_false, false_or, ne_eq, not_true_eq_false, not_false_eq_true, if_true, if_false, ite_true, ite_false, ite_not, some_none, some_some, none_some, none_none, li_0, li_1, li_2, li_3, li_4, li_5, li_6, li_7, li_8, li_9, li_10, li_11, li_12, li_13, li_14, li_15, li_16, li_17, li_18, li_19, li_20, li_21, li_22, li_23, li_24, li_25, li_26, li_27, li_28, li_29, li_30, li_31, li_32, li_63, li_64, li_99, li_100, li_128, li_240, li_256, li_512, li_960, li_1000, li_1022, li_1023, li_100000, li_m1, li_m1000, ↓m_g0 MR_Hm, ↓m_g1 MR_Hm, ↓m_g2 MR_Hm, ↓m_g3 MR_Hm, ↓m_g4 MR_Hm, ↓m_g5 MR_Hm, ↓m_g6 MR_Hm, ↓m_g7 MR_Hm, ↓m_g8 MR_Hm, ↓m_g9 MR_Hm, ↓m_g10 MR_Hm, ↓m_g11 MR_Hm, ↓m_g12 MR_Hm, ↓m_g13 MR_Hm, ↓m_g14 MR_Hm, ↓m_g15 MR_Hm, ↓m_g16 MR_Hm, ↓m_g17 MR_Hm, ↓m_g18 MR_Hm, ↓m_g19 MR_Hm, ↓m_g20 MR_Hm, ↓m_g21 MR_Hm, ↓m_g22 MR_Hm, ↓m_g23 MR_Hm, ↓m_g24 MR_Hm, ↓m_g25 MR_Hm, ↓m_g26 MR_Hm, ↓m_g27 MR_Hm, ↓m_ld0 MR_Hm, ↓m_ld1 MR_Hm, ↓m_ld2 MR_Hm, ↓m_ld3 MR_Hm, ↓m_ld4 MR_Hm, ↓m_ld5 MR_Hm, ↓m_ld6 MR_Hm, ↓m_ld7 MR_Hm, ↓m_ld8 MR_Hm, ↓m_ld9 MR_Hm, ↓m_ld10 MR_Hm, ↓m_ld11 MR_Hm, ↓m_ld12 MR_Hm, ↓m_ld13 MR_Hm, ↓m_ld14 MR_Hm, ↓m_ld15 MR_Hm, ↓m_ld16 MR_Hm, ↓m_ld17 MR_Hm, ↓m_ld18 MR_Hm, ↓m_ld19 MR_Hm, ↓m_rcv MR_Hm, ↓m_s0, ↓m_s1, ↓m_s2, ↓m_s3, ↓m_s4, ↓m_s5, ↓m_s6, ↓m_s7, ↓m_s8, ↓m_s9, ↓m_s10, ↓m_s11, ↓m_s12, ↓m_s13, ↓m_s14, ↓m_s15, ↓m_s16, ↓m_s17, ↓m_s18, ↓m_s19, ↓m_p0, ↓m_p1, ↓m_p2, ↓m_p3, ↓m_p4, ↓m_p5, ↓m_p6, ↓m_p7, hg]
  rw [e_lets, hL2, e_lets]
  have hVr := VS_rm hV0 (fun k => frB S k) (S 20 4).toNat (by omega)
  rw [h9] at hVr
  have r20 : rmS S (fun k => frB S k) (S 20 4) 20 = S 20 := rmS_g (by decide)
  have r17 : rmS S (fun k => frB S k) (S 20 4) 17 = S 17 := rmS_g (by decide)
  generalize rmS S (fun k => frB S k) (S 20 4) = S1 at *
  have hL := loopD (fun f (t : Int32 × SS) => L_X9_setsFree_77 (some m0) (some z.1) (rtn ()) f t.1 (Hm m0 (hset P z.1 (bC X)) t.2, (z.1 + 1, z.2))) (fun m => (iI (m : Int), sfS (fun k => frB S k) (fun k => S 17 k) S1 m)) (S 20 4).toNat (some (.ok (), (Hm m0 (hset P z.1 (bC X)) (sfS (fun k => frB S k) (fun k => S 17 k) S1 (S 20 4).toNat), (z.1 + 1, z.2)))) (fun k f hk => ?_) (fun f => ?_) 100000 (by omega)
  · exact hL
  · show L_X9_setsFree_77 (some m0) (some z.1) (rtn ()) (f + 1) (iI (k : Int)) (Hm m0 (hset P z.1 (bC X)) (sfS (fun k => frB S k) (fun k => S 17 k) S1 k), (z.1 + 1, z.2)) = L_X9_setsFree_77 (some m0) (some z.1) (rtn ()) f (iI ((k : Int) + 1)) (Hm m0 (hset P z.1 (bC X)) (sfS (fun k => frB S k) (fun k => S 17 k) S1 (k + 1)), (z.1 + 1, z.2))
    have eS : sfS (fun k => frB S k) (fun k => S 17 k) S1 (k + 1) = if frB S k = true ∧ S 17 k ≠ -1 ∧ poP (sfS (fun k => frB S k) (fun k => S 17 k) S1 k) k (S 17 k) = true then upS (sfS (fun k => frB S k) (fun k => S 17 k) S1 k) 14 k (S 17 k) else sfS (fun k => frB S k) (fun k => S 17 k) S1 k := rfl
    rw [eS]
    clear eS
    have hVk := VS_sf hVr (fun k => frB S k) (fun k => S 17 k) k (by rw [r20]; omega) (fun j hj => ht j (by omega))
    have g20 : sfS (fun k => frB S k) (fun k => S 17 k) S1 k 20 = S 20 := (sfS_g _ _ S1 (by decide) k).trans r20
    have g17 : sfS (fun k => frB S k) (fun k => S 17 k) S1 k 17 = S 17 := (sfS_g _ _ S1 (by decide) k).trans r17
    generalize sfS (fun k => frB S k) (fun k => S 17 k) S1 k = T at *
    have htk := ht k (by omega)
    have r1 := fun K : Int32 → OO Unit => b_ldH (m0 := m0) (P := P) (S := T) (z := (z.1 + 1, z.2)) (W := X) hz (k := k) (by omega) (K := K)
    rw [hXk k hk] at r1
    rw [u_L_X9_setsFree_77]
    cases d : frB S k
    · rw [d] at r1
      rw [if_neg (fun q => absurd q.1 (by decide))]
      simp -implicitDefEqProofs (disch := omega) only [↓reduceIte, ↓e_lets, ↓e_ite, ↓e_cal, e_cal2, e_cal3, e_thr, e_nthrow, e_rtn, e_r0, e_r1, e_dv, iI_add, iI_sub, iI_mul, iI_neg, iI_div, iI_rem, iI_lt, iI_le, iI_eq, b_eq0, b_eq1, Int.reduceAdd, Int.reduceMul, Int.reduceSub, Int.reduceNeg, Int.reduceDiv, Int.reduceMod, Nat.reduceAdd, Bool.false_eq_true, eq_self, ltT, ltF, leT, leF, eqT, eqF, true_and, and_true, false_and, and_false, and_self, or_true, true_or, or_false, false_or, ne_eq, not_true_eq_false, not_false_eq_true, if_true, if_false, ite_true, ite_false, ite_not, some_none, some_some, none_some, none_none, li_0, li_1, li_2, li_3, li_4, li_5, li_6, li_7, li_8, li_9, li_10, li_11, li_12, li_13, li_14, li_15, li_16, li_17, li_18, li_19, li_20, li_21, li_22, li_23, li_24, li_25, li_26, li_27, li_28, li_29, li_30, li_31, li_32, li_63, li_64, li_99, li_100, li_128, li_240, li_256, li_512, li_960, li_1000, li_1022, li_1023, li_100000, li_m1, li_m1000, ↓m_g0 MR_Hm, ↓m_g1 MR_Hm, ↓m_g2 MR_Hm, ↓m_g3 MR_Hm, ↓m_g4 MR_Hm, ↓m_g5 MR_Hm, ↓m_g6 MR_Hm, ↓m_g7 MR_Hm, ↓m_g8 MR_Hm, ↓m_g9 MR_Hm, ↓m_g10 MR_Hm, ↓m_g11 MR_Hm, ↓m_g12 MR_Hm, ↓m_g13 MR_Hm, ↓m_g14 MR_Hm, ↓m_g15 MR_Hm, ↓m_g16 MR_Hm, ↓m_g17 MR_Hm, ↓m_g18 MR_Hm, ↓m_g19 MR_Hm, ↓m_g20 MR_Hm, ↓m_g21 MR_Hm, ↓m_g22 MR_Hm, ↓m_g23 MR_Hm, ↓m_g24 MR_Hm, ↓m_g25 MR_Hm, ↓m_g26 MR_Hm, ↓m_g27 MR_Hm, ↓m_ld0 MR_Hm, ↓m_ld1 MR_Hm, ↓m_ld2 MR_Hm, ↓m_ld3 MR_Hm, ↓m_ld4 MR_Hm, ↓m_ld5 MR_Hm, ↓m_ld6 MR_Hm, ↓m_ld7 MR_Hm, ↓m_ld8 MR_Hm, ↓m_ld9 MR_Hm, ↓m_ld10 MR_Hm, ↓m_ld11 MR_Hm, ↓m_ld12 MR_Hm, ↓m_ld13 MR_Hm, ↓m_ld14 MR_Hm, ↓m_ld15 MR_Hm, ↓m_ld16 MR_Hm, ↓m_ld17 MR_Hm, ↓m_ld18 MR_Hm, ↓m_ld19 MR_Hm, ↓m_rcv MR_Hm, ↓m_s0, ↓m_s1, ↓m_s2, ↓m_s3, ↓m_s4, ↓m_s5, ↓m_s6, ↓m_s7, ↓m_s8, ↓m_s9, ↓m_s10, ↓m_s11, ↓m_s12, ↓m_s13, ↓m_s14, ↓m_s15, ↓m_s16, ↓m_s17, ↓m_s18, ↓m_s19, ↓m_p0, ↓m_p1, ↓m_p2, ↓m_p3, ↓m_p4, ↓m_p5, ↓m_p6, ↓m_p7, g20, g17, ↓r1, ↓u_j_X9_setsFree_126]
    · rw [d] at r1
      by_cases c : S 17 k = -1
      · rw [if_neg (fun q => q.2.1 c)]
        simp -implicitDefEqProofs (disch := omega) only [↓reduceIte, ↓e_lets, ↓e_ite, ↓e_cal, e_cal2, e_cal3, e_thr, e_nthrow, e_rtn, e_r0, e_r1, e_dv, iI_add, iI_sub, iI_mul, iI_neg, iI_div, iI_rem, iI_lt, iI_le, iI_eq, b_eq0, b_eq1, Int.reduceAdd, Int.reduceMul, Int.reduceSub, Int.reduceNeg, Int.reduceDiv, Int.reduceMod, Nat.reduceAdd, Bool.false_eq_true, eq_self, ltT, ltF, leT, leF, eqT, eqF, true_and, and_true, false_and, and_false, and_self, or_true, true_or, or_false, false_or, ne_eq, not_true_eq_false, not_false_eq_true, if_true, if_false, ite_true, ite_false, ite_not, some_none, some_some, none_some, none_none, li_0, li_1, li_2, li_3, li_4, li_5, li_6, li_7, li_8, li_9, li_10, li_11, li_12, li_13, li_14, li_15, li_16, li_17, li_18, li_19, li_20, li_21, li_22, li_23, li_24, li_25, li_26, li_27, li_28, li_29, li_30, li_31, li_32, li_63, li_64, li_99, li_100, li_128, li_240, li_256, li_512, li_960, li_1000, li_1022, li_1023, li_100000, li_m1, li_m1000, ↓m_g0 MR_Hm, ↓m_g1 MR_Hm, ↓m_g2 MR_Hm, ↓m_g3 MR_Hm, ↓m_g4 MR_Hm, ↓m_g5 MR_Hm, ↓m_g6 MR_Hm, ↓m_g7 MR_Hm, ↓m_g8 MR_Hm, ↓m_g9 MR_Hm, ↓m_g10 MR_Hm, ↓m_g11 MR_Hm, ↓m_g12 MR_Hm, ↓m_g13 MR_Hm, ↓m_g14 MR_Hm, ↓m_g15 MR_Hm, ↓m_g16 MR_Hm, ↓m_g17 MR_Hm, ↓m_g18 MR_Hm, ↓m_g19 MR_Hm, ↓m_g20 MR_Hm, ↓m_g21 MR_Hm, ↓m_g22 MR_Hm, ↓m_g23 MR_Hm, ↓m_g24 MR_Hm, ↓m_g25 MR_Hm, ↓m_g26 MR_Hm, ↓m_g27 MR_Hm, ↓m_ld0 MR_Hm, ↓m_ld1 MR_Hm, ↓m_ld2 MR_Hm, ↓m_ld3 MR_Hm, ↓m_ld4 MR_Hm, ↓m_ld5 MR_Hm, ↓m_ld6 MR_Hm, ↓m_ld7 MR_Hm, ↓m_ld8 MR_Hm, ↓m_ld9 MR_Hm, ↓m_ld10 MR_Hm, ↓m_ld11 MR_Hm, ↓m_ld12 MR_Hm, ↓m_ld13 MR_Hm, ↓m_ld14 MR_Hm, ↓m_ld15 MR_Hm, ↓m_ld16 MR_Hm, ↓m_ld17 MR_Hm, ↓m_ld18 MR_Hm, ↓m_ld19 MR_Hm, ↓m_rcv MR_Hm, ↓m_s0, ↓m_s1, ↓m_s2, ↓m_s3, ↓m_s4, ↓m_s5, ↓m_s6, ↓m_s7, ↓m_s8, ↓m_s9, ↓m_s10, ↓m_s11, ↓m_s12, ↓m_s13, ↓m_s14, ↓m_s15, ↓m_s16, ↓m_s17, ↓m_s18, ↓m_s19, ↓m_p0, ↓m_p1, ↓m_p2, ↓m_p3, ↓m_p4, ↓m_p5, ↓m_p6, ↓m_p7, g20, g17, ↓r1, ↓u_j_X9_setsFree_126]
      · have e1 := e_poss (MR_Hm (m0 := m0) (P := hset P z.1 (bC X)) (S := T) (z := (z.1 + 1, z.2))) hVk (l := (k : Int)) (by omega) (by rw [g20]; omega) (x := S 17 k) (by omega) (by omega)
        cases c2 : poP T k (S 17 k)
        · rw [c2] at e1
          rw [if_neg (fun q => absurd q.2.2 (by decide))]
          simp -implicitDefEqProofs (disch := omega) only [↓reduceIte, ↓e_lets, ↓e_ite, ↓e_cal, e_cal2, e_cal3, e_thr, e_nthrow, e_rtn, e_r0, e_r1, e_dv, iI_add, iI_sub, iI_mul, iI_neg, iI_div, iI_rem, iI_lt, iI_le, iI_eq, b_eq0, b_eq1, Int.reduceAdd, Int.reduceMul, Int.reduceSub, Int.reduceNeg, Int.reduceDiv, Int.reduceMod, Nat.reduceAdd, Bool.false_eq_true, eq_self, ltT, ltF, leT, leF, eqT, eqF, true_and, and_true, false_and, and_false, and_self, or_true, true_or, or_false, false_or, ne_eq, not_true_eq_false, not_false_eq_true, if_true, if_false, ite_true, ite_false, ite_not, some_none, some_some, none_some, none_none, li_0, li_1, li_2, li_3, li_4, li_5, li_6, li_7, li_8, li_9, li_10, li_11, li_12, li_13, li_14, li_15, li_16, li_17, li_18, li_19, li_20, li_21, li_22, li_23, li_24, li_25, li_26, li_27, li_28, li_29, li_30, li_31, li_32, li_63, li_64, li_99, li_100, li_128, li_240, li_256, li_512, li_960, li_1000, li_1022, li_1023, li_100000, li_m1, li_m1000, ↓m_g0 MR_Hm, ↓m_g1 MR_Hm, ↓m_g2 MR_Hm, ↓m_g3 MR_Hm, ↓m_g4 MR_Hm, ↓m_g5 MR_Hm, ↓m_g6 MR_Hm, ↓m_g7 MR_Hm, ↓m_g8 MR_Hm, ↓m_g9 MR_Hm, ↓m_g10 MR_Hm, ↓m_g11 MR_Hm, ↓m_g12 MR_Hm, ↓m_g13 MR_Hm, ↓m_g14 MR_Hm, ↓m_g15 MR_Hm, ↓m_g16 MR_Hm, ↓m_g17 MR_Hm, ↓m_g18 MR_Hm, ↓m_g19 MR_Hm, ↓m_g20 MR_Hm, ↓m_g21 MR_Hm, ↓m_g22 MR_Hm, ↓m_g23 MR_Hm, ↓m_g24 MR_Hm, ↓m_g25 MR_Hm, ↓m_g26 MR_Hm, ↓m_g27 MR_Hm, ↓m_ld0 MR_Hm, ↓m_ld1 MR_Hm, ↓m_ld2 MR_Hm, ↓m_ld3 MR_Hm, ↓m_ld4 MR_Hm, ↓m_ld5 MR_Hm, ↓m_ld6 MR_Hm, ↓m_ld7 MR_Hm, ↓m_ld8 MR_Hm, ↓m_ld9 MR_Hm, ↓m_ld10 MR_Hm, ↓m_ld11 MR_Hm, ↓m_ld12 MR_Hm, ↓m_ld13 MR_Hm, ↓m_ld14 MR_Hm, ↓m_ld15 MR_Hm, ↓m_ld16 MR_Hm, ↓m_ld17 MR_Hm, ↓m_ld18 MR_Hm, ↓m_ld19 MR_Hm, ↓m_rcv MR_Hm, ↓m_s0, ↓m_s1, ↓m_s2, ↓m_s3, ↓m_s4, ↓m_s5, ↓m_s6, ↓m_s7, ↓m_s8, ↓m_s9, ↓m_s10, ↓m_s11, ↓m_s12, ↓m_s13, ↓m_s14, ↓m_s15, ↓m_s16, ↓m_s17, ↓m_s18, ↓m_s19, ↓m_p0, ↓m_p1, ↓m_p2, ↓m_p3, ↓m_p4, ↓m_p5, ↓m_p6, ↓m_p7, g20, g17, ↓r1, e1, ↓u_j_X9_setsFree_126]
        · rw [c2] at e1
          rw [if_pos ⟨rfl, c, rfl⟩]
          simp -implicitDefEqProofs (disch := omega) only [↓reduceIte, ↓e_lets, ↓e_ite, ↓e_cal, e_cal2, e_cal3, e_thr, e_nthrow, e_rtn, e_r0, e_r1, e_dv, iI_add, iI_sub, iI_mul, iI_neg, iI_div, iI_rem, iI_lt, iI_le, iI_eq, b_eq0, b_eq1, Int.reduceAdd, Int.reduceMul, Int.reduceSub, Int.reduceNeg, Int.reduceDiv, Int.reduceMod, Nat.reduceAdd, Bool.false_eq_true, eq_self, ltT, ltF, leT, leF, eqT, eqF, true_and, and_true, false_and, and_false, and_self, or_true, true_or, or_false, false_or, ne_eq, not_true_eq_false, not_false_eq_true, if_true, if_false, ite_true, ite_false, ite_not, some_none, some_some, none_some, none_none, li_0, li_1, li_2, li_3, li_4, li_5, li_6, li_7, li_8, li_9, li_10, li_11, li_12, li_13, li_14, li_15, li_16, li_17, li_18, li_19, li_20, li_21, li_22, li_23, li_24, li_25, li_26, li_27, li_28, li_29, li_30, li_31, li_32, li_63, li_64, li_99, li_100, li_128, li_240, li_256, li_512, li_960, li_1000, li_1022, li_1023, li_100000, li_m1, li_m1000, ↓m_g0 MR_Hm, ↓m_g1 MR_Hm, ↓m_g2 MR_Hm, ↓m_g3 MR_Hm, ↓m_g4 MR_Hm, ↓m_g5 MR_Hm, ↓m_g6 MR_Hm, ↓m_g7 MR_Hm, ↓m_g8 MR_Hm, ↓m_g9 MR_Hm, ↓m_g10 MR_Hm, ↓m_g11 MR_Hm, ↓m_g12 MR_Hm, ↓m_g13 MR_Hm, ↓m_g14 MR_Hm, ↓m_g15 MR_Hm, ↓m_g16 MR_Hm, ↓m_g17 MR_Hm, ↓m_g18 MR_Hm, ↓m_g19 MR_Hm, ↓m_g20 MR_Hm, ↓m_g21 MR_Hm, ↓m_g22 MR_Hm, ↓m_g23 MR_Hm, ↓m_g24 MR_Hm, ↓m_g25 MR_Hm, ↓m_g26 MR_Hm, ↓m_g27 MR_Hm, ↓m_ld0 MR_Hm, ↓m_ld1 MR_Hm, ↓m_ld2 MR_Hm, ↓m_ld3 MR_Hm, ↓m_ld4 MR_Hm, ↓m_ld5 MR_Hm, ↓m_ld6 MR_Hm, ↓m_ld7 MR_Hm, ↓m_ld8 MR_Hm, ↓m_ld9 MR_Hm, ↓m_ld10 MR_Hm, ↓m_ld11 MR_Hm, ↓m_ld12 MR_Hm, ↓m_ld13 MR_Hm, ↓m_ld14 MR_Hm, ↓m_ld15 MR_Hm, ↓m_ld16 MR_Hm, ↓m_ld17 MR_Hm, ↓m_ld18 MR_Hm, ↓m_ld19 MR_Hm, ↓m_rcv MR_Hm, ↓m_s0, ↓m_s1, ↓m_s2, ↓m_s3, ↓m_s4, ↓m_s5, ↓m_s6, ↓m_s7, ↓m_s8, ↓m_s9, ↓m_s10, ↓m_s11, ↓m_s12, ↓m_s13, ↓m_s14, ↓m_s15, ↓m_s16, ↓m_s17, ↓m_s18, ↓m_s19, ↓m_p0, ↓m_p1, ↓m_p2, ↓m_p3, ↓m_p4, ↓m_p5, ↓m_p6, ↓m_p7, g20, g17, ↓r1, e1, ↓u_j_X9_setsFree_126]
  · show L_X9_setsFree_77 (some m0) (some z.1) (rtn ()) (f + 1) (iI (((S 20 4).toNat : Nat) : Int)) (Hm m0 (hset P z.1 (bC X)) (sfS (fun k => frB S k) (fun k => S 17 k) S1 (S 20 4).toNat), (z.1 + 1, z.2)) = _
    have g20 : sfS (fun k => frB S k) (fun k => S 17 k) S1 (S 20 4).toNat 20 = S 20 := (sfS_g _ _ S1 (by decide) _).trans r20
    rw [h9, u_L_X9_setsFree_77]
    simp -implicitDefEqProofs (disch := omega) only [↓reduceIte, ↓e_lets, ↓e_ite, ↓e_cal, e_cal2, e_cal3, e_thr, e_nthrow, e_rtn, e_r0, e_r1, e_dv, iI_add, iI_sub, iI_mul, iI_neg, iI_div, iI_rem, iI_lt, iI_le, iI_eq, b_eq0, b_eq1, Int.reduceAdd, Int.reduceMul, Int.reduceSub, Int.reduceNeg, Int.reduceDiv, Int.reduceMod, Nat.reduceAdd, Bool.false_eq_true, eq_self, ltT, ltF, leT, leF, eqT, eqF, true_and, and_true, false_and, and_false, and_self, or_true, true_or, or_false, false_or, ne_eq, not_true_eq_false, not_false_eq_true, if_true, if_false, ite_true, ite_false, ite_not, some_none, some_some, none_some, none_none, li_0, li_1, li_2, li_3, li_4, li_5, li_6, li_7, li_8, li_9, li_10, li_11, li_12, li_13, li_14, li_15, li_16, li_17, li_18, li_19, li_20, li_21, li_22, li_23, li_24, li_25, li_26, li_27, li_28, li_29, li_30, li_31, li_32, li_63, li_64, li_99, li_100, li_128, li_240, li_256, li_512, li_960, li_1000, li_1022, li_1023, li_100000, li_m1, li_m1000, ↓m_g0 MR_Hm, ↓m_g1 MR_Hm, ↓m_g2 MR_Hm, ↓m_g3 MR_Hm, ↓m_g4 MR_Hm, ↓m_g5 MR_Hm, ↓m_g6 MR_Hm, ↓m_g7 MR_Hm, ↓m_g8 MR_Hm, ↓m_g9 MR_Hm, ↓m_g10 MR_Hm, ↓m_g11 MR_Hm, ↓m_g12 MR_Hm, ↓m_g13 MR_Hm, ↓m_g14 MR_Hm, ↓m_g15 MR_Hm, ↓m_g16 MR_Hm, ↓m_g17 MR_Hm, ↓m_g18 MR_Hm, ↓m_g19 MR_Hm, ↓m_g20 MR_Hm, ↓m_g21 MR_Hm, ↓m_g22 MR_Hm, ↓m_g23 MR_Hm, ↓m_g24 MR_Hm, ↓m_g25 MR_Hm, ↓m_g26 MR_Hm, ↓m_g27 MR_Hm, ↓m_ld0 MR_Hm, ↓m_ld1 MR_Hm, ↓m_ld2 MR_Hm, ↓m_ld3 MR_Hm, ↓m_ld4 MR_Hm, ↓m_ld5 MR_Hm, ↓m_ld6 MR_Hm, ↓m_ld7 MR_Hm, ↓m_ld8 MR_Hm, ↓m_ld9 MR_Hm, ↓m_ld10 MR_Hm, ↓m_ld11 MR_Hm, ↓m_ld12 MR_Hm, ↓m_ld13 MR_Hm, ↓m_ld14 MR_Hm, ↓m_ld15 MR_Hm, ↓m_ld16 MR_Hm, ↓m_ld17 MR_Hm, ↓m_ld18 MR_Hm, ↓m_ld19 MR_Hm, ↓m_rcv MR_Hm, ↓m_s0, ↓m_s1, ↓m_s2, ↓m_s3, ↓m_s4, ↓m_s5, ↓m_s6, ↓m_s7, ↓m_s8, ↓m_s9, ↓m_s10, ↓m_s11, ↓m_s12, ↓m_s13, ↓m_s14, ↓m_s15, ↓m_s16, ↓m_s17, ↓m_s18, ↓m_s19, ↓m_p0, ↓m_p1, ↓m_p2, ↓m_p3, ↓m_p4, ↓m_p5, ↓m_p6, ↓m_p7, g20]
