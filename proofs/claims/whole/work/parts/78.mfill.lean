/-! PURE LAYER: the reference: the table filled -/
def FM (b : Nat) (P : Hp) (z : Nat × Nat) (P2 : Hp) (z2 : Nat × Nat) : Prop := z.1 ≤ z2.1 ∧ z2.2 = z.2 ∧ (∀ x, x < b → P2 x = P x) ∧ ((∀ x, z.1 ≤ x → P x = none) → ∀ x, z2.1 ≤ x → P2 x = none)
theorem FM.rfl {b : Nat} {P : Hp} {z : Nat × Nat} : FM b P z P z := ⟨Nat.le_refl _, Eq.refl _, fun _ _ => Eq.refl _, fun h => h⟩
theorem FM.tr {b : Nat} {P P2 P3 : Hp} {z z2 z3 : Nat × Nat} (h : FM b P z P2 z2) (h2 : FM b P2 z2 P3 z3) : FM b P z P3 z3 := ⟨Nat.le_trans h.1 h2.1, h2.2.1.trans h.2.1, fun x hx => (h2.2.2.1 x hx).trans (h.2.2.1 x hx), fun q => h2.2.2.2 (h.2.2.2 q)⟩
theorem FM.nw {b : Nat} {P : Hp} {z : Nat × Nat} {e : Ce} (h : b ≤ z.1) : FM b P z (hset P z.1 e) (z.1 + 1, z.2) := ⟨Nat.le_succ _, Eq.refl _, fun x hx => hset_n (by omega), fun q x hx => by
  have hx2 : z.1 + 1 ≤ x := hx
  rw [hset_n (by omega)]
  exact q x (by omega)⟩
theorem FM.st {b : Nat} {P : Hp} {z : Nat × Nat} {a : Nat} {e : Ce} (h : b ≤ a) (ha : a < z.1) : FM b P z (hset P a e) z := ⟨Nat.le_refl _, Eq.refl _, fun x hx => hset_n (by omega), fun q x hx => by
  rw [hset_n (by omega)]
  exact q x hx⟩
theorem cntN_c {p q : Nat → Bool} {n : Nat} (h : ∀ k, k < n → p k = q k) : cntN p n = cntN q n := sumN_c n (fun k hk => by rw [h k hk])
theorem cntN_dec {p q : Nat → Bool} : ∀ (n j : Nat), (∀ k, k < n → k ≠ j → q k = p k) → j < n → p j = true → q j = false → cntN q n = cntN p n - 1 := by
  intro n
  induction n with
  | zero => intro j _ hj; exact absurd hj (by omega)
  | succ n ih =>
    intro j h hj h1 h2
    show cntN q n + (if q n = true then 1 else 0) = cntN p n + (if p n = true then 1 else 0) - 1
    by_cases c : j = n
    · subst c
      rw [cntN_c (p := q) (q := p) (fun k hk => h k (by omega) (by omega)), h1, h2, if_pos rfl, if_neg (by decide)]
      omega
    · rw [ih j (fun k hk => h k (by omega)) (by omega) h1 h2, h n (by omega) (by omega)]
      omega
theorem e_nw {R : Type} {m0 : Nat} {P : Hp} {S : SS} {z : Nat × Nat} (hz : m0 + 20 < z.1) (K : Nat → OO R) : nwI 1 (iI 16) 16 K (Hm m0 P S, z) = K z.1 (Hm m0 (hset P z.1 (bC (fun _ => false))) S, (z.1 + 1, z.2)) := by
  rw [x_nwI]
  show K z.1 (hset (Hm m0 P S) z.1 _, _) = _
  rw [Hm_hset (Or.inr hz)]
def muI (S : SS) (t : Int) (gu : Nat → Bool) : Int := 17 * (10 - t) + cntN (fun k => decide (S 14 k < 0) && !gu k) (S 20 4).toNat
theorem e_j80 {m0 : Nat} {P : Hp} {S : SS} {z : Nat × Nat} (hV : VS S) {g : Nat} {gu : Nat → Bool} (hg : P g = some (bC gu)) (g0 : m0 + 20 < g) (g1 : g < z.1) (t : Int) (rec : Int32 → Int32 → OO Int32) : ∃ X, j_X9_fill_80 (some m0) (some g) (iI t) rec (Hm m0 P S, z) = rec (iI t) (iI (fiQ S gu)) (Hm m0 (hset P z.1 (bC X)) S, (z.1 + 1, z.2)) := by
  have hm2 := hV.2.1
  unfold Bm at hm2
  have h9 : (((S 20 4).toNat : Nat) : Int) = S 20 4 := by omega
  have hz : z.1 < m0 ∨ m0 + 20 < z.1 := Or.inr (by omega)
  have e1 := e_X9_unplaced (m0 := m0) (P := P) (z := z) hV hz
  have hL : ∀ Kc : OO Int32, L_X9_fill_88 (some m0) (some g) (iI t) (some z.1) Kc 300 (iI 0) (Hm m0 (hset P z.1 (bC (fun k => decide ((k : Int) < S 20 4 ∧ S 14 k < 0)))) S, (z.1 + 1, z.2)) = Kc (Hm m0 (hset P z.1 (bC (fun k => decide ((k : Int) < S 20 4 ∧ S 14 k < 0) && (!decide (k < (S 20 4).toNat) || !gu k)))) S, (z.1 + 1, z.2)) := fun Kc => by
    have hL := loopD (fun f (t2 : Int32 × (Nat → Bool)) => L_X9_fill_88 (some m0) (some g) (iI t) (some z.1) Kc f t2.1 (Hm m0 (hset P z.1 (bC t2.2)) S, (z.1 + 1, z.2))) (fun m => (iI (m : Int), fun k => decide ((k : Int) < S 20 4 ∧ S 14 k < 0) && (!decide (k < m) || !gu k))) (S 20 4).toNat (Kc (Hm m0 (hset P z.1 (bC (fun k => decide ((k : Int) < S 20 4 ∧ S 14 k < 0) && (!decide (k < (S 20 4).toNat) || !gu k)))) S, (z.1 + 1, z.2))) (fun k f hk => ?_) (fun f => ?_) 300 (by omega)
    · have e0 : (fun k : Nat => decide ((k : Int) < S 20 4 ∧ S 14 k < 0) && (!decide (k < 0) || !gu k)) = fun k : Nat => decide ((k : Int) < S 20 4 ∧ S 14 k < 0) := funext (fun k => by rw [decide_eq_false (show ¬ k < 0 by omega)]; simp)
      have hL2 : L_X9_fill_88 (some m0) (some g) (iI t) (some z.1) Kc 300 (iI ((0 : Nat) : Int)) (Hm m0 (hset P z.1 (bC (fun k : Nat => decide ((k : Int) < S 20 4 ∧ S 14 k < 0) && (!decide (k < 0) || !gu k)))) S, (z.1 + 1, z.2)) = _ := hL
      rw [e0] at hL2
      exact hL2
    · show L_X9_fill_88 (some m0) (some g) (iI t) (some z.1) Kc (f + 1) (iI (k : Int)) (Hm m0 (hset P z.1 (bC (fun j => decide ((j : Int) < S 20 4 ∧ S 14 j < 0) && (!decide (j < k) || !gu j)))) S, (z.1 + 1, z.2)) = L_X9_fill_88 (some m0) (some g) (iI t) (some z.1) Kc f (iI ((k : Int) + 1)) (Hm m0 (hset P z.1 (bC (fun j => decide ((j : Int) < S 20 4 ∧ S 14 j < 0) && (!decide (j < k + 1) || !gu j)))) S, (z.1 + 1, z.2))
      generalize hW : (fun j : Nat => decide ((j : Int) < S 20 4 ∧ S 14 j < 0) && (!decide (j < k) || !gu j)) = W
      have hWk : W k = decide (S 14 k < 0) := by
        rw [← hW]
        show (decide ((k : Int) < S 20 4 ∧ S 14 k < 0) && (!decide (k < k) || !gu k)) = _
        rw [decide_eq_false (show ¬ k < k by omega)]
        by_cases c : S 14 k < 0
        · rw [decide_eq_true c, decide_eq_true ⟨by omega, c⟩]; rfl
        · rw [decide_eq_false c, decide_eq_false (fun q => c q.2)]; rfl
      have hq : (Hm m0 (hset P z.1 (bC W)) S, (z.1 + 1, z.2)).1 z.1 = some (bC W) := by
        show Hm m0 _ S z.1 = _
        rw [Hm_out hz, hset_s]
      have hq2 : (Hm m0 (hset P z.1 (bC W)) S, (z.1 + 1, z.2)).1 g = some (bC gu) := by
        show Hm m0 _ S g = _
        rw [Hm_out (Or.inr g0), hset_n (by omega)]
        exact hg
      have r1 := fun K : Int32 → OO Int32 => b_ld hq (i := (k : Int)) (by omega) (by omega) (K := K)
      have r2 := fun K : Int32 → OO Int32 => b_ld hq2 (i := (k : Int)) (by omega) (by omega) (K := K)
      rw [Int.toNat_natCast] at r1 r2
      rw [hWk] at r1
      have e2 : ∀ (x : Int) (K : OO Int32), x = 0 ∨ x = 1 → stZ (some z.1) (iI (k : Int)) (iI x) K (Hm m0 (hset P z.1 (bC W)) S, (z.1 + 1, z.2)) = K (Hm m0 (hset P z.1 (bC (fun j => if j = k then decide (x = 1) else W j))) S, (z.1 + 1, z.2)) := fun x K hx => by
        rw [b_st hq (by omega) (by omega) hx]
        show K (hset (Hm m0 (hset P z.1 _) S) z.1 _, _) = _
        rw [Hm_hset hz, hset2, Int.toNat_natCast]
      have e3 : ∀ x : Int, (x = 0 ∨ x = 1) → (x = 1 ↔ S 14 k < 0 ∧ gu k = false) → (fun j : Nat => if j = k then decide (x = 1) else W j) = fun j : Nat => decide ((j : Int) < S 20 4 ∧ S 14 j < 0) && (!decide (j < k + 1) || !gu j) := fun x _ hx => by
        funext j
        by_cases c : j = k
        · subst c
          rw [if_pos rfl, decide_eq_true (show j < j + 1 by omega)]
          by_cases d : S 14 j < 0
          · rw [decide_eq_true (show (j : Int) < S 20 4 ∧ S 14 j < 0 from ⟨by omega, d⟩)]
            cases e : gu j
            · rw [decide_eq_true (hx.mpr ⟨d, e⟩)]; rfl
            · rw [decide_eq_false (fun q => by have := (hx.mp q).2; rw [e] at this; exact absurd this (by decide))]; rfl
          · rw [decide_eq_false (show ¬ ((j : Int) < S 20 4 ∧ S 14 j < 0) from fun q => d q.2), decide_eq_false (fun q => d (hx.mp q).1)]; rfl
        · rw [if_neg c, ← hW]
          show (_ && (!decide (j < k) || _)) = (_ && (!decide (j < k + 1) || _))
          rw [show decide (j < k) = decide (j < k + 1) from decide_eq_decide.mpr (by omega)]
      rw [u_L_X9_fill_88]
      by_cases c : S 14 k < 0
      · rw [decide_eq_true c] at r1
        cases d : gu k
        · rw [d] at r2
          rw [← e3 1 (Or.inr rfl) ⟨fun _ => ⟨c, d⟩, fun _ => rfl⟩]
          simp -implicitDefEqProofs (disch := omega) only [↓reduceIte, ↓e_lets, ↓e_ite, ↓e_cal, e_cal2, e_cal3, e_thr, e_nthrow, e_rtn, e_r0, e_r1, e_dv, iI_add, iI_sub, iI_mul, iI_neg, iI_div, iI_rem, iI_lt, iI_le, iI_eq, b_eq0, b_eq1, Int.reduceAdd, Int.reduceMul, Int.reduceSub, Int.reduceNeg, Int.reduceDiv, Int.reduceMod, Nat.reduceAdd, Bool.false_eq_true, eq_self, ltT, ltF, leT, leF, eqT, eqF, true_and, and_true, false_and, and_false, and_self, or_true, true_or, or_false, false_or, ne_eq, not_true_eq_false, not_false_eq_true, if_true, if_false, ite_true, ite_false, ite_not, some_none, some_some, none_some, none_none, li_0, li_1, li_2, li_3, li_4, li_5, li_6, li_7, li_8, li_9, li_10, li_11, li_12, li_13, li_14, li_15, li_16, li_17, li_18, li_19, li_20, li_21, li_22, li_23, li_24, li_25, li_26, li_27, li_28, li_29, li_30, li_31, li_32, li_63, li_64, li_99, li_100, li_128, li_240, li_256, li_512, li_960, li_1000, li_1022, li_1023, li_100000, li_m1, li_m1000, ↓m_g0 MR_Hm, ↓m_g1 MR_Hm, ↓m_g2 MR_Hm, ↓m_g3 MR_Hm, ↓m_g4 MR_Hm, ↓m_g5 MR_Hm, ↓m_g6 MR_Hm, ↓m_g7 MR_Hm, ↓m_g8 MR_Hm, ↓m_g9 MR_Hm, ↓m_g10 MR_Hm, ↓m_g11 MR_Hm, ↓m_g12 MR_Hm, ↓m_g13 MR_Hm, ↓m_g14 MR_Hm, ↓m_g15 MR_Hm, ↓m_g16 MR_Hm, ↓m_g17 MR_Hm, ↓m_g18 MR_Hm, ↓m_g19 MR_Hm, ↓m_g20 MR_Hm, ↓m_g21 MR_Hm, ↓m_g22 MR_Hm, ↓m_g23 MR_Hm, ↓m_g24 MR_Hm, ↓m_g25 MR_Hm, ↓m_g26 MR_Hm, ↓m_g27 MR_Hm, ↓m_ld0 MR_Hm, ↓m_ld1 MR_Hm, ↓m_ld2 MR_Hm, ↓m_ld3 MR_Hm, ↓m_ld4 MR_Hm, ↓m_ld5 MR_Hm, ↓m_ld6 MR_Hm, ↓m_ld7 MR_Hm, ↓m_ld8 MR_Hm, ↓m_ld9 MR_Hm, ↓m_ld10 MR_Hm, ↓m_ld11 MR_Hm, ↓m_ld12 MR_Hm, ↓m_ld13 MR_Hm, ↓m_ld14 MR_Hm, ↓m_ld15 MR_Hm, ↓m_ld16 MR_Hm, ↓m_ld17 MR_Hm, ↓m_ld18 MR_Hm, ↓m_ld19 MR_Hm, ↓m_rcv MR_Hm, ↓m_s0, ↓m_s1, ↓m_s2, ↓m_s3, ↓m_s4, ↓m_s5, ↓m_s6, ↓m_s7, ↓m_s8, ↓m_s9, ↓m_s10, ↓m_s11, ↓m_s12, ↓m_s13, ↓m_s14, ↓m_s15, ↓m_s16, ↓m_s17, ↓m_s18, ↓m_s19, ↓m_p0, ↓m_p1, ↓m_p2, ↓m_p3, ↓m_p4, ↓m_p5, ↓m_p6, ↓m_p7, upS_s, upS_g, upS_i, ↓r1, ↓r2, ↓e2, ↓u_j_X9_fill_118, ↓u_j_X9_fill_119]
        · rw [d] at r2
          rw [← e3 0 (Or.inl rfl) ⟨fun q => absurd q (by decide), fun q => by rw [d] at q; exact absurd q.2 (by decide)⟩]
          simp -implicitDefEqProofs (disch := omega) only [↓reduceIte, ↓e_lets, ↓e_ite, ↓e_cal, e_cal2, e_cal3, e_thr, e_nthrow, e_rtn, e_r0, e_r1, e_dv, iI_add, iI_sub, iI_mul, iI_neg, iI_div, iI_rem, iI_lt, iI_le, iI_eq, b_eq0, b_eq1, Int.reduceAdd, Int.reduceMul, Int.reduceSub, Int.reduceNeg, Int.reduceDiv, Int.reduceMod, Nat.reduceAdd, Bool.false_eq_true, eq_self, ltT, ltF, leT, leF, eqT, eqF, true_and, and_true, false_and, and_false, and_self, or_true, true_or, or_false, false_or, ne_eq, not_true_eq_false, not_false_eq_true, if_true, if_false, ite_true, ite_false, ite_not, some_none, some_some, none_some, none_none, li_0, li_1, li_2, li_3, li_4, li_5, li_6, li_7, li_8, li_9, li_10, li_11, li_12, li_13, li_14, li_15, li_16, li_17, li_18, li_19, li_20, li_21, li_22, li_23, li_24, li_25, li_26, li_27, li_28, li_29, li_30, li_31, li_32, li_63, li_64, li_99, li_100, li_128, li_240, li_256, li_512, li_960, li_1000, li_1022, li_1023, li_100000, li_m1, li_m1000, ↓m_g0 MR_Hm, ↓m_g1 MR_Hm, ↓m_g2 MR_Hm, ↓m_g3 MR_Hm, ↓m_g4 MR_Hm, ↓m_g5 MR_Hm, ↓m_g6 MR_Hm, ↓m_g7 MR_Hm, ↓m_g8 MR_Hm, ↓m_g9 MR_Hm, ↓m_g10 MR_Hm, ↓m_g11 MR_Hm, ↓m_g12 MR_Hm, ↓m_g13 MR_Hm, ↓m_g14 MR_Hm, ↓m_g15 MR_Hm, ↓m_g16 MR_Hm, ↓m_g17 MR_Hm, ↓m_g18 MR_Hm, ↓m_g19 MR_Hm, ↓m_g20 MR_Hm, ↓m_g21 MR_Hm, ↓m_g22 MR_Hm, ↓m_g23 MR_Hm, ↓m_g24 MR_Hm, ↓m_g25 MR_Hm, ↓m_g26 MR_Hm, ↓m_g27 MR_Hm, ↓m_ld0 MR_Hm, ↓m_ld1 MR_Hm, ↓m_ld2 MR_Hm, ↓m_ld3 MR_Hm, ↓m_ld4 MR_Hm, ↓m_ld5 MR_Hm, ↓m_ld6 MR_Hm, ↓m_ld7 MR_Hm, ↓m_ld8 MR_Hm, ↓m_ld9 MR_Hm, ↓m_ld10 MR_Hm, ↓m_ld11 MR_Hm, ↓m_ld12 MR_Hm, ↓m_ld13 MR_Hm, ↓m_ld14 MR_Hm, ↓m_ld15 MR_Hm, ↓m_ld16 MR_Hm, ↓m_ld17 MR_Hm, ↓m_ld18 MR_Hm, ↓m_ld19 MR_Hm, ↓m_rcv MR_Hm, ↓m_s0, ↓m_s1, ↓m_s2, ↓m_s3, ↓m_s4, ↓m_s5, ↓m_s6, ↓m_s7, ↓m_s8, ↓m_s9, ↓m_s10, ↓m_s11, ↓m_s12, ↓m_s13, ↓m_s14, ↓m_s15, ↓m_s16, ↓m_s17, ↓m_s18, ↓m_s19, ↓m_p0, ↓m_p1, ↓m_p2, ↓m_p3, ↓m_p4, ↓m_p5, ↓m_p6, ↓m_p7, upS_s, upS_g, upS_i, ↓r1, ↓r2, ↓e2, ↓u_j_X9_fill_118, ↓u_j_X9_fill_119]
      · rw [decide_eq_false c] at r1
        rw [← e3 0 (Or.inl rfl) ⟨fun q => absurd q (by decide), fun q => absurd q.1 c⟩]
        simp -implicitDefEqProofs (disch := omega) only [↓reduceIte, ↓e_lets, ↓e_ite, ↓e_cal, e_cal2, e_cal3, e_thr, e_nthrow, e_rtn, e_r0, e_r1, e_dv, iI_add, iI_sub, iI_mul, iI_neg, iI_div, iI_rem, iI_lt, iI_le, iI_eq, b_eq0, b_eq1, Int.reduceAdd, Int.reduceMul, Int.reduceSub, Int.reduceNeg, Int.reduceDiv, Int.reduceMod, Nat.reduceAdd, Bool.false_eq_true, eq_self, ltT, ltF, leT, leF, eqT, eqF, true_and, and_true, false_and, and_false, and_self, or_true, true_or, or_false, false_or, ne_eq, not_true_eq_false, not_false_eq_true, if_true, if_false, ite_true, ite_false, ite_not, some_none, some_some, none_some, none_none, li_0, li_1, li_2, li_3, li_4, li_5, li_6, li_7, li_8, li_9, li_10, li_11, li_12, li_13, li_14, li_15, li_16, li_17, li_18, li_19, li_20, li_21, li_22, li_23, li_24, li_25, li_26, li_27, li_28, li_29, li_30, li_31, li_32, li_63, li_64, li_99, li_100, li_128, li_240, li_256, li_512, li_960, li_1000, li_1022, li_1023, li_100000, li_m1, li_m1000, ↓m_g0 MR_Hm, ↓m_g1 MR_Hm, ↓m_g2 MR_Hm, ↓m_g3 MR_Hm, ↓m_g4 MR_Hm, ↓m_g5 MR_Hm, ↓m_g6 MR_Hm, ↓m_g7 MR_Hm, ↓m_g8 MR_Hm, ↓m_g9 MR_Hm, ↓m_g10 MR_Hm, ↓m_g11 MR_Hm, ↓m_g12 MR_Hm, ↓m_g13 MR_Hm, ↓m_g14 MR_Hm, ↓m_g15 MR_Hm, ↓m_g16 MR_Hm, ↓m_g17 MR_Hm, ↓m_g18 MR_Hm, ↓m_g19 MR_Hm, ↓m_g20 MR_Hm, ↓m_g21 MR_Hm, ↓m_g22 MR_Hm, ↓m_g23 MR_Hm, ↓m_g24 MR_Hm, ↓m_g25 MR_Hm, ↓m_g26 MR_Hm, ↓m_g27 MR_Hm, ↓m_ld0 MR_Hm, ↓m_ld1 MR_Hm, ↓m_ld2 MR_Hm, ↓m_ld3 MR_Hm, ↓m_ld4 MR_Hm, ↓m_ld5 MR_Hm, ↓m_ld6 MR_Hm, ↓m_ld7 MR_Hm, ↓m_ld8 MR_Hm, ↓m_ld9 MR_Hm, ↓m_ld10 MR_Hm, ↓m_ld11 MR_Hm, ↓m_ld12 MR_Hm, ↓m_ld13 MR_Hm, ↓m_ld14 MR_Hm, ↓m_ld15 MR_Hm, ↓m_ld16 MR_Hm, ↓m_ld17 MR_Hm, ↓m_ld18 MR_Hm, ↓m_ld19 MR_Hm, ↓m_rcv MR_Hm, ↓m_s0, ↓m_s1, ↓m_s2, ↓m_s3, ↓m_s4, ↓m_s5, ↓m_s6, ↓m_s7, ↓m_s8, ↓m_s9, ↓m_s10, ↓m_s11, ↓m_s12, ↓m_s13, ↓m_s14, ↓m_s15, ↓m_s16, ↓m_s17, ↓m_s18, ↓m_s19, ↓m_p0, ↓m_p1, ↓m_p2, ↓m_p3, ↓m_p4, ↓m_p5, ↓m_p6, ↓m_p7, upS_s, upS_g, upS_i, ↓r1, ↓r2, ↓e2, ↓u_j_X9_fill_118, ↓u_j_X9_fill_119]
    · show L_X9_fill_88 (some m0) (some g) (iI t) (some z.1) Kc (f + 1) (iI (((S 20 4).toNat : Nat) : Int)) _ = _
      rw [h9, u_L_X9_fill_88]
      simp -implicitDefEqProofs (disch := omega) only [↓reduceIte, ↓e_lets, ↓e_ite, ↓e_cal, e_cal2, e_cal3, e_thr, e_nthrow, e_rtn, e_r0, e_r1, e_dv, iI_add, iI_sub, iI_mul, iI_neg, iI_div, iI_rem, iI_lt, iI_le, iI_eq, b_eq0, b_eq1, Int.reduceAdd, Int.reduceMul, Int.reduceSub, Int.reduceNeg, Int.reduceDiv, Int.reduceMod, Nat.reduceAdd, Bool.false_eq_true, eq_self, ltT, ltF, leT, leF, eqT, eqF, true_and, and_true, false_and, and_false, and_self, or_true, true_or, or_false, false_or, ne_eq, not_true_eq_false, not_false_eq_true, if_true, if_false, ite_true, ite_false, ite_not, some_none, some_some, none_some, none_none, li_0, li_1, li_2, li_3, li_4, li_5, li_6, li_7, li_8, li_9, li_10, li_11, li_12, li_13, li_14, li_15, li_16, li_17, li_18, li_19, li_20, li_21, li_22, li_23, li_24, li_25, li_26, li_27, li_28, li_29, li_30, li_31, li_32, li_63, li_64, li_99, li_100, li_128, li_240, li_256, li_512, li_960, li_1000, li_1022, li_1023, li_100000, li_m1, li_m1000, ↓m_g0 MR_Hm, ↓m_g1 MR_Hm, ↓m_g2 MR_Hm, ↓m_g3 MR_Hm, ↓m_g4 MR_Hm, ↓m_g5 MR_Hm, ↓m_g6 MR_Hm, ↓m_g7 MR_Hm, ↓m_g8 MR_Hm, ↓m_g9 MR_Hm, ↓m_g10 MR_Hm, ↓m_g11 MR_Hm, ↓m_g12 MR_Hm, ↓m_g13 MR_Hm, ↓m_g14 MR_Hm, ↓m_g15 MR_Hm, ↓m_g16 MR_Hm, ↓m_g17 MR_Hm, ↓m_g18 MR_Hm, ↓m_g19 MR_Hm, ↓m_g20 MR_Hm, ↓m_g21 MR_Hm, ↓m_g22 MR_Hm, ↓m_g23 MR_Hm, ↓m_g24 MR_Hm, ↓m_g25 MR_Hm, ↓m_g26 MR_Hm, ↓m_g27 MR_Hm, ↓m_ld0 MR_Hm, ↓m_ld1 MR_Hm, ↓m_ld2 MR_Hm, ↓m_ld3 MR_Hm, ↓m_ld4 MR_Hm, ↓m_ld5 MR_Hm, ↓m_ld6 MR_Hm, ↓m_ld7 MR_Hm, ↓m_ld8 MR_Hm, ↓m_ld9 MR_Hm, ↓m_ld10 MR_Hm, ↓m_ld11 MR_Hm, ↓m_ld12 MR_Hm, ↓m_ld13 MR_Hm, ↓m_ld14 MR_Hm, ↓m_ld15 MR_Hm, ↓m_ld16 MR_Hm, ↓m_ld17 MR_Hm, ↓m_ld18 MR_Hm, ↓m_ld19 MR_Hm, ↓m_rcv MR_Hm, ↓m_s0, ↓m_s1, ↓m_s2, ↓m_s3, ↓m_s4, ↓m_s5, ↓m_s6, ↓m_s7, ↓m_s8, ↓m_s9, ↓m_s10, ↓m_s11, ↓m_s12, ↓m_s13, ↓m_s14, ↓m_s15, ↓m_s16, ↓m_s17, ↓m_s18, ↓m_s19, ↓m_p0, ↓m_p1, ↓m_p2, ↓m_p3, ↓m_p4, ↓m_p5, ↓m_p6, ↓m_p7, upS_s, upS_g, upS_i]
  refine ⟨fun k => decide ((k : Int) < S 20 4 ∧ S 14 k < 0) && (!decide (k < (S 20 4).toNat) || !gu k), ?_⟩
  rw [u_j_X9_fill_80]
  have hq : (Hm m0 (hset P z.1 (bC (fun k => decide ((k : Int) < S 20 4 ∧ S 14 k < 0) && (!decide (k < (S 20 4).toNat) || !gu k)))) S, (z.1 + 1, z.2)).1 z.1 = some (bC (fun k => decide ((k : Int) < S 20 4 ∧ S 14 k < 0) && (!decide (k < (S 20 4).toNat) || !gu k))) := by
    show Hm m0 _ S z.1 = _
    rw [Hm_out hz, hset_s]
  have e2 := e_X9_hardestOf (MR_Hm (m0 := m0) (P := hset P z.1 (bC (fun k => decide ((k : Int) < S 20 4 ∧ S 14 k < 0) && (!decide (k < (S 20 4).toNat) || !gu k)))) (S := S) (z := (z.1 + 1, z.2))) hV hq
  have e3 : haQ S (fun k => decide ((k : Int) < S 20 4 ∧ S 14 k < 0) && (!decide (k < (S 20 4).toNat) || !gu k)) = fiQ S gu := by
    unfold fiQ
    refine haQ_c (fun k hk => ?_)
    rw [decide_eq_true hk]
    by_cases c : S 14 k < 0
    · rw [decide_eq_true c, decide_eq_true ⟨by omega, c⟩]; rfl
    · rw [decide_eq_false c, decide_eq_false (fun q => c q.2)]; rfl
  rw [e3] at e2
  simp -implicitDefEqProofs (disch := omega) only [↓reduceIte, ↓e_lets, ↓e_ite, ↓e_cal, e_cal2, e_cal3, e_thr, e_nthrow, e_rtn, e_r0, e_r1, e_dv, iI_add, iI_sub, iI_mul, iI_neg, iI_div, iI_rem, iI_lt, iI_le, iI_eq, b_eq0, b_eq1, Int.reduceAdd, Int.reduceMul, Int.reduceSub, Int.reduceNeg, Int.reduceDiv, Int.reduceMod, Nat.reduceAdd, Bool.false_eq_true, eq_self, ltT, ltF, leT, leF, eqT, eqF, true_and, and_true, false_and, and_false, and_self, or_true, true_or, or_false, false_or, ne_eq, not_true_eq_false, not_false_eq_true, if_true, if_false, ite_true, ite_false, ite_not, some_none, some_some, none_some, none_none, li_0, li_1, li_2, li_3, li_4, li_5, li_6, li_7, li_8, li_9, li_10, li_11, li_12, li_13, li_14, li_15, li_16, li_17, li_18, li_19, li_20, li_21, li_22, li_23, li_24, li_25, li_26, li_27, li_28, li_29, li_30, li_31, li_32, li_63, li_64, li_99, li_100, li_128, li_240, li_256, li_512, li_960, li_1000, li_1022, li_1023, li_100000, li_m1, li_m1000, ↓m_g0 MR_Hm, ↓m_g1 MR_Hm, ↓m_g2 MR_Hm, ↓m_g3 MR_Hm, ↓m_g4 MR_Hm, ↓m_g5 MR_Hm, ↓m_g6 MR_Hm, ↓m_g7 MR_Hm, ↓m_g8 MR_Hm, ↓m_g9 MR_Hm, ↓m_g10 MR_Hm, ↓m_g11 MR_Hm, ↓m_g12 MR_Hm, ↓m_g13 MR_Hm, ↓m_g14 MR_Hm, ↓m_g15 MR_Hm, ↓m_g16 MR_Hm, ↓m_g17 MR_Hm, ↓m_g18 MR_Hm, ↓m_g19 MR_Hm, ↓m_g20 MR_Hm, ↓m_g21 MR_Hm, ↓m_g22 MR_Hm, ↓m_g23 MR_Hm, ↓m_g24 MR_Hm, ↓m_g25 MR_Hm, ↓m_g26 MR_Hm, ↓m_g27 MR_Hm, ↓m_ld0 MR_Hm, ↓m_ld1 MR_Hm, ↓m_ld2 MR_Hm, ↓m_ld3 MR_Hm, ↓m_ld4 MR_Hm, ↓m_ld5 MR_Hm, ↓m_ld6 MR_Hm, ↓m_ld7 MR_Hm, ↓m_ld8 MR_Hm, ↓m_ld9 MR_Hm, ↓m_ld10 MR_Hm, ↓m_ld11 MR_Hm, ↓m_ld12 MR_Hm, ↓m_ld13 MR_Hm, ↓m_ld14 MR_Hm, ↓m_ld15 MR_Hm, ↓m_ld16 MR_Hm, ↓m_ld17 MR_Hm, ↓m_ld18 MR_Hm, ↓m_ld19 MR_Hm, ↓m_rcv MR_Hm, ↓m_s0, ↓m_s1, ↓m_s2, ↓m_s3, ↓m_s4, ↓m_s5, ↓m_s6, ↓m_s7, ↓m_s8, ↓m_s9, ↓m_s10, ↓m_s11, ↓m_s12, ↓m_s13, ↓m_s14, ↓m_s15, ↓m_s16, ↓m_s17, ↓m_s18, ↓m_s19, ↓m_p0, ↓m_p1, ↓m_p2, ↓m_p3, ↓m_p4, ↓m_p5, ↓m_p6, ↓m_p7, upS_s, upS_g, upS_i, e1, hL, e2]
theorem e_L_fi24 {m0 g b : Nat} (g0 : m0 + 20 < g) (gb : b ≤ g) (Kc : OO Int32) : ∀ (f F : Nat) (t : Int) (gu : Nat → Bool) (S : SS) (P : Hp) (z : Nat × Nat), muI S t gu < f → muI S t gu < F → 0 ≤ t → t ≤ 10 → VS S → P g = some (bC gu) → g < z.1 → ∃ P2 z2, L_X9_fill_24 (some m0) (some g) Kc f (iI t) (iI (fiQ S gu)) (Hm m0 P S, z) = Kc (Hm m0 P2 (fiS F S t gu), z2) ∧ FM b P z P2 z2 := by
  intro f
  induction f with
  | zero =>
    intro F t gu S P z h1 _ _ h4 _ _ _
    have := cntN_b (fun k => decide (S 14 k < 0) && !gu k) (S 20 4).toNat
    unfold muI at h1
    omega
  | succ f ih =>
    intro F t gu S P z h1 h2 h3 h4 hV hg g1
    have hm2 := hV.2.1
    unfold Bm at hm2
    have hcb := cntN_b (fun k => decide (S 14 k < 0) && !gu k) (S 20 4).toNat
    have hQ := haQ_b S (fun k => decide (S 14 k < 0) && !gu k) hV.2.1
    have hQp : 0 ≤ fiQ S gu → (decide (S 14 ((fiQ S gu).toNat : Nat) < 0) && !gu (fiQ S gu).toNat) = true := fun h => haQ_p h
    have hQ2 : -1 ≤ fiQ S gu ∧ fiQ S gu < S 20 4 := hQ
    clear hQ
    unfold muI at h1 h2
    obtain ⟨F, rfl⟩ : ∃ F2, F = F2 + 1 := ⟨F - 1, by omega⟩
    have eF : fiS (F + 1) S t gu = if fiQ S gu < 0 then S else if chP S (fiQ S gu) (-2) = -1 then (if t < 10 ∧ 0 ≤ thP S (fiQ S gu) 240 then fiS F (thS S (fiQ S gu) (thP S (fiQ S gu) 240)) (t + 1) gu else fiS F S t (fun k => gu k || decide ((k : Int) = fiQ S gu))) else fiS F (upS S 14 (fiQ S gu) (chP S (fiQ S gu) (-2))) t gu := rfl
    by_cases c : fiQ S gu < 0
    · rw [if_pos c] at eF
      rw [eF, u_L_X9_fill_24]
      refine ⟨P, z, ?_, FM.rfl⟩
      simp -implicitDefEqProofs (disch := omega) only [↓reduceIte, ↓e_lets, ↓e_ite, ↓e_cal, e_cal2, e_cal3, e_thr, e_nthrow, e_rtn, e_r0, e_r1, e_dv, iI_add, iI_sub, iI_mul, iI_neg, iI_div, iI_rem, iI_lt, iI_le, iI_eq, b_eq0, b_eq1, Int.reduceAdd, Int.reduceMul, Int.reduceSub, Int.reduceNeg, Int.reduceDiv, Int.reduceMod, Nat.reduceAdd, Bool.false_eq_true, eq_self, ltT, ltF, leT, leF, eqT, eqF, true_and, and_true, false_and, and_false, and_self, or_true, true_or, or_false, false_or, ne_eq, not_true_eq_false, not_false_eq_true, if_true, if_false, ite_true, ite_false, ite_not, some_none, some_some, none_some, none_none, li_0, li_1, li_2, li_3, li_4, li_5, li_6, li_7, li_8, li_9, li_10, li_11, li_12, li_13, li_14, li_15, li_16, li_17, li_18, li_19, li_20, li_21, li_22, li_23, li_24, li_25, li_26, li_27, li_28, li_29, li_30, li_31, li_32, li_63, li_64, li_99, li_100, li_128, li_240, li_256, li_512, li_960, li_1000, li_1022, li_1023, li_100000, li_m1, li_m1000, ↓m_g0 MR_Hm, ↓m_g1 MR_Hm, ↓m_g2 MR_Hm, ↓m_g3 MR_Hm, ↓m_g4 MR_Hm, ↓m_g5 MR_Hm, ↓m_g6 MR_Hm, ↓m_g7 MR_Hm, ↓m_g8 MR_Hm, ↓m_g9 MR_Hm, ↓m_g10 MR_Hm, ↓m_g11 MR_Hm, ↓m_g12 MR_Hm, ↓m_g13 MR_Hm, ↓m_g14 MR_Hm, ↓m_g15 MR_Hm, ↓m_g16 MR_Hm, ↓m_g17 MR_Hm, ↓m_g18 MR_Hm, ↓m_g19 MR_Hm, ↓m_g20 MR_Hm, ↓m_g21 MR_Hm, ↓m_g22 MR_Hm, ↓m_g23 MR_Hm, ↓m_g24 MR_Hm, ↓m_g25 MR_Hm, ↓m_g26 MR_Hm, ↓m_g27 MR_Hm, ↓m_ld0 MR_Hm, ↓m_ld1 MR_Hm, ↓m_ld2 MR_Hm, ↓m_ld3 MR_Hm, ↓m_ld4 MR_Hm, ↓m_ld5 MR_Hm, ↓m_ld6 MR_Hm, ↓m_ld7 MR_Hm, ↓m_ld8 MR_Hm, ↓m_ld9 MR_Hm, ↓m_ld10 MR_Hm, ↓m_ld11 MR_Hm, ↓m_ld12 MR_Hm, ↓m_ld13 MR_Hm, ↓m_ld14 MR_Hm, ↓m_ld15 MR_Hm, ↓m_ld16 MR_Hm, ↓m_ld17 MR_Hm, ↓m_ld18 MR_Hm, ↓m_ld19 MR_Hm, ↓m_rcv MR_Hm, ↓m_s0, ↓m_s1, ↓m_s2, ↓m_s3, ↓m_s4, ↓m_s5, ↓m_s6, ↓m_s7, ↓m_s8, ↓m_s9, ↓m_s10, ↓m_s11, ↓m_s12, ↓m_s13, ↓m_s14, ↓m_s15, ↓m_s16, ↓m_s17, ↓m_s18, ↓m_s19, ↓m_p0, ↓m_p1, ↓m_p2, ↓m_p3, ↓m_p4, ↓m_p5, ↓m_p6, ↓m_p7, upS_s, upS_g, upS_i]
    · rw [if_neg c] at eF
      have hQ3 := hQp (by omega)
      have hqe : (((fiQ S gu).toNat : Nat) : Int) = fiQ S gu := by omega
      rw [Bool.and_eq_true, decide_eq_true_eq, Bool.not_eq_true', hqe] at hQ3
      have e1 := e_cheapestOf (m0 := m0) (P := P) (z := z) hV (l := fiQ S gu) (by omega) hQ2.2
      have hch := chP_p hV (l := fiQ S gu) (x := -2) (by omega) hQ2.2
      have hVc := VS_ch hV (l := fiQ S gu) (x := -2) (by omega) hQ2.2
      have eT := e_throwsOut (m0 := m0) (P := P) (z := z) hV (l := fiQ S gu) (by omega) hQ2.2
      have hVt := fun h => VS_th hV (l := fiQ S gu) (by omega) hQ2.2 h
      generalize hq : fiQ S gu = q at *
      by_cases c2 : chP S q (-2) = -1
      · rw [if_pos c2] at eF
        rw [c2] at e1
        have giveup : ∃ P2 z2, j_X9_fill_75 (some m0) (some g) (iI t) (iI q) (L_X9_fill_24 (some m0) (some g) Kc f) (Hm m0 P S, z) = Kc (Hm m0 P2 (fiS F S t (fun k => gu k || decide ((k : Int) = q))), z2) ∧ FM b P z P2 z2 := by
          have hgq : (Hm m0 P S, z).1 g = some (bC gu) := by
            show Hm m0 P S g = _
            rw [Hm_out (Or.inr g0)]
            exact hg
          have e2 : (fun k => if k = q.toNat then decide ((1 : Int) = 1) else gu k) = fun k : Nat => gu k || decide ((k : Int) = q) := by
            funext k
            by_cases d : k = q.toNat
            · rw [if_pos d, decide_eq_true (show (k : Int) = q by omega), Bool.or_true]; rfl
            · rw [if_neg d, decide_eq_false (show ¬ (k : Int) = q by omega), Bool.or_false]
          have e3 := b_st hgq (i := q) (by omega) (by omega) (x := 1) (Or.inr rfl) (K := j_X9_fill_80 (some m0) (some g) (iI t) (L_X9_fill_24 (some m0) (some g) Kc f))
          rw [e2] at e3
          rw [u_j_X9_fill_75, li_1, e3]
          show ∃ P2 z2, j_X9_fill_80 (some m0) (some g) (iI t) (L_X9_fill_24 (some m0) (some g) Kc f) (hset (Hm m0 P S) g _, z) = _ ∧ _
          rw [Hm_hset (Or.inr g0)]
          obtain ⟨X, e4⟩ := e_j80 (m0 := m0) (P := hset P g (bC (fun k : Nat => gu k || decide ((k : Int) = q)))) (z := z) hV (g := g) hset_s g0 g1 t (L_X9_fill_24 (some m0) (some g) Kc f)
          rw [e4]
          have hd := cntN_dec (p := fun k => decide (S 14 k < 0) && !gu k) (q := fun k => decide (S 14 k < 0) && !(gu k || decide ((k : Int) = q))) (S 20 4).toNat q.toNat (fun k hk hne => by rw [decide_eq_false (show ¬ (k : Int) = q by omega), Bool.or_false]) (by omega) (by rw [hqe, decide_eq_true hQ3.1, hQ3.2]; rfl) (by rw [decide_eq_true hqe, Bool.or_true]; simp)
          have hmu : muI S t (fun k => gu k || decide ((k : Int) = q)) = 17 * (10 - t) + cntN (fun k => decide (S 14 k < 0) && !(gu k || decide ((k : Int) = q))) (S 20 4).toNat := rfl
          obtain ⟨P2, z2, e5, e6⟩ := ih F t (fun k => gu k || decide ((k : Int) = q)) S (hset (hset P g (bC (fun k : Nat => gu k || decide ((k : Int) = q)))) z.1 (bC X)) (z.1 + 1, z.2) (by rw [hmu]; omega) (by rw [hmu]; omega) h3 h4 hV (by rw [hset_n (by omega), hset_s]) (by show g < z.1 + 1; omega)
          exact ⟨P2, z2, e5, ((FM.st gb g1).tr (FM.nw (by omega))).tr e6⟩
        by_cases c3 : t < 10
        · by_cases c4 : 0 ≤ thP S q 240
          · have c34 : t < 10 ∧ 0 ≤ thP S q 240 := ⟨c3, c4⟩
            rw [if_pos c34] at eF
            rw [if_pos c4, if_pos c4] at eT
            have hVt := hVt c4
            have hg20 : thS S q (thP S q 240) 20 = S 20 := thS_g (by decide)
            obtain ⟨X, e4⟩ := e_j80 (m0 := m0) (P := P) (z := z) hVt hg g0 g1 (t + 1) (L_X9_fill_24 (some m0) (some g) Kc f)
            have hcb2 := cntN_b (fun k => decide (thS S q (thP S q 240) 14 k < 0) && !gu k) (S 20 4).toNat
            have hd : 1 ≤ cntN (fun k => decide (S 14 k < 0) && !gu k) (S 20 4).toNat := by
              have hge := sumN_ge (f := fun k : Nat => if (decide (S 14 k < 0) && !gu k) = true then (1 : Int) else 0) (S 20 4).toNat (fun k _ => by split <;> omega) q.toNat (by omega)
              have he : (decide (S 14 ((q.toNat : Nat) : Int) < 0) && !gu q.toNat) = true := by rw [hqe, decide_eq_true hQ3.1, hQ3.2]; rfl
              rw [if_pos he] at hge
              exact hge
            obtain ⟨P2, z2, e5, e6⟩ := ih F (t + 1) gu (thS S q (thP S q 240)) (hset P z.1 (bC X)) (z.1 + 1, z.2) (by unfold muI; rw [hg20]; omega) (by unfold muI; rw [hg20]; omega) (by omega) (by omega) hVt (by rw [hset_n (by omega)]; exact hg) (by show g < z.1 + 1; omega)
            refine ⟨P2, z2, ?_, (FM.nw (by omega)).tr e6⟩
            rw [eF]
            refine Eq.trans ?_ e5
            rw [u_L_X9_fill_24]
            simp -implicitDefEqProofs (disch := omega) only [↓reduceIte, ↓e_lets, ↓e_ite, ↓e_cal, e_cal2, e_cal3, e_thr, e_nthrow, e_rtn, e_r0, e_r1, e_dv, iI_add, iI_sub, iI_mul, iI_neg, iI_div, iI_rem, iI_lt, iI_le, iI_eq, b_eq0, b_eq1, Int.reduceAdd, Int.reduceMul, Int.reduceSub, Int.reduceNeg, Int.reduceDiv, Int.reduceMod, Nat.reduceAdd, Bool.false_eq_true, eq_self, ltT, ltF, leT, leF, eqT, eqF, true_and, and_true, false_and, and_false, and_self, or_true, true_or, or_false, false_or, ne_eq, not_true_eq_false, not_false_eq_true, if_true, if_false, ite_true, ite_false, ite_not, some_none, some_some, none_some, none_none, li_0, li_1, li_2, li_3, li_4, li_5, li_6, li_7, li_8, li_9, li_10, li_11, li_12, li_13, li_14, li_15, li_16, li_17, li_18, li_19, li_20, li_21, li_22, li_23, li_24, li_25, li_26, li_27, li_28, li_29, li_30, li_31, li_32, li_63, li_64, li_99, li_100, li_128, li_240, li_256, li_512, li_960, li_1000, li_1022, li_1023, li_100000, li_m1, li_m1000, ↓m_g0 MR_Hm, ↓m_g1 MR_Hm, ↓m_g2 MR_Hm, ↓m_g3 MR_Hm, ↓m_g4 MR_Hm, ↓m_g5 MR_Hm, ↓m_g6 MR_Hm, ↓m_g7 MR_Hm, ↓m_g8 MR_Hm, ↓m_g9 MR_Hm, ↓m_g10 MR_Hm, ↓m_g11 MR_Hm, ↓m_g12 MR_Hm, ↓m_g13 MR_Hm, ↓m_g14 MR_Hm, ↓m_g15 MR_Hm, ↓m_g16 MR_Hm, ↓m_g17 MR_Hm, ↓m_g18 MR_Hm, ↓m_g19 MR_Hm, ↓m_g20 MR_Hm, ↓m_g21 MR_Hm, ↓m_g22 MR_Hm, ↓m_g23 MR_Hm, ↓m_g24 MR_Hm, ↓m_g25 MR_Hm, ↓m_g26 MR_Hm, ↓m_g27 MR_Hm, ↓m_ld0 MR_Hm, ↓m_ld1 MR_Hm, ↓m_ld2 MR_Hm, ↓m_ld3 MR_Hm, ↓m_ld4 MR_Hm, ↓m_ld5 MR_Hm, ↓m_ld6 MR_Hm, ↓m_ld7 MR_Hm, ↓m_ld8 MR_Hm, ↓m_ld9 MR_Hm, ↓m_ld10 MR_Hm, ↓m_ld11 MR_Hm, ↓m_ld12 MR_Hm, ↓m_ld13 MR_Hm, ↓m_ld14 MR_Hm, ↓m_ld15 MR_Hm, ↓m_ld16 MR_Hm, ↓m_ld17 MR_Hm, ↓m_ld18 MR_Hm, ↓m_ld19 MR_Hm, ↓m_rcv MR_Hm, ↓m_s0, ↓m_s1, ↓m_s2, ↓m_s3, ↓m_s4, ↓m_s5, ↓m_s6, ↓m_s7, ↓m_s8, ↓m_s9, ↓m_s10, ↓m_s11, ↓m_s12, ↓m_s13, ↓m_s14, ↓m_s15, ↓m_s16, ↓m_s17, ↓m_s18, ↓m_s19, ↓m_p0, ↓m_p1, ↓m_p2, ↓m_p3, ↓m_p4, ↓m_p5, ↓m_p6, ↓m_p7, e1, eT, e4]
          · have c34 : ¬ (t < 10 ∧ 0 ≤ thP S q 240) := fun w => c4 w.2
            rw [if_neg c34] at eF
            rw [if_neg c4, if_neg c4] at eT
            obtain ⟨P2, z2, e5, e6⟩ := giveup
            refine ⟨P2, z2, ?_, e6⟩
            rw [eF]
            refine Eq.trans ?_ e5
            rw [u_L_X9_fill_24]
            simp -implicitDefEqProofs (disch := omega) only [↓reduceIte, ↓e_lets, ↓e_ite, ↓e_cal, e_cal2, e_cal3, e_thr, e_nthrow, e_rtn, e_r0, e_r1, e_dv, iI_add, iI_sub, iI_mul, iI_neg, iI_div, iI_rem, iI_lt, iI_le, iI_eq, b_eq0, b_eq1, Int.reduceAdd, Int.reduceMul, Int.reduceSub, Int.reduceNeg, Int.reduceDiv, Int.reduceMod, Nat.reduceAdd, Bool.false_eq_true, eq_self, ltT, ltF, leT, leF, eqT, eqF, true_and, and_true, false_and, and_false, and_self, or_true, true_or, or_false, false_or, ne_eq, not_true_eq_false, not_false_eq_true, if_true, if_false, ite_true, ite_false, ite_not, some_none, some_some, none_some, none_none, li_0, li_1, li_2, li_3, li_4, li_5, li_6, li_7, li_8, li_9, li_10, li_11, li_12, li_13, li_14, li_15, li_16, li_17, li_18, li_19, li_20, li_21, li_22, li_23, li_24, li_25, li_26, li_27, li_28, li_29, li_30, li_31, li_32, li_63, li_64, li_99, li_100, li_128, li_240, li_256, li_512, li_960, li_1000, li_1022, li_1023, li_100000, li_m1, li_m1000, ↓m_g0 MR_Hm, ↓m_g1 MR_Hm, ↓m_g2 MR_Hm, ↓m_g3 MR_Hm, ↓m_g4 MR_Hm, ↓m_g5 MR_Hm, ↓m_g6 MR_Hm, ↓m_g7 MR_Hm, ↓m_g8 MR_Hm, ↓m_g9 MR_Hm, ↓m_g10 MR_Hm, ↓m_g11 MR_Hm, ↓m_g12 MR_Hm, ↓m_g13 MR_Hm, ↓m_g14 MR_Hm, ↓m_g15 MR_Hm, ↓m_g16 MR_Hm, ↓m_g17 MR_Hm, ↓m_g18 MR_Hm, ↓m_g19 MR_Hm, ↓m_g20 MR_Hm, ↓m_g21 MR_Hm, ↓m_g22 MR_Hm, ↓m_g23 MR_Hm, ↓m_g24 MR_Hm, ↓m_g25 MR_Hm, ↓m_g26 MR_Hm, ↓m_g27 MR_Hm, ↓m_ld0 MR_Hm, ↓m_ld1 MR_Hm, ↓m_ld2 MR_Hm, ↓m_ld3 MR_Hm, ↓m_ld4 MR_Hm, ↓m_ld5 MR_Hm, ↓m_ld6 MR_Hm, ↓m_ld7 MR_Hm, ↓m_ld8 MR_Hm, ↓m_ld9 MR_Hm, ↓m_ld10 MR_Hm, ↓m_ld11 MR_Hm, ↓m_ld12 MR_Hm, ↓m_ld13 MR_Hm, ↓m_ld14 MR_Hm, ↓m_ld15 MR_Hm, ↓m_ld16 MR_Hm, ↓m_ld17 MR_Hm, ↓m_ld18 MR_Hm, ↓m_ld19 MR_Hm, ↓m_rcv MR_Hm, ↓m_s0, ↓m_s1, ↓m_s2, ↓m_s3, ↓m_s4, ↓m_s5, ↓m_s6, ↓m_s7, ↓m_s8, ↓m_s9, ↓m_s10, ↓m_s11, ↓m_s12, ↓m_s13, ↓m_s14, ↓m_s15, ↓m_s16, ↓m_s17, ↓m_s18, ↓m_s19, ↓m_p0, ↓m_p1, ↓m_p2, ↓m_p3, ↓m_p4, ↓m_p5, ↓m_p6, ↓m_p7, e1, eT]
        · have c34 : ¬ (t < 10 ∧ 0 ≤ thP S q 240) := fun w => c3 w.1
          rw [if_neg c34] at eF
          obtain ⟨P2, z2, e5, e6⟩ := giveup
          refine ⟨P2, z2, ?_, e6⟩
          rw [eF]
          refine Eq.trans ?_ e5
          rw [u_L_X9_fill_24]
          simp -implicitDefEqProofs (disch := omega) only [↓reduceIte, ↓e_lets, ↓e_ite, ↓e_cal, e_cal2, e_cal3, e_thr, e_nthrow, e_rtn, e_r0, e_r1, e_dv, iI_add, iI_sub, iI_mul, iI_neg, iI_div, iI_rem, iI_lt, iI_le, iI_eq, b_eq0, b_eq1, Int.reduceAdd, Int.reduceMul, Int.reduceSub, Int.reduceNeg, Int.reduceDiv, Int.reduceMod, Nat.reduceAdd, Bool.false_eq_true, eq_self, ltT, ltF, leT, leF, eqT, eqF, true_and, and_true, false_and, and_false, and_self, or_true, true_or, or_false, false_or, ne_eq, not_true_eq_false, not_false_eq_true, if_true, if_false, ite_true, ite_false, ite_not, some_none, some_some, none_some, none_none, li_0, li_1, li_2, li_3, li_4, li_5, li_6, li_7, li_8, li_9, li_10, li_11, li_12, li_13, li_14, li_15, li_16, li_17, li_18, li_19, li_20, li_21, li_22, li_23, li_24, li_25, li_26, li_27, li_28, li_29, li_30, li_31, li_32, li_63, li_64, li_99, li_100, li_128, li_240, li_256, li_512, li_960, li_1000, li_1022, li_1023, li_100000, li_m1, li_m1000, ↓m_g0 MR_Hm, ↓m_g1 MR_Hm, ↓m_g2 MR_Hm, ↓m_g3 MR_Hm, ↓m_g4 MR_Hm, ↓m_g5 MR_Hm, ↓m_g6 MR_Hm, ↓m_g7 MR_Hm, ↓m_g8 MR_Hm, ↓m_g9 MR_Hm, ↓m_g10 MR_Hm, ↓m_g11 MR_Hm, ↓m_g12 MR_Hm, ↓m_g13 MR_Hm, ↓m_g14 MR_Hm, ↓m_g15 MR_Hm, ↓m_g16 MR_Hm, ↓m_g17 MR_Hm, ↓m_g18 MR_Hm, ↓m_g19 MR_Hm, ↓m_g20 MR_Hm, ↓m_g21 MR_Hm, ↓m_g22 MR_Hm, ↓m_g23 MR_Hm, ↓m_g24 MR_Hm, ↓m_g25 MR_Hm, ↓m_g26 MR_Hm, ↓m_g27 MR_Hm, ↓m_ld0 MR_Hm, ↓m_ld1 MR_Hm, ↓m_ld2 MR_Hm, ↓m_ld3 MR_Hm, ↓m_ld4 MR_Hm, ↓m_ld5 MR_Hm, ↓m_ld6 MR_Hm, ↓m_ld7 MR_Hm, ↓m_ld8 MR_Hm, ↓m_ld9 MR_Hm, ↓m_ld10 MR_Hm, ↓m_ld11 MR_Hm, ↓m_ld12 MR_Hm, ↓m_ld13 MR_Hm, ↓m_ld14 MR_Hm, ↓m_ld15 MR_Hm, ↓m_ld16 MR_Hm, ↓m_ld17 MR_Hm, ↓m_ld18 MR_Hm, ↓m_ld19 MR_Hm, ↓m_rcv MR_Hm, ↓m_s0, ↓m_s1, ↓m_s2, ↓m_s3, ↓m_s4, ↓m_s5, ↓m_s6, ↓m_s7, ↓m_s8, ↓m_s9, ↓m_s10, ↓m_s11, ↓m_s12, ↓m_s13, ↓m_s14, ↓m_s15, ↓m_s16, ↓m_s17, ↓m_s18, ↓m_s19, ↓m_p0, ↓m_p1, ↓m_p2, ↓m_p3, ↓m_p4, ↓m_p5, ↓m_p6, ↓m_p7, e1]
      · rw [if_neg c2] at eF
        have hch := hch.resolve_left c2
        obtain ⟨X, e4⟩ := e_j80 (m0 := m0) (P := P) (z := z) hVc hg g0 g1 t (L_X9_fill_24 (some m0) (some g) Kc f)
        have hd := cntN_dec (p := fun k => decide (S 14 k < 0) && !gu k) (q := fun k => decide (upS S 14 q (chP S q (-2)) 14 k < 0) && !gu k) (S 20 4).toNat q.toNat (fun k hk hne => by rw [upS_i (by omega)]) (by omega) (by rw [hqe, decide_eq_true hQ3.1, hQ3.2]; rfl) (by rw [hqe, upS_s, decide_eq_false (by omega)]; rfl)
        have hmu2 : muI (upS S 14 q (chP S q (-2))) t gu = 17 * (10 - t) + cntN (fun k => decide (upS S 14 q (chP S q (-2)) 14 k < 0) && !gu k) (S 20 4).toNat := rfl
        obtain ⟨P2, z2, e5, e6⟩ := ih F t gu (upS S 14 q (chP S q (-2))) (hset P z.1 (bC X)) (z.1 + 1, z.2) (by rw [hmu2]; omega) (by rw [hmu2]; omega) h3 h4 hVc (by rw [hset_n (by omega)]; exact hg) (by show g < z.1 + 1; omega)
        refine ⟨P2, z2, ?_, (FM.nw (by omega)).tr e6⟩
        rw [eF]
        refine Eq.trans ?_ e5
        rw [u_L_X9_fill_24]
        simp -implicitDefEqProofs (disch := omega) only [↓reduceIte, ↓e_lets, ↓e_ite, ↓e_cal, e_cal2, e_cal3, e_thr, e_nthrow, e_rtn, e_r0, e_r1, e_dv, iI_add, iI_sub, iI_mul, iI_neg, iI_div, iI_rem, iI_lt, iI_le, iI_eq, b_eq0, b_eq1, Int.reduceAdd, Int.reduceMul, Int.reduceSub, Int.reduceNeg, Int.reduceDiv, Int.reduceMod, Nat.reduceAdd, Bool.false_eq_true, eq_self, ltT, ltF, leT, leF, eqT, eqF, true_and, and_true, false_and, and_false, and_self, or_true, true_or, or_false, false_or, ne_eq, not_true_eq_false, not_false_eq_true, if_true, if_false, ite_true, ite_false, ite_not, some_none, some_some, none_some, none_none, li_0, li_1, li_2, li_3, li_4, li_5, li_6, li_7, li_8, li_9, li_10, li_11, li_12, li_13, li_14, li_15, li_16, li_17, li_18, li_19, li_20, li_21, li_22, li_23, li_24, li_25, li_26, li_27, li_28, li_29, li_30, li_31, li_32, li_63, li_64, li_99, li_100, li_128, li_240, li_256, li_512, li_960, li_1000, li_1022, li_1023, li_100000, li_m1, li_m1000, ↓m_g0 MR_Hm, ↓m_g1 MR_Hm, ↓m_g2 MR_Hm, ↓m_g3 MR_Hm, ↓m_g4 MR_Hm, ↓m_g5 MR_Hm, ↓m_g6 MR_Hm, ↓m_g7 MR_Hm, ↓m_g8 MR_Hm, ↓m_g9 MR_Hm, ↓m_g10 MR_Hm, ↓m_g11 MR_Hm, ↓m_g12 MR_Hm, ↓m_g13 MR_Hm, ↓m_g14 MR_Hm, ↓m_g15 MR_Hm, ↓m_g16 MR_Hm, ↓m_g17 MR_Hm, ↓m_g18 MR_Hm, ↓m_g19 MR_Hm, ↓m_g20 MR_Hm, ↓m_g21 MR_Hm, ↓m_g22 MR_Hm, ↓m_g23 MR_Hm, ↓m_g24 MR_Hm, ↓m_g25 MR_Hm, ↓m_g26 MR_Hm, ↓m_g27 MR_Hm, ↓m_ld0 MR_Hm, ↓m_ld1 MR_Hm, ↓m_ld2 MR_Hm, ↓m_ld3 MR_Hm, ↓m_ld4 MR_Hm, ↓m_ld5 MR_Hm, ↓m_ld6 MR_Hm, ↓m_ld7 MR_Hm, ↓m_ld8 MR_Hm, ↓m_ld9 MR_Hm, ↓m_ld10 MR_Hm, ↓m_ld11 MR_Hm, ↓m_ld12 MR_Hm, ↓m_ld13 MR_Hm, ↓m_ld14 MR_Hm, ↓m_ld15 MR_Hm, ↓m_ld16 MR_Hm, ↓m_ld17 MR_Hm, ↓m_ld18 MR_Hm, ↓m_ld19 MR_Hm, ↓m_rcv MR_Hm, ↓m_s0, ↓m_s1, ↓m_s2, ↓m_s3, ↓m_s4, ↓m_s5, ↓m_s6, ↓m_s7, ↓m_s8, ↓m_s9, ↓m_s10, ↓m_s11, ↓m_s12, ↓m_s13, ↓m_s14, ↓m_s15, ↓m_s16, ↓m_s17, ↓m_s18, ↓m_s19, ↓m_p0, ↓m_p1, ↓m_p2, ↓m_p3, ↓m_p4, ↓m_p5, ↓m_p6, ↓m_p7, e1, e4]
theorem e_L_fi142 {m0 : Nat} {P : Hp} {S : SS} {z : Nat × Nat} (hV : VS S) : L_X9_fill_142 (some m0) (fun v33 => rtn v33) 300 (iI 0) (iI 0) (Hm m0 P S, z) = some (.ok (iI (cntN (fun k => decide (S 14 k < 0)) (S 20 4).toNat)), (Hm m0 P S, z)) := by
  obtain ⟨hb, hm, hv⟩ := hV
  have hm2 := hm
  unfold Bm at hm2
  have h9 : (((S 20 4).toNat : Nat) : Int) = S 20 4 := by omega
  refine loopD (fun f (t : Int32 × Int32) => L_X9_fill_142 (some m0) (fun v33 => rtn v33) f t.1 t.2 (Hm m0 P S, z)) (fun m => (iI (cntN (fun k => decide (S 14 k < 0)) m), iI (m : Int))) (S 20 4).toNat _ (fun k f hk => ?_) (fun f => ?_) 300 (by omega)
  · show L_X9_fill_142 (some m0) (fun v33 => rtn v33) (f + 1) (iI (cntN (fun k => decide (S 14 k < 0)) k)) (iI (k : Int)) (Hm m0 P S, z) = L_X9_fill_142 (some m0) (fun v33 => rtn v33) f (iI (cntN (fun k => decide (S 14 k < 0)) k + (if decide (S 14 k < 0) = true then 1 else 0))) (iI ((k : Int) + 1)) (Hm m0 P S, z)
    have hk3 := hb (k : Int)
    have e1 := e_X9_isPlaced (MR_Hm (m0 := m0) (P := P) (S := S) (z := z)) (l := (k : Int)) (by omega) (by omega) (by omega)
    rw [u_L_X9_fill_142]
    by_cases c : S 14 k < 0
    · rw [if_neg (by omega)] at e1
      rw [decide_eq_true c]
      simp -implicitDefEqProofs (disch := omega) only [↓reduceIte, ↓e_lets, ↓e_ite, ↓e_cal, e_cal2, e_cal3, e_thr, e_nthrow, e_rtn, e_r0, e_r1, e_dv, iI_add, iI_sub, iI_mul, iI_neg, iI_div, iI_rem, iI_lt, iI_le, iI_eq, b_eq0, b_eq1, Int.reduceAdd, Int.reduceMul, Int.reduceSub, Int.reduceNeg, Int.reduceDiv, Int.reduceMod, Nat.reduceAdd, Bool.false_eq_true, eq_self, ltT, ltF, leT, leF, eqT, eqF, true_and, and_true, false_and, and_false, and_self, or_true, true_or, or_false, false_or, ne_eq, not_true_eq_false, not_false_eq_true, if_true, if_false, ite_true, ite_false, ite_not, some_none, some_some, none_some, none_none, li_0, li_1, li_2, li_3, li_4, li_5, li_6, li_7, li_8, li_9, li_10, li_11, li_12, li_13, li_14, li_15, li_16, li_17, li_18, li_19, li_20, li_21, li_22, li_23, li_24, li_25, li_26, li_27, li_28, li_29, li_30, li_31, li_32, li_63, li_64, li_99, li_100, li_128, li_240, li_256, li_512, li_960, li_1000, li_1022, li_1023, li_100000, li_m1, li_m1000, ↓m_g0 MR_Hm, ↓m_g1 MR_Hm, ↓m_g2 MR_Hm, ↓m_g3 MR_Hm, ↓m_g4 MR_Hm, ↓m_g5 MR_Hm, ↓m_g6 MR_Hm, ↓m_g7 MR_Hm, ↓m_g8 MR_Hm, ↓m_g9 MR_Hm, ↓m_g10 MR_Hm, ↓m_g11 MR_Hm, ↓m_g12 MR_Hm, ↓m_g13 MR_Hm, ↓m_g14 MR_Hm, ↓m_g15 MR_Hm, ↓m_g16 MR_Hm, ↓m_g17 MR_Hm, ↓m_g18 MR_Hm, ↓m_g19 MR_Hm, ↓m_g20 MR_Hm, ↓m_g21 MR_Hm, ↓m_g22 MR_Hm, ↓m_g23 MR_Hm, ↓m_g24 MR_Hm, ↓m_g25 MR_Hm, ↓m_g26 MR_Hm, ↓m_g27 MR_Hm, ↓m_ld0 MR_Hm, ↓m_ld1 MR_Hm, ↓m_ld2 MR_Hm, ↓m_ld3 MR_Hm, ↓m_ld4 MR_Hm, ↓m_ld5 MR_Hm, ↓m_ld6 MR_Hm, ↓m_ld7 MR_Hm, ↓m_ld8 MR_Hm, ↓m_ld9 MR_Hm, ↓m_ld10 MR_Hm, ↓m_ld11 MR_Hm, ↓m_ld12 MR_Hm, ↓m_ld13 MR_Hm, ↓m_ld14 MR_Hm, ↓m_ld15 MR_Hm, ↓m_ld16 MR_Hm, ↓m_ld17 MR_Hm, ↓m_ld18 MR_Hm, ↓m_ld19 MR_Hm, ↓m_rcv MR_Hm, ↓m_s0, ↓m_s1, ↓m_s2, ↓m_s3, ↓m_s4, ↓m_s5, ↓m_s6, ↓m_s7, ↓m_s8, ↓m_s9, ↓m_s10, ↓m_s11, ↓m_s12, ↓m_s13, ↓m_s14, ↓m_s15, ↓m_s16, ↓m_s17, ↓m_s18, ↓m_s19, ↓m_p0, ↓m_p1, ↓m_p2, ↓m_p3, ↓m_p4, ↓m_p5, ↓m_p6, ↓m_p7, upS_s, upS_g, upS_i, e1, ↓u_j_X9_fill_167]
    · rw [if_pos (by omega)] at e1
      rw [decide_eq_false c]
      simp -implicitDefEqProofs (disch := omega) only [↓reduceIte, ↓e_lets, ↓e_ite, ↓e_cal, e_cal2, e_cal3, e_thr, e_nthrow, e_rtn, e_r0, e_r1, e_dv, iI_add, iI_sub, iI_mul, iI_neg, iI_div, iI_rem, iI_lt, iI_le, iI_eq, b_eq0, b_eq1, Int.reduceAdd, Int.reduceMul, Int.reduceSub, Int.reduceNeg, Int.reduceDiv, Int.reduceMod, Nat.reduceAdd, Bool.false_eq_true, eq_self, ltT, ltF, leT, leF, eqT, eqF, true_and, and_true, false_and, and_false, and_self, or_true, true_or, or_false, false_or, ne_eq, not_true_eq_false, not_false_eq_true, if_true, if_false, ite_true, ite_false, ite_not, some_none, some_some, none_some, none_none, li_0, li_1, li_2, li_3, li_4, li_5, li_6, li_7, li_8, li_9, li_10, li_11, li_12, li_13, li_14, li_15, li_16, li_17, li_18, li_19, li_20, li_21, li_22, li_23, li_24, li_25, li_26, li_27, li_28, li_29, li_30, li_31, li_32, li_63, li_64, li_99, li_100, li_128, li_240, li_256, li_512, li_960, li_1000, li_1022, li_1023, li_100000, li_m1, li_m1000, ↓m_g0 MR_Hm, ↓m_g1 MR_Hm, ↓m_g2 MR_Hm, ↓m_g3 MR_Hm, ↓m_g4 MR_Hm, ↓m_g5 MR_Hm, ↓m_g6 MR_Hm, ↓m_g7 MR_Hm, ↓m_g8 MR_Hm, ↓m_g9 MR_Hm, ↓m_g10 MR_Hm, ↓m_g11 MR_Hm, ↓m_g12 MR_Hm, ↓m_g13 MR_Hm, ↓m_g14 MR_Hm, ↓m_g15 MR_Hm, ↓m_g16 MR_Hm, ↓m_g17 MR_Hm, ↓m_g18 MR_Hm, ↓m_g19 MR_Hm, ↓m_g20 MR_Hm, ↓m_g21 MR_Hm, ↓m_g22 MR_Hm, ↓m_g23 MR_Hm, ↓m_g24 MR_Hm, ↓m_g25 MR_Hm, ↓m_g26 MR_Hm, ↓m_g27 MR_Hm, ↓m_ld0 MR_Hm, ↓m_ld1 MR_Hm, ↓m_ld2 MR_Hm, ↓m_ld3 MR_Hm, ↓m_ld4 MR_Hm, ↓m_ld5 MR_Hm, ↓m_ld6 MR_Hm, ↓m_ld7 MR_Hm, ↓m_ld8 MR_Hm, ↓m_ld9 MR_Hm, ↓m_ld10 MR_Hm, ↓m_ld11 MR_Hm, ↓m_ld12 MR_Hm, ↓m_ld13 MR_Hm, ↓m_ld14 MR_Hm, ↓m_ld15 MR_Hm, ↓m_ld16 MR_Hm, ↓m_ld17 MR_Hm, ↓m_ld18 MR_Hm, ↓m_ld19 MR_Hm, ↓m_rcv MR_Hm, ↓m_s0, ↓m_s1, ↓m_s2, ↓m_s3, ↓m_s4, ↓m_s5, ↓m_s6, ↓m_s7, ↓m_s8, ↓m_s9, ↓m_s10, ↓m_s11, ↓m_s12, ↓m_s13, ↓m_s14, ↓m_s15, ↓m_s16, ↓m_s17, ↓m_s18, ↓m_s19, ↓m_p0, ↓m_p1, ↓m_p2, ↓m_p3, ↓m_p4, ↓m_p5, ↓m_p6, ↓m_p7, upS_s, upS_g, upS_i, e1, ↓u_j_X9_fill_167]
  · show L_X9_fill_142 (some m0) (fun v33 => rtn v33) (f + 1) (iI (cntN (fun k => decide (S 14 k < 0)) (S 20 4).toNat)) (iI (((S 20 4).toNat : Nat) : Int)) (Hm m0 P S, z) = _
    rw [h9, u_L_X9_fill_142]
    simp -implicitDefEqProofs (disch := omega) only [↓reduceIte, ↓e_lets, ↓e_ite, ↓e_cal, e_cal2, e_cal3, e_thr, e_nthrow, e_rtn, e_r0, e_r1, e_dv, iI_add, iI_sub, iI_mul, iI_neg, iI_div, iI_rem, iI_lt, iI_le, iI_eq, b_eq0, b_eq1, Int.reduceAdd, Int.reduceMul, Int.reduceSub, Int.reduceNeg, Int.reduceDiv, Int.reduceMod, Nat.reduceAdd, Bool.false_eq_true, eq_self, ltT, ltF, leT, leF, eqT, eqF, true_and, and_true, false_and, and_false, and_self, or_true, true_or, or_false, false_or, ne_eq, not_true_eq_false, not_false_eq_true, if_true, if_false, ite_true, ite_false, ite_not, some_none, some_some, none_some, none_none, li_0, li_1, li_2, li_3, li_4, li_5, li_6, li_7, li_8, li_9, li_10, li_11, li_12, li_13, li_14, li_15, li_16, li_17, li_18, li_19, li_20, li_21, li_22, li_23, li_24, li_25, li_26, li_27, li_28, li_29, li_30, li_31, li_32, li_63, li_64, li_99, li_100, li_128, li_240, li_256, li_512, li_960, li_1000, li_1022, li_1023, li_100000, li_m1, li_m1000, ↓m_g0 MR_Hm, ↓m_g1 MR_Hm, ↓m_g2 MR_Hm, ↓m_g3 MR_Hm, ↓m_g4 MR_Hm, ↓m_g5 MR_Hm, ↓m_g6 MR_Hm, ↓m_g7 MR_Hm, ↓m_g8 MR_Hm, ↓m_g9 MR_Hm, ↓m_g10 MR_Hm, ↓m_g11 MR_Hm, ↓m_g12 MR_Hm, ↓m_g13 MR_Hm, ↓m_g14 MR_Hm, ↓m_g15 MR_Hm, ↓m_g16 MR_Hm, ↓m_g17 MR_Hm, ↓m_g18 MR_Hm, ↓m_g19 MR_Hm, ↓m_g20 MR_Hm, ↓m_g21 MR_Hm, ↓m_g22 MR_Hm, ↓m_g23 MR_Hm, ↓m_g24 MR_Hm, ↓m_g25 MR_Hm, ↓m_g26 MR_Hm, ↓m_g27 MR_Hm, ↓m_ld0 MR_Hm, ↓m_ld1 MR_Hm, ↓m_ld2 MR_Hm, ↓m_ld3 MR_Hm, ↓m_ld4 MR_Hm, ↓m_ld5 MR_Hm, ↓m_ld6 MR_Hm, ↓m_ld7 MR_Hm, ↓m_ld8 MR_Hm, ↓m_ld9 MR_Hm, ↓m_ld10 MR_Hm, ↓m_ld11 MR_Hm, ↓m_ld12 MR_Hm, ↓m_ld13 MR_Hm, ↓m_ld14 MR_Hm, ↓m_ld15 MR_Hm, ↓m_ld16 MR_Hm, ↓m_ld17 MR_Hm, ↓m_ld18 MR_Hm, ↓m_ld19 MR_Hm, ↓m_rcv MR_Hm, ↓m_s0, ↓m_s1, ↓m_s2, ↓m_s3, ↓m_s4, ↓m_s5, ↓m_s6, ↓m_s7, ↓m_s8, ↓m_s9, ↓m_s10, ↓m_s11, ↓m_s12, ↓m_s13, ↓m_s14, ↓m_s15, ↓m_s16, ↓m_s17, ↓m_s18, ↓m_s19, ↓m_p0, ↓m_p1, ↓m_p2, ↓m_p3, ↓m_p4, ↓m_p5, ↓m_p6, ↓m_p7, upS_s, upS_g, upS_i]
theorem x_fill {m0 : Nat} {P : Hp} {S : SS} {z : Nat × Nat} (hV : VS (upS S 20 0 0)) (hz : m0 + 20 < z.1) : ∃ P2 z2, f_X9_fill m0 (Hm m0 P S, z) = some (.ok (iI (cntN (fun k => decide (fiS 1000 (upS S 20 0 0) 0 (fun _ => false) 14 k < 0)) (upS S 20 0 0 20 4).toNat)), (Hm m0 P2 (fiS 1000 (upS S 20 0 0) 0 (fun _ => false)), z2)) ∧ FM z.1 P z P2 z2 := by
  rw [u_f_X9_fill, li_0, m_p0]
  generalize upS S 20 0 0 = S at *
  have hm2 := hV.2.1
  unfold Bm at hm2
  rw [li_16, e_nw hz, e_lets, e_lets]
  have e1 := e_X9_unplaced (m0 := m0) (P := hset P z.1 (bC (fun _ => false))) (z := (z.1 + 1, z.2)) hV (Or.inr (by show m0 + 20 < z.1 + 1; omega))
  generalize hX : bC (fun k => decide ((k : Int) < S 20 4 ∧ S 14 k < 0)) = X at e1
  have hq : (Hm m0 (hset (hset P z.1 (bC (fun _ => false))) (z.1 + 1) X) S, (z.1 + 1 + 1, z.2)).1 (z.1 + 1) = some (bC (fun k => decide ((k : Int) < S 20 4 ∧ S 14 k < 0))) := by
    show Hm m0 _ S (z.1 + 1) = _
    rw [Hm_out (Or.inr (by omega)), hset_s, hX]
  have e2 := e_X9_hardestOf (MR_Hm (m0 := m0) (P := hset (hset P z.1 (bC (fun _ => false))) (z.1 + 1) X) (S := S) (z := (z.1 + 1 + 1, z.2))) hV hq
  have e3 : haQ S (fun k => decide ((k : Int) < S 20 4 ∧ S 14 k < 0)) = fiQ S (fun _ => false) := by
    unfold fiQ
    refine haQ_c (fun k hk => ?_)
    by_cases c : S 14 k < 0
    · rw [decide_eq_true c, decide_eq_true ⟨by omega, c⟩]; rfl
    · rw [decide_eq_false c, decide_eq_false (fun q => c q.2)]; rfl
  rw [e3] at e2
  have hcb := cntN_b (fun k => decide (S 14 k < 0) && !false) (S 20 4).toNat
  have hmu3 : muI S 0 (fun _ => false) = 17 * (10 - 0) + cntN (fun k => decide (S 14 k < 0) && !false) (S 20 4).toNat := rfl
  obtain ⟨P2, z2, e4, e5⟩ := e_L_fi24 (m0 := m0) (g := z.1) (b := z.1) hz (Nat.le_refl _) (lets (iI 0) fun v26 => lets (iI 0) fun v27 => L_X9_fill_142 (some m0) (fun v33 => rtn v33) 300 v26 v27) 300 1000 0 (fun _ => false) S (hset (hset P z.1 (bC (fun _ => false))) (z.1 + 1) X) (z.1 + 1 + 1, z.2) (by rw [hmu3]; omega) (by rw [hmu3]; omega) (by decide) (by decide) hV (by rw [hset_n (by omega), hset_s]) (by show z.1 < z.1 + 1 + 1; omega)
  have hVf := VS_fi 1000 S 0 (fun _ => false) hV
  have e6 := e_L_fi142 (m0 := m0) (P := P2) (z := z2) hVf
  rw [fiS_20] at e6
  refine ⟨P2, z2, ?_, ?_⟩
  · rw [e_lets, e_lets, e6] at e4
    refine Eq.trans ?_ e4
    simp -implicitDefEqProofs (disch := omega) only [↓reduceIte, ↓e_lets, ↓e_ite, ↓e_cal, e_cal2, e_cal3, e_thr, e_nthrow, e_rtn, e_r0, e_r1, e_dv, iI_add, iI_sub, iI_mul, iI_neg, iI_div, iI_rem, iI_lt, iI_le, iI_eq, b_eq0, b_eq1, Int.reduceAdd, Int.reduceMul, Int.reduceSub, Int.reduceNeg, Int.reduceDiv, Int.reduceMod, Nat.reduceAdd, Bool.false_eq_true, eq_self, ltT, ltF, leT, leF, eqT, eqF, true_and, and_true, false_and, and_false, and_self, or_true, true_or, or_false, false_or, ne_eq, not_true_eq_false, not_false_eq_true, if_true, if_false, ite_true, ite_false, ite_not, some_none, some_some, none_some, none_none, li_0, li_1, li_2, li_3, li_4, li_5, li_6, li_7, li_8, li_9, li_10, li_11, li_12, li_13, li_14, li_15, li_16, li_17, li_18, li_19, li_20, li_21, li_22, li_23, li_24, li_25, li_26, li_27, li_28, li_29, li_30, li_31, li_32, li_63, li_64, li_99, li_100, li_128, li_240, li_256, li_512, li_960, li_1000, li_1022, li_1023, li_100000, li_m1, li_m1000, ↓m_g0 MR_Hm, ↓m_g1 MR_Hm, ↓m_g2 MR_Hm, ↓m_g3 MR_Hm, ↓m_g4 MR_Hm, ↓m_g5 MR_Hm, ↓m_g6 MR_Hm, ↓m_g7 MR_Hm, ↓m_g8 MR_Hm, ↓m_g9 MR_Hm, ↓m_g10 MR_Hm, ↓m_g11 MR_Hm, ↓m_g12 MR_Hm, ↓m_g13 MR_Hm, ↓m_g14 MR_Hm, ↓m_g15 MR_Hm, ↓m_g16 MR_Hm, ↓m_g17 MR_Hm, ↓m_g18 MR_Hm, ↓m_g19 MR_Hm, ↓m_g20 MR_Hm, ↓m_g21 MR_Hm, ↓m_g22 MR_Hm, ↓m_g23 MR_Hm, ↓m_g24 MR_Hm, ↓m_g25 MR_Hm, ↓m_g26 MR_Hm, ↓m_g27 MR_Hm, ↓m_ld0 MR_Hm, ↓m_ld1 MR_Hm, ↓m_ld2 MR_Hm, ↓m_ld3 MR_Hm, ↓m_ld4 MR_Hm, ↓m_ld5 MR_Hm, ↓m_ld6 MR_Hm, ↓m_ld7 MR_Hm, ↓m_ld8 MR_Hm, ↓m_ld9 MR_Hm, ↓m_ld10 MR_Hm, ↓m_ld11 MR_Hm, ↓m_ld12 MR_Hm, ↓m_ld13 MR_Hm, ↓m_ld14 MR_Hm, ↓m_ld15 MR_Hm, ↓m_ld16 MR_Hm, ↓m_ld17 MR_Hm, ↓m_ld18 MR_Hm, ↓m_ld19 MR_Hm, ↓m_rcv MR_Hm, ↓m_s0, ↓m_s1, ↓m_s2, ↓m_s3, ↓m_s4, ↓m_s5, ↓m_s6, ↓m_s7, ↓m_s8, ↓m_s9, ↓m_s10, ↓m_s11, ↓m_s12, ↓m_s13, ↓m_s14, ↓m_s15, ↓m_s16, ↓m_s17, ↓m_s18, ↓m_s19, ↓m_p0, ↓m_p1, ↓m_p2, ↓m_p3, ↓m_p4, ↓m_p5, ↓m_p6, ↓m_p7, e1, e2]
  · refine FM.tr (FM.nw (Nat.le_refl _)) (FM.tr (z2 := (z.1 + 1 + 1, z.2)) (FM.nw (z := (z.1 + 1, z.2)) (by show z.1 ≤ z.1 + 1; omega)) e5)
