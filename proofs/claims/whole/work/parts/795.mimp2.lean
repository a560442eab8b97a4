/-! PURE LAYER: the reference: improving, the steps -/
theorem x_ck1 {m0 : Nat} {P : Hp} {S : SS} {z : Nat × Nat} : f_X9_checked m0 (iI 1) (Hm m0 P S, z) = some (.ok (iI 0), (Hm m0 P (upS S 20 0 0), z)) := by
  rw [u_f_X9_checked]
  simp -implicitDefEqProofs (disch := omega) only [↓reduceIte, ↓e_lets, ↓e_ite, ↓e_cal, e_cal2, e_cal3, e_thr, e_nthrow, e_rtn, e_r0, e_r1, e_dv, iI_add, iI_sub, iI_mul, iI_neg, iI_div, iI_rem, iI_lt, iI_le, iI_eq, b_eq0, b_eq1, Int.reduceAdd, Int.reduceMul, Int.reduceSub, Int.reduceNeg, Int.reduceDiv, Int.reduceMod, Nat.reduceAdd, Bool.false_eq_true, eq_self, ltT, ltF, leT, leF, eqT, eqF, true_and, and_true, false_and, and_false, and_self, or_true, true_or, or_false, false_or, ne_eq, not_true_eq_false, not_false_eq_true, if_true, if_false, ite_true, ite_false, ite_not, some_none, some_some, none_some, none_none, li_0, li_1, li_2, li_3, li_4, li_5, li_6, li_7, li_8, li_9, li_10, li_11, li_12, li_13, li_14, li_15, li_16, li_17, li_18, li_19, li_20, li_21, li_22, li_23, li_24, li_25, li_26, li_27, li_28, li_29, li_30, li_31, li_32, li_63, li_64, li_99, li_100, li_128, li_240, li_256, li_512, li_960, li_1000, li_1022, li_1023, li_100000, li_m1, li_m1000, ↓m_g0 MR_Hm, ↓m_g1 MR_Hm, ↓m_g2 MR_Hm, ↓m_g3 MR_Hm, ↓m_g4 MR_Hm, ↓m_g5 MR_Hm, ↓m_g6 MR_Hm, ↓m_g7 MR_Hm, ↓m_g8 MR_Hm, ↓m_g9 MR_Hm, ↓m_g10 MR_Hm, ↓m_g11 MR_Hm, ↓m_g12 MR_Hm, ↓m_g13 MR_Hm, ↓m_g14 MR_Hm, ↓m_g15 MR_Hm, ↓m_g16 MR_Hm, ↓m_g17 MR_Hm, ↓m_g18 MR_Hm, ↓m_g19 MR_Hm, ↓m_g20 MR_Hm, ↓m_g21 MR_Hm, ↓m_g22 MR_Hm, ↓m_g23 MR_Hm, ↓m_g24 MR_Hm, ↓m_g25 MR_Hm, ↓m_g26 MR_Hm, ↓m_g27 MR_Hm, ↓m_ld0 MR_Hm, ↓m_ld1 MR_Hm, ↓m_ld2 MR_Hm, ↓m_ld3 MR_Hm, ↓m_ld4 MR_Hm, ↓m_ld5 MR_Hm, ↓m_ld6 MR_Hm, ↓m_ld7 MR_Hm, ↓m_ld8 MR_Hm, ↓m_ld9 MR_Hm, ↓m_ld10 MR_Hm, ↓m_ld11 MR_Hm, ↓m_ld12 MR_Hm, ↓m_ld13 MR_Hm, ↓m_ld14 MR_Hm, ↓m_ld15 MR_Hm, ↓m_ld16 MR_Hm, ↓m_ld17 MR_Hm, ↓m_ld18 MR_Hm, ↓m_ld19 MR_Hm, ↓m_rcv MR_Hm, ↓m_s0, ↓m_s1, ↓m_s2, ↓m_s3, ↓m_s4, ↓m_s5, ↓m_s6, ↓m_s7, ↓m_s8, ↓m_s9, ↓m_s10, ↓m_s11, ↓m_s12, ↓m_s13, ↓m_s14, ↓m_s15, ↓m_s16, ↓m_s17, ↓m_s18, ↓m_s19, ↓m_p0, ↓m_p1, ↓m_p2, ↓m_p3, ↓m_p4, ↓m_p5, ↓m_p6, ↓m_p7, ↓u_j_X9_checked_10]
  rw [upS_s]
theorem x_ck0 {m0 : Nat} {P : Hp} {S : SS} {z : Nat × Nat} : f_X9_checked m0 (iI 0) (Hm m0 P S, z) = some (.ok (iI 1), (Hm m0 P (upS S 20 0 1), z)) := by
  rw [u_f_X9_checked]
  simp -implicitDefEqProofs (disch := omega) only [↓reduceIte, ↓e_lets, ↓e_ite, ↓e_cal, e_cal2, e_cal3, e_thr, e_nthrow, e_rtn, e_r0, e_r1, e_dv, iI_add, iI_sub, iI_mul, iI_neg, iI_div, iI_rem, iI_lt, iI_le, iI_eq, b_eq0, b_eq1, Int.reduceAdd, Int.reduceMul, Int.reduceSub, Int.reduceNeg, Int.reduceDiv, Int.reduceMod, Nat.reduceAdd, Bool.false_eq_true, eq_self, ltT, ltF, leT, leF, eqT, eqF, true_and, and_true, false_and, and_false, and_self, or_true, true_or, or_false, false_or, ne_eq, not_true_eq_false, not_false_eq_true, if_true, if_false, ite_true, ite_false, ite_not, some_none, some_some, none_some, none_none, li_0, li_1, li_2, li_3, li_4, li_5, li_6, li_7, li_8, li_9, li_10, li_11, li_12, li_13, li_14, li_15, li_16, li_17, li_18, li_19, li_20, li_21, li_22, li_23, li_24, li_25, li_26, li_27, li_28, li_29, li_30, li_31, li_32, li_63, li_64, li_99, li_100, li_128, li_240, li_256, li_512, li_960, li_1000, li_1022, li_1023, li_100000, li_m1, li_m1000, ↓m_g0 MR_Hm, ↓m_g1 MR_Hm, ↓m_g2 MR_Hm, ↓m_g3 MR_Hm, ↓m_g4 MR_Hm, ↓m_g5 MR_Hm, ↓m_g6 MR_Hm, ↓m_g7 MR_Hm, ↓m_g8 MR_Hm, ↓m_g9 MR_Hm, ↓m_g10 MR_Hm, ↓m_g11 MR_Hm, ↓m_g12 MR_Hm, ↓m_g13 MR_Hm, ↓m_g14 MR_Hm, ↓m_g15 MR_Hm, ↓m_g16 MR_Hm, ↓m_g17 MR_Hm, ↓m_g18 MR_Hm, ↓m_g19 MR_Hm, ↓m_g20 MR_Hm, ↓m_g21 MR_Hm, ↓m_g22 MR_Hm, ↓m_g23 MR_Hm, ↓m_g24 MR_Hm, ↓m_g25 MR_Hm, ↓m_g26 MR_Hm, ↓m_g27 MR_Hm, ↓m_ld0 MR_Hm, ↓m_ld1 MR_Hm, ↓m_ld2 MR_Hm, ↓m_ld3 MR_Hm, ↓m_ld4 MR_Hm, ↓m_ld5 MR_Hm, ↓m_ld6 MR_Hm, ↓m_ld7 MR_Hm, ↓m_ld8 MR_Hm, ↓m_ld9 MR_Hm, ↓m_ld10 MR_Hm, ↓m_ld11 MR_Hm, ↓m_ld12 MR_Hm, ↓m_ld13 MR_Hm, ↓m_ld14 MR_Hm, ↓m_ld15 MR_Hm, ↓m_ld16 MR_Hm, ↓m_ld17 MR_Hm, ↓m_ld18 MR_Hm, ↓m_ld19 MR_Hm, ↓m_rcv MR_Hm, ↓m_s0, ↓m_s1, ↓m_s2, ↓m_s3, ↓m_s4, ↓m_s5, ↓m_s6, ↓m_s7, ↓m_s8, ↓m_s9, ↓m_s10, ↓m_s11, ↓m_s12, ↓m_s13, ↓m_s14, ↓m_s15, ↓m_s16, ↓m_s17, ↓m_s18, ↓m_s19, ↓m_p0, ↓m_p1, ↓m_p2, ↓m_p3, ↓m_p4, ↓m_p5, ↓m_p6, ↓m_p7, ↓u_j_X9_checked_10]
  rw [upS_s]
theorem x_plain {m0 : Nat} {P : Hp} {S : SS} {z : Nat × Nat} (v : Int32) : f_X9_plain m0 v (Hm m0 P S, z) = some (.ok v, (Hm m0 P (upS S 20 0 0), z)) := by
  rw [u_f_X9_plain]
  simp -implicitDefEqProofs (disch := omega) only [↓reduceIte, ↓e_lets, ↓e_ite, ↓e_cal, e_cal2, e_cal3, e_thr, e_nthrow, e_rtn, e_r0, e_r1, e_dv, iI_add, iI_sub, iI_mul, iI_neg, iI_div, iI_rem, iI_lt, iI_le, iI_eq, b_eq0, b_eq1, Int.reduceAdd, Int.reduceMul, Int.reduceSub, Int.reduceNeg, Int.reduceDiv, Int.reduceMod, Nat.reduceAdd, Bool.false_eq_true, eq_self, ltT, ltF, leT, leF, eqT, eqF, true_and, and_true, false_and, and_false, and_self, or_true, true_or, or_false, false_or, ne_eq, not_true_eq_false, not_false_eq_true, if_true, if_false, ite_true, ite_false, ite_not, some_none, some_some, none_some, none_none, li_0, li_1, li_2, li_3, li_4, li_5, li_6, li_7, li_8, li_9, li_10, li_11, li_12, li_13, li_14, li_15, li_16, li_17, li_18, li_19, li_20, li_21, li_22, li_23, li_24, li_25, li_26, li_27, li_28, li_29, li_30, li_31, li_32, li_63, li_64, li_99, li_100, li_128, li_240, li_256, li_512, li_960, li_1000, li_1022, li_1023, li_100000, li_m1, li_m1000, ↓m_g0 MR_Hm, ↓m_g1 MR_Hm, ↓m_g2 MR_Hm, ↓m_g3 MR_Hm, ↓m_g4 MR_Hm, ↓m_g5 MR_Hm, ↓m_g6 MR_Hm, ↓m_g7 MR_Hm, ↓m_g8 MR_Hm, ↓m_g9 MR_Hm, ↓m_g10 MR_Hm, ↓m_g11 MR_Hm, ↓m_g12 MR_Hm, ↓m_g13 MR_Hm, ↓m_g14 MR_Hm, ↓m_g15 MR_Hm, ↓m_g16 MR_Hm, ↓m_g17 MR_Hm, ↓m_g18 MR_Hm, ↓m_g19 MR_Hm, ↓m_g20 MR_Hm, ↓m_g21 MR_Hm, ↓m_g22 MR_Hm, ↓m_g23 MR_Hm, ↓m_g24 MR_Hm, ↓m_g25 MR_Hm, ↓m_g26 MR_Hm, ↓m_g27 MR_Hm, ↓m_ld0 MR_Hm, ↓m_ld1 MR_Hm, ↓m_ld2 MR_Hm, ↓m_ld3 MR_Hm, ↓m_ld4 MR_Hm, ↓m_ld5 MR_Hm, ↓m_ld6 MR_Hm, ↓m_ld7 MR_Hm, ↓m_ld8 MR_Hm, ↓m_ld9 MR_Hm, ↓m_ld10 MR_Hm, ↓m_ld11 MR_Hm, ↓m_ld12 MR_Hm, ↓m_ld13 MR_Hm, ↓m_ld14 MR_Hm, ↓m_ld15 MR_Hm, ↓m_ld16 MR_Hm, ↓m_ld17 MR_Hm, ↓m_ld18 MR_Hm, ↓m_ld19 MR_Hm, ↓m_rcv MR_Hm, ↓m_s0, ↓m_s1, ↓m_s2, ↓m_s3, ↓m_s4, ↓m_s5, ↓m_s6, ↓m_s7, ↓m_s8, ↓m_s9, ↓m_s10, ↓m_s11, ↓m_s12, ↓m_s13, ↓m_s14, ↓m_s15, ↓m_s16, ↓m_s17, ↓m_s18, ↓m_s19, ↓m_p0, ↓m_p1, ↓m_p2, ↓m_p3, ↓m_p4, ↓m_p5, ↓m_p6, ↓m_p7]
def S8 (S U : SS) : Prop := ∀ f, f ≠ 18 → f ≠ 19 → S f = U f
theorem S8.sm {S U : SS} (h : S8 S U) : Sm S U := ⟨fun f hf => h f (by omega) (by omega), fun i _ => by rw [h 20 (by decide) (by decide)]⟩
theorem S8.rfl {S : SS} : S8 S S := fun _ _ _ => Eq.refl _
theorem S8.tr {S U V : SS} (h : S8 S U) (h2 : S8 U V) : S8 S V := fun f h3 h4 => (h f h3 h4).trans (h2 f h3 h4)
theorem S8.r8 {S U : SS} {i x : Int} (h : S8 S U) : S8 S (upS U 18 i x) := fun f h3 h4 => (h f h3 h4).trans (upS_g h3).symm
theorem S8.up {S U : SS} (h : S8 S U) (f : Nat) (i x : Int) : S8 (upS S f i x) (upS U f i x) := fun g h3 h4 => by
  funext j
  unfold upS
  rw [h g h3 h4]
def cp9 (S : SS) (n : Int) : SS := fun f i => if f = 19 ∧ 0 ≤ i ∧ i < n then S 14 i else S f i
def mi8 (S : SS) (n : Int) : SS := fun f i => if f = 18 ∧ 0 ≤ i ∧ i < n then -1 else S f i
theorem cp9_g {S : SS} {n : Int} {f : Nat} (h : f ≠ 19) : cp9 S n f = S f := funext (fun i => if_neg (fun q => h q.1))
theorem mi8_g {S : SS} {n : Int} {f : Nat} (h : f ≠ 18) : mi8 S n f = S f := funext (fun i => if_neg (fun q => h q.1))
theorem cp9_0 (S : SS) : cp9 S 0 = S := funext (fun f => funext (fun i => if_neg (fun q => by omega)))
theorem mi8_0 (S : SS) : mi8 S 0 = S := funext (fun f => funext (fun i => if_neg (fun q => by omega)))
theorem cp9_1 (S : SS) (k : Nat) : upS (cp9 S k) 19 k (S 14 k) = cp9 S ((k : Int) + 1) := by
  funext f i
  unfold upS cp9
  by_cases c : f = 19 ∧ i = k
  · rw [if_pos c, if_pos ⟨c.1, by omega, by omega⟩, c.2]
  · rw [if_neg c]
    by_cases d : f = 19 ∧ 0 ≤ i ∧ i < k
    · rw [if_pos d, if_pos ⟨d.1, by omega, by omega⟩]
    · rw [if_neg d, if_neg (fun q => by have h1 : ¬ i = k := fun w => c ⟨q.1, w⟩; exact d ⟨q.1, by omega, by omega⟩)]
theorem mi8_1 (S : SS) (k : Nat) : upS (mi8 S k) 18 k (-1) = mi8 S ((k : Int) + 1) := by
  funext f i
  unfold upS mi8
  by_cases c : f = 18 ∧ i = k
  · rw [if_pos c, if_pos ⟨c.1, by omega, by omega⟩]
  · rw [if_neg c]
    by_cases d : f = 18 ∧ 0 ≤ i ∧ i < k
    · rw [if_pos d, if_pos ⟨d.1, by omega, by omega⟩]
    · rw [if_neg d, if_neg (fun q => by have h1 : ¬ i = k := fun w => c ⟨q.1, w⟩; exact d ⟨q.1, by omega, by omega⟩)]
theorem bb_1 (S : SS) (bs : Int → Int) (k : Nat) : upS (bbS S bs k) 14 k (bs k) = bbS S bs ((k : Int) + 1) := bbS_1 S bs k
theorem e_im38 {m0 : Nat} {P : Hp} {S : SS} {z : Nat × Nat} (a1 : Int32) (Kc : OO Int32) : L_X9_improve_38 (some m0) a1 Kc 100000 (iI 0) (Hm m0 P S, z) = Kc (Hm m0 P (cp9 S 16), z) := by
  have hL := loopD (fun f (t : Int32 × SS) => L_X9_improve_38 (some m0) a1 Kc f t.1 (Hm m0 P t.2, z)) (fun m => (iI (m : Int), cp9 S (m : Int))) 16 (Kc (Hm m0 P (cp9 S 16), z)) (fun k f hk => ?_) (fun f => ?_) 100000 (by omega)
  · have e0 : cp9 S ((0 : Nat) : Int) = S := cp9_0 S
    simp only [e0] at hL
    exact hL
  · show L_X9_improve_38 (some m0) a1 Kc (f + 1) (iI (k : Int)) (Hm m0 P (cp9 S (k : Int)), z) = L_X9_improve_38 (some m0) a1 Kc f (iI ((k : Int) + 1)) (Hm m0 P (cp9 S ((k : Int) + 1)), z)
    have hg : cp9 S k 14 = S 14 := cp9_g (by decide)
    rw [u_L_X9_improve_38, ← cp9_1]
    simp -implicitDefEqProofs (disch := omega) only [↓reduceIte, ↓e_lets, ↓e_ite, ↓e_cal, e_cal2, e_cal3, e_thr, e_nthrow, e_rtn, e_r0, e_r1, e_dv, iI_add, iI_sub, iI_mul, iI_neg, iI_div, iI_rem, iI_lt, iI_le, iI_eq, b_eq0, b_eq1, Int.reduceAdd, Int.reduceMul, Int.reduceSub, Int.reduceNeg, Int.reduceDiv, Int.reduceMod, Nat.reduceAdd, Bool.false_eq_true, eq_self, ltT, ltF, leT, leF, eqT, eqF, true_and, and_true, false_and, and_false, and_self, or_true, true_or, or_false, false_or, ne_eq, not_true_eq_false, not_false_eq_true, if_true, if_false, ite_true, ite_false, ite_not, some_none, some_some, none_some, none_none, li_0, li_1, li_2, li_3, li_4, li_5, li_6, li_7, li_8, li_9, li_10, li_11, li_12, li_13, li_14, li_15, li_16, li_17, li_18, li_19, li_20, li_21, li_22, li_23, li_24, li_25, li_26, li_27, li_28, li_29, li_30, li_31, li_32, li_63, li_64, li_99, li_100, li_128, li_240, li_256, li_512, li_960, li_1000, li_1022, li_1023, li_100000, li_m1, li_m1000, ↓m_g0 MR_Hm, ↓m_g1 MR_Hm, ↓m_g2 MR_Hm, ↓m_g3 MR_Hm, ↓m_g4 MR_Hm, ↓m_g5 MR_Hm, ↓m_g6 MR_Hm, ↓m_g7 MR_Hm, ↓m_g8 MR_Hm, ↓m_g9 MR_Hm, ↓m_g10 MR_Hm, ↓m_g11 MR_Hm, ↓m_g12 MR_Hm, ↓m_g13 MR_Hm, ↓m_g14 MR_Hm, ↓m_g15 MR_Hm, ↓m_g16 MR_Hm, ↓m_g17 MR_Hm, ↓m_g18 MR_Hm, ↓m_g19 MR_Hm, ↓m_g20 MR_Hm, ↓m_g21 MR_Hm, ↓m_g22 MR_Hm, ↓m_g23 MR_Hm, ↓m_g24 MR_Hm, ↓m_g25 MR_Hm, ↓m_g26 MR_Hm, ↓m_g27 MR_Hm, ↓m_ld0 MR_Hm, ↓m_ld1 MR_Hm, ↓m_ld2 MR_Hm, ↓m_ld3 MR_Hm, ↓m_ld4 MR_Hm, ↓m_ld5 MR_Hm, ↓m_ld6 MR_Hm, ↓m_ld7 MR_Hm, ↓m_ld8 MR_Hm, ↓m_ld9 MR_Hm, ↓m_ld10 MR_Hm, ↓m_ld11 MR_Hm, ↓m_ld12 MR_Hm, ↓m_ld13 MR_Hm, ↓m_ld14 MR_Hm, ↓m_ld15 MR_Hm, ↓m_ld16 MR_Hm, ↓m_ld17 MR_Hm, ↓m_ld18 MR_Hm, ↓m_ld19 MR_Hm, ↓m_rcv MR_Hm, ↓m_s0, ↓m_s1, ↓m_s2, ↓m_s3, ↓m_s4, ↓m_s5, ↓m_s6, ↓m_s7, ↓m_s8, ↓m_s9, ↓m_s10, ↓m_s11, ↓m_s12, ↓m_s13, ↓m_s14, ↓m_s15, ↓m_s16, ↓m_s17, ↓m_s18, ↓m_s19, ↓m_p0, ↓m_p1, ↓m_p2, ↓m_p3, ↓m_p4, ↓m_p5, ↓m_p6, ↓m_p7, hg, Int.cast_ofNat_Int]
  · show L_X9_improve_38 (some m0) a1 Kc (f + 1) (iI ((16 : Nat) : Int)) (Hm m0 P (cp9 S 16), z) = _
    rw [u_L_X9_improve_38]
    simp -implicitDefEqProofs (disch := omega) only [↓reduceIte, ↓e_lets, ↓e_ite, ↓e_cal, e_cal2, e_cal3, e_thr, e_nthrow, e_rtn, e_r0, e_r1, e_dv, iI_add, iI_sub, iI_mul, iI_neg, iI_div, iI_rem, iI_lt, iI_le, iI_eq, b_eq0, b_eq1, Int.reduceAdd, Int.reduceMul, Int.reduceSub, Int.reduceNeg, Int.reduceDiv, Int.reduceMod, Nat.reduceAdd, Bool.false_eq_true, eq_self, ltT, ltF, leT, leF, eqT, eqF, true_and, and_true, false_and, and_false, and_self, or_true, true_or, or_false, false_or, ne_eq, not_true_eq_false, not_false_eq_true, if_true, if_false, ite_true, ite_false, ite_not, some_none, some_some, none_some, none_none, li_0, li_1, li_2, li_3, li_4, li_5, li_6, li_7, li_8, li_9, li_10, li_11, li_12, li_13, li_14, li_15, li_16, li_17, li_18, li_19, li_20, li_21, li_22, li_23, li_24, li_25, li_26, li_27, li_28, li_29, li_30, li_31, li_32, li_63, li_64, li_99, li_100, li_128, li_240, li_256, li_512, li_960, li_1000, li_1022, li_1023, li_100000, li_m1, li_m1000, ↓m_g0 MR_Hm, ↓m_g1 MR_Hm, ↓m_g2 MR_Hm, ↓m_g3 MR_Hm, ↓m_g4 MR_Hm, ↓m_g5 MR_Hm, ↓m_g6 MR_Hm, ↓m_g7 MR_Hm, ↓m_g8 MR_Hm, ↓m_g9 MR_Hm, ↓m_g10 MR_Hm, ↓m_g11 MR_Hm, ↓m_g12 MR_Hm, ↓m_g13 MR_Hm, ↓m_g14 MR_Hm, ↓m_g15 MR_Hm, ↓m_g16 MR_Hm, ↓m_g17 MR_Hm, ↓m_g18 MR_Hm, ↓m_g19 MR_Hm, ↓m_g20 MR_Hm, ↓m_g21 MR_Hm, ↓m_g22 MR_Hm, ↓m_g23 MR_Hm, ↓m_g24 MR_Hm, ↓m_g25 MR_Hm, ↓m_g26 MR_Hm, ↓m_g27 MR_Hm, ↓m_ld0 MR_Hm, ↓m_ld1 MR_Hm, ↓m_ld2 MR_Hm, ↓m_ld3 MR_Hm, ↓m_ld4 MR_Hm, ↓m_ld5 MR_Hm, ↓m_ld6 MR_Hm, ↓m_ld7 MR_Hm, ↓m_ld8 MR_Hm, ↓m_ld9 MR_Hm, ↓m_ld10 MR_Hm, ↓m_ld11 MR_Hm, ↓m_ld12 MR_Hm, ↓m_ld13 MR_Hm, ↓m_ld14 MR_Hm, ↓m_ld15 MR_Hm, ↓m_ld16 MR_Hm, ↓m_ld17 MR_Hm, ↓m_ld18 MR_Hm, ↓m_ld19 MR_Hm, ↓m_rcv MR_Hm, ↓m_s0, ↓m_s1, ↓m_s2, ↓m_s3, ↓m_s4, ↓m_s5, ↓m_s6, ↓m_s7, ↓m_s8, ↓m_s9, ↓m_s10, ↓m_s11, ↓m_s12, ↓m_s13, ↓m_s14, ↓m_s15, ↓m_s16, ↓m_s17, ↓m_s18, ↓m_s19, ↓m_p0, ↓m_p1, ↓m_p2, ↓m_p3, ↓m_p4, ↓m_p5, ↓m_p6, ↓m_p7, Int.cast_ofNat_Int]
theorem e_im102 {m0 : Nat} {P : Hp} {S : SS} {z : Nat × Nat} (a1 a2 a3 : Int32) (Kc : OO Int32) : L_X9_improve_102 (some m0) a1 a2 a3 Kc 100000 (iI 0) (Hm m0 P S, z) = Kc (Hm m0 P (cp9 S 16), z) := by
  have hL := loopD (fun f (t : Int32 × SS) => L_X9_improve_102 (some m0) a1 a2 a3 Kc f t.1 (Hm m0 P t.2, z)) (fun m => (iI (m : Int), cp9 S (m : Int))) 16 (Kc (Hm m0 P (cp9 S 16), z)) (fun k f hk => ?_) (fun f => ?_) 100000 (by omega)
  · have e0 : cp9 S ((0 : Nat) : Int) = S := cp9_0 S
    simp only [e0] at hL
    exact hL
  · show L_X9_improve_102 (some m0) a1 a2 a3 Kc (f + 1) (iI (k : Int)) (Hm m0 P (cp9 S (k : Int)), z) = L_X9_improve_102 (some m0) a1 a2 a3 Kc f (iI ((k : Int) + 1)) (Hm m0 P (cp9 S ((k : Int) + 1)), z)
    have hg : cp9 S k 14 = S 14 := cp9_g (by decide)
    rw [u_L_X9_improve_102, ← cp9_1]
    simp -implicitDefEqProofs (disch := omega) only [↓reduceIte, ↓e_lets, ↓e_ite, ↓e_cal, e_cal2, e_cal3, e_thr, e_nthrow, e_rtn, e_r0, e_r1, e_dv, iI_add, iI_sub, iI_mul, iI_neg, iI_div, iI_rem, iI_lt, iI_le, iI_eq, b_eq0, b_eq1, Int.reduceAdd, Int.reduceMul, Int.reduceSub, Int.reduceNeg, Int.reduceDiv, Int.reduceMod, Nat.reduceAdd, Bool.false_eq_true, eq_self, ltT, ltF, leT, leF, eqT, eqF, true_and, and_true, false_and, and_false, and_self, or_true, true_or, or_false, false_or, ne_eq, not_true_eq_false, not_false_eq_true, if_true, if_false, ite_true, ite_false, ite_not, some_none, some_some, none_some, none_none, li_0, li_1, li_2, li_3, li_4, li_5, li_6, li_7, li_8, li_9, li_10, li_11, li_12, li_13, li_14, li_15, li_16, li_17, li_18, li_19, li_20, li_21, li_22, li_23, li_24, li_25, li_26, li_27, li_28, li_29, li_30, li_31, li_32, li_63, li_64, li_99, li_100, li_128, li_240, li_256, li_512, li_960, li_1000, li_1022, li_1023, li_100000, li_m1, li_m1000, ↓m_g0 MR_Hm, ↓m_g1 MR_Hm, ↓m_g2 MR_Hm, ↓m_g3 MR_Hm, ↓m_g4 MR_Hm, ↓m_g5 MR_Hm, ↓m_g6 MR_Hm, ↓m_g7 MR_Hm, ↓m_g8 MR_Hm, ↓m_g9 MR_Hm, ↓m_g10 MR_Hm, ↓m_g11 MR_Hm, ↓m_g12 MR_Hm, ↓m_g13 MR_Hm, ↓m_g14 MR_Hm, ↓m_g15 MR_Hm, ↓m_g16 MR_Hm, ↓m_g17 MR_Hm, ↓m_g18 MR_Hm, ↓m_g19 MR_Hm, ↓m_g20 MR_Hm, ↓m_g21 MR_Hm, ↓m_g22 MR_Hm, ↓m_g23 MR_Hm, ↓m_g24 MR_Hm, ↓m_g25 MR_Hm, ↓m_g26 MR_Hm, ↓m_g27 MR_Hm, ↓m_ld0 MR_Hm, ↓m_ld1 MR_Hm, ↓m_ld2 MR_Hm, ↓m_ld3 MR_Hm, ↓m_ld4 MR_Hm, ↓m_ld5 MR_Hm, ↓m_ld6 MR_Hm, ↓m_ld7 MR_Hm, ↓m_ld8 MR_Hm, ↓m_ld9 MR_Hm, ↓m_ld10 MR_Hm, ↓m_ld11 MR_Hm, ↓m_ld12 MR_Hm, ↓m_ld13 MR_Hm, ↓m_ld14 MR_Hm, ↓m_ld15 MR_Hm, ↓m_ld16 MR_Hm, ↓m_ld17 MR_Hm, ↓m_ld18 MR_Hm, ↓m_ld19 MR_Hm, ↓m_rcv MR_Hm, ↓m_s0, ↓m_s1, ↓m_s2, ↓m_s3, ↓m_s4, ↓m_s5, ↓m_s6, ↓m_s7, ↓m_s8, ↓m_s9, ↓m_s10, ↓m_s11, ↓m_s12, ↓m_s13, ↓m_s14, ↓m_s15, ↓m_s16, ↓m_s17, ↓m_s18, ↓m_s19, ↓m_p0, ↓m_p1, ↓m_p2, ↓m_p3, ↓m_p4, ↓m_p5, ↓m_p6, ↓m_p7, hg, Int.cast_ofNat_Int]
  · show L_X9_improve_102 (some m0) a1 a2 a3 Kc (f + 1) (iI ((16 : Nat) : Int)) (Hm m0 P (cp9 S 16), z) = _
    rw [u_L_X9_improve_102]
    simp -implicitDefEqProofs (disch := omega) only [↓reduceIte, ↓e_lets, ↓e_ite, ↓e_cal, e_cal2, e_cal3, e_thr, e_nthrow, e_rtn, e_r0, e_r1, e_dv, iI_add, iI_sub, iI_mul, iI_neg, iI_div, iI_rem, iI_lt, iI_le, iI_eq, b_eq0, b_eq1, Int.reduceAdd, Int.reduceMul, Int.reduceSub, Int.reduceNeg, Int.reduceDiv, Int.reduceMod, Nat.reduceAdd, Bool.false_eq_true, eq_self, ltT, ltF, leT, leF, eqT, eqF, true_and, and_true, false_and, and_false, and_self, or_true, true_or, or_false, false_or, ne_eq, not_true_eq_false, not_false_eq_true, if_true, if_false, ite_true, ite_false, ite_not, some_none, some_some, none_some, none_none, li_0, li_1, li_2, li_3, li_4, li_5, li_6, li_7, li_8, li_9, li_10, li_11, li_12, li_13, li_14, li_15, li_16, li_17, li_18, li_19, li_20, li_21, li_22, li_23, li_24, li_25, li_26, li_27, li_28, li_29, li_30, li_31, li_32, li_63, li_64, li_99, li_100, li_128, li_240, li_256, li_512, li_960, li_1000, li_1022, li_1023, li_100000, li_m1, li_m1000, ↓m_g0 MR_Hm, ↓m_g1 MR_Hm, ↓m_g2 MR_Hm, ↓m_g3 MR_Hm, ↓m_g4 MR_Hm, ↓m_g5 MR_Hm, ↓m_g6 MR_Hm, ↓m_g7 MR_Hm, ↓m_g8 MR_Hm, ↓m_g9 MR_Hm, ↓m_g10 MR_Hm, ↓m_g11 MR_Hm, ↓m_g12 MR_Hm, ↓m_g13 MR_Hm, ↓m_g14 MR_Hm, ↓m_g15 MR_Hm, ↓m_g16 MR_Hm, ↓m_g17 MR_Hm, ↓m_g18 MR_Hm, ↓m_g19 MR_Hm, ↓m_g20 MR_Hm, ↓m_g21 MR_Hm, ↓m_g22 MR_Hm, ↓m_g23 MR_Hm, ↓m_g24 MR_Hm, ↓m_g25 MR_Hm, ↓m_g26 MR_Hm, ↓m_g27 MR_Hm, ↓m_ld0 MR_Hm, ↓m_ld1 MR_Hm, ↓m_ld2 MR_Hm, ↓m_ld3 MR_Hm, ↓m_ld4 MR_Hm, ↓m_ld5 MR_Hm, ↓m_ld6 MR_Hm, ↓m_ld7 MR_Hm, ↓m_ld8 MR_Hm, ↓m_ld9 MR_Hm, ↓m_ld10 MR_Hm, ↓m_ld11 MR_Hm, ↓m_ld12 MR_Hm, ↓m_ld13 MR_Hm, ↓m_ld14 MR_Hm, ↓m_ld15 MR_Hm, ↓m_ld16 MR_Hm, ↓m_ld17 MR_Hm, ↓m_ld18 MR_Hm, ↓m_ld19 MR_Hm, ↓m_rcv MR_Hm, ↓m_s0, ↓m_s1, ↓m_s2, ↓m_s3, ↓m_s4, ↓m_s5, ↓m_s6, ↓m_s7, ↓m_s8, ↓m_s9, ↓m_s10, ↓m_s11, ↓m_s12, ↓m_s13, ↓m_s14, ↓m_s15, ↓m_s16, ↓m_s17, ↓m_s18, ↓m_s19, ↓m_p0, ↓m_p1, ↓m_p2, ↓m_p3, ↓m_p4, ↓m_p5, ↓m_p6, ↓m_p7, Int.cast_ofNat_Int]
theorem e_im18 {m0 : Nat} {P : Hp} {S : SS} {z : Nat × Nat} (a1 : Int32) (Kc : OO Int32) : L_X9_improve_18 (some m0) a1 Kc 100000 (iI 0) (Hm m0 P S, z) = Kc (Hm m0 P (mi8 S 3), z) := by
  have hL := loopD (fun f (t : Int32 × SS) => L_X9_improve_18 (some m0) a1 Kc f t.1 (Hm m0 P t.2, z)) (fun m => (iI (m : Int), mi8 S (m : Int))) 3 (Kc (Hm m0 P (mi8 S 3), z)) (fun k f hk => ?_) (fun f => ?_) 100000 (by omega)
  · have e0 : mi8 S ((0 : Nat) : Int) = S := mi8_0 S
    simp only [e0] at hL
    exact hL
  · show L_X9_improve_18 (some m0) a1 Kc (f + 1) (iI (k : Int)) (Hm m0 P (mi8 S (k : Int)), z) = L_X9_improve_18 (some m0) a1 Kc f (iI ((k : Int) + 1)) (Hm m0 P (mi8 S ((k : Int) + 1)), z)
    have hg : (1 : Int) = 1 := rfl
    rw [u_L_X9_improve_18, ← mi8_1]
    simp -implicitDefEqProofs (disch := omega) only [↓reduceIte, ↓e_lets, ↓e_ite, ↓e_cal, e_cal2, e_cal3, e_thr, e_nthrow, e_rtn, e_r0, e_r1, e_dv, iI_add, iI_sub, iI_mul, iI_neg, iI_div, iI_rem, iI_lt, iI_le, iI_eq, b_eq0, b_eq1, Int.reduceAdd, Int.reduceMul, Int.reduceSub, Int.reduceNeg, Int.reduceDiv, Int.reduceMod, Nat.reduceAdd, Bool.false_eq_true, eq_self, ltT, ltF, leT, leF, eqT, eqF, true_and, and_true, false_and, and_false, and_self, or_true, true_or, or_false, false_or, ne_eq, not_true_eq_false, not_false_eq_true, if_true, if_false, ite_true, ite_false, ite_not, some_none, some_some, none_some, none_none, li_0, li_1, li_2, li_3, li_4, li_5, li_6, li_7, li_8, li_9, li_10, li_11, li_12, li_13, li_14, li_15, li_16, li_17, li_18, li_19, li_20, li_21, li_22, li_23, li_24, li_25, li_26, li_27, li_28, li_29, li_30, li_31, li_32, li_63, li_64, li_99, li_100, li_128, li_240, li_256, li_512, li_960, li_1000, li_1022, li_1023, li_100000, li_m1, li_m1000, ↓m_g0 MR_Hm, ↓m_g1 MR_Hm, ↓m_g2 MR_Hm, ↓m_g3 MR_Hm, ↓m_g4 MR_Hm, ↓m_g5 MR_Hm, ↓m_g6 MR_Hm, ↓m_g7 MR_Hm, ↓m_g8 MR_Hm, ↓m_g9 MR_Hm, ↓m_g10 MR_Hm, ↓m_g11 MR_Hm, ↓m_g12 MR_Hm, ↓m_g13 MR_Hm, ↓m_g14 MR_Hm, ↓m_g15 MR_Hm, ↓m_g16 MR_Hm, ↓m_g17 MR_Hm, ↓m_g18 MR_Hm, ↓m_g19 MR_Hm, ↓m_g20 MR_Hm, ↓m_g21 MR_Hm, ↓m_g22 MR_Hm, ↓m_g23 MR_Hm, ↓m_g24 MR_Hm, ↓m_g25 MR_Hm, ↓m_g26 MR_Hm, ↓m_g27 MR_Hm, ↓m_ld0 MR_Hm, ↓m_ld1 MR_Hm, ↓m_ld2 MR_Hm, ↓m_ld3 MR_Hm, ↓m_ld4 MR_Hm, ↓m_ld5 MR_Hm, ↓m_ld6 MR_Hm, ↓m_ld7 MR_Hm, ↓m_ld8 MR_Hm, ↓m_ld9 MR_Hm, ↓m_ld10 MR_Hm, ↓m_ld11 MR_Hm, ↓m_ld12 MR_Hm, ↓m_ld13 MR_Hm, ↓m_ld14 MR_Hm, ↓m_ld15 MR_Hm, ↓m_ld16 MR_Hm, ↓m_ld17 MR_Hm, ↓m_ld18 MR_Hm, ↓m_ld19 MR_Hm, ↓m_rcv MR_Hm, ↓m_s0, ↓m_s1, ↓m_s2, ↓m_s3, ↓m_s4, ↓m_s5, ↓m_s6, ↓m_s7, ↓m_s8, ↓m_s9, ↓m_s10, ↓m_s11, ↓m_s12, ↓m_s13, ↓m_s14, ↓m_s15, ↓m_s16, ↓m_s17, ↓m_s18, ↓m_s19, ↓m_p0, ↓m_p1, ↓m_p2, ↓m_p3, ↓m_p4, ↓m_p5, ↓m_p6, ↓m_p7, hg, Int.cast_ofNat_Int]
  · show L_X9_improve_18 (some m0) a1 Kc (f + 1) (iI ((3 : Nat) : Int)) (Hm m0 P (mi8 S 3), z) = _
    rw [u_L_X9_improve_18]
    simp -implicitDefEqProofs (disch := omega) only [↓reduceIte, ↓e_lets, ↓e_ite, ↓e_cal, e_cal2, e_cal3, e_thr, e_nthrow, e_rtn, e_r0, e_r1, e_dv, iI_add, iI_sub, iI_mul, iI_neg, iI_div, iI_rem, iI_lt, iI_le, iI_eq, b_eq0, b_eq1, Int.reduceAdd, Int.reduceMul, Int.reduceSub, Int.reduceNeg, Int.reduceDiv, Int.reduceMod, Nat.reduceAdd, Bool.false_eq_true, eq_self, ltT, ltF, leT, leF, eqT, eqF, true_and, and_true, false_and, and_false, and_self, or_true, true_or, or_false, false_or, ne_eq, not_true_eq_false, not_false_eq_true, if_true, if_false, ite_true, ite_false, ite_not, some_none, some_some, none_some, none_none, li_0, li_1, li_2, li_3, li_4, li_5, li_6, li_7, li_8, li_9, li_10, li_11, li_12, li_13, li_14, li_15, li_16, li_17, li_18, li_19, li_20, li_21, li_22, li_23, li_24, li_25, li_26, li_27, li_28, li_29, li_30, li_31, li_32, li_63, li_64, li_99, li_100, li_128, li_240, li_256, li_512, li_960, li_1000, li_1022, li_1023, li_100000, li_m1, li_m1000, ↓m_g0 MR_Hm, ↓m_g1 MR_Hm, ↓m_g2 MR_Hm, ↓m_g3 MR_Hm, ↓m_g4 MR_Hm, ↓m_g5 MR_Hm, ↓m_g6 MR_Hm, ↓m_g7 MR_Hm, ↓m_g8 MR_Hm, ↓m_g9 MR_Hm, ↓m_g10 MR_Hm, ↓m_g11 MR_Hm, ↓m_g12 MR_Hm, ↓m_g13 MR_Hm, ↓m_g14 MR_Hm, ↓m_g15 MR_Hm, ↓m_g16 MR_Hm, ↓m_g17 MR_Hm, ↓m_g18 MR_Hm, ↓m_g19 MR_Hm, ↓m_g20 MR_Hm, ↓m_g21 MR_Hm, ↓m_g22 MR_Hm, ↓m_g23 MR_Hm, ↓m_g24 MR_Hm, ↓m_g25 MR_Hm, ↓m_g26 MR_Hm, ↓m_g27 MR_Hm, ↓m_ld0 MR_Hm, ↓m_ld1 MR_Hm, ↓m_ld2 MR_Hm, ↓m_ld3 MR_Hm, ↓m_ld4 MR_Hm, ↓m_ld5 MR_Hm, ↓m_ld6 MR_Hm, ↓m_ld7 MR_Hm, ↓m_ld8 MR_Hm, ↓m_ld9 MR_Hm, ↓m_ld10 MR_Hm, ↓m_ld11 MR_Hm, ↓m_ld12 MR_Hm, ↓m_ld13 MR_Hm, ↓m_ld14 MR_Hm, ↓m_ld15 MR_Hm, ↓m_ld16 MR_Hm, ↓m_ld17 MR_Hm, ↓m_ld18 MR_Hm, ↓m_ld19 MR_Hm, ↓m_rcv MR_Hm, ↓m_s0, ↓m_s1, ↓m_s2, ↓m_s3, ↓m_s4, ↓m_s5, ↓m_s6, ↓m_s7, ↓m_s8, ↓m_s9, ↓m_s10, ↓m_s11, ↓m_s12, ↓m_s13, ↓m_s14, ↓m_s15, ↓m_s16, ↓m_s17, ↓m_s18, ↓m_s19, ↓m_p0, ↓m_p1, ↓m_p2, ↓m_p3, ↓m_p4, ↓m_p5, ↓m_p6, ↓m_p7, Int.cast_ofNat_Int]
theorem e_im137 {m0 : Nat} {P : Hp} {S : SS} {z : Nat × Nat} (a1 : Int32) (Kc : OO Int32) : L_X9_improve_137 (some m0) a1 Kc 100000 (iI 0) (Hm m0 P S, z) = Kc (Hm m0 P (bbS S (S 19) 16), z) := by
  have hL := loopD (fun f (t : Int32 × SS) => L_X9_improve_137 (some m0) a1 Kc f t.1 (Hm m0 P t.2, z)) (fun m => (iI (m : Int), bbS S (S 19) (m : Int))) 16 (Kc (Hm m0 P (bbS S (S 19) 16), z)) (fun k f hk => ?_) (fun f => ?_) 100000 (by omega)
  · have e0 : bbS S (S 19) ((0 : Nat) : Int) = S := bbS_0 S (S 19)
    simp only [e0] at hL
    exact hL
  · show L_X9_improve_137 (some m0) a1 Kc (f + 1) (iI (k : Int)) (Hm m0 P (bbS S (S 19) (k : Int)), z) = L_X9_improve_137 (some m0) a1 Kc f (iI ((k : Int) + 1)) (Hm m0 P (bbS S (S 19) ((k : Int) + 1)), z)
    have hg : bbS S (S 19) k 19 = S 19 := bbS_g (by decide)
    rw [u_L_X9_improve_137, ← bb_1]
    simp -implicitDefEqProofs (disch := omega) only [↓reduceIte, ↓e_lets, ↓e_ite, ↓e_cal, e_cal2, e_cal3, e_thr, e_nthrow, e_rtn, e_r0, e_r1, e_dv, iI_add, iI_sub, iI_mul, iI_neg, iI_div, iI_rem, iI_lt, iI_le, iI_eq, b_eq0, b_eq1, Int.reduceAdd, Int.reduceMul, Int.reduceSub, Int.reduceNeg, Int.reduceDiv, Int.reduceMod, Nat.reduceAdd, Bool.false_eq_true, eq_self, ltT, ltF, leT, leF, eqT, eqF, true_and, and_true, false_and, and_false, and_self, or_true, true_or, or_false, false_or, ne_eq, not_true_eq_false, not_false_eq_true, if_true, if_false, ite_true, ite_false, ite_not, some_none, some_some, none_some, none_none, li_0, li_1, li_2, li_3, li_4, li_5, li_6, li_7, li_8, li_9, li_10, li_11, li_12, li_13, li_14, li_15, li_16, li_17, li_18, li_19, li_20, li_21, li_22, li_23, li_24, li_25, li_26, li_27, li_28, li_29, li_30, li_31, li_32, li_63, li_64, li_99, li_100, li_128, li_240, li_256, li_512, li_960, li_1000, li_1022, li_1023, li_100000, li_m1, li_m1000, ↓m_g0 MR_Hm, ↓m_g1 MR_Hm, ↓m_g2 MR_Hm, ↓m_g3 MR_Hm, ↓m_g4 MR_Hm, ↓m_g5 MR_Hm, ↓m_g6 MR_Hm, ↓m_g7 MR_Hm, ↓m_g8 MR_Hm, ↓m_g9 MR_Hm, ↓m_g10 MR_Hm, ↓m_g11 MR_Hm, ↓m_g12 MR_Hm, ↓m_g13 MR_Hm, ↓m_g14 MR_Hm, ↓m_g15 MR_Hm, ↓m_g16 MR_Hm, ↓m_g17 MR_Hm, ↓m_g18 MR_Hm, ↓m_g19 MR_Hm, ↓m_g20 MR_Hm, ↓m_g21 MR_Hm, ↓m_g22 MR_Hm, ↓m_g23 MR_Hm, ↓m_g24 MR_Hm, ↓m_g25 MR_Hm, ↓m_g26 MR_Hm, ↓m_g27 MR_Hm, ↓m_ld0 MR_Hm, ↓m_ld1 MR_Hm, ↓m_ld2 MR_Hm, ↓m_ld3 MR_Hm, ↓m_ld4 MR_Hm, ↓m_ld5 MR_Hm, ↓m_ld6 MR_Hm, ↓m_ld7 MR_Hm, ↓m_ld8 MR_Hm, ↓m_ld9 MR_Hm, ↓m_ld10 MR_Hm, ↓m_ld11 MR_Hm, ↓m_ld12 MR_Hm, ↓m_ld13 MR_Hm, ↓m_ld14 MR_Hm, ↓m_ld15 MR_Hm, ↓m_ld16 MR_Hm, ↓m_ld17 MR_Hm, ↓m_ld18 MR_Hm, ↓m_ld19 MR_Hm, ↓m_rcv MR_Hm, ↓m_s0, ↓m_s1, ↓m_s2, ↓m_s3, ↓m_s4, ↓m_s5, ↓m_s6, ↓m_s7, ↓m_s8, ↓m_s9, ↓m_s10, ↓m_s11, ↓m_s12, ↓m_s13, ↓m_s14, ↓m_s15, ↓m_s16, ↓m_s17, ↓m_s18, ↓m_s19, ↓m_p0, ↓m_p1, ↓m_p2, ↓m_p3, ↓m_p4, ↓m_p5, ↓m_p6, ↓m_p7, hg, Int.cast_ofNat_Int]
  · show L_X9_improve_137 (some m0) a1 Kc (f + 1) (iI ((16 : Nat) : Int)) (Hm m0 P (bbS S (S 19) 16), z) = _
    rw [u_L_X9_improve_137]
    simp -implicitDefEqProofs (disch := omega) only [↓reduceIte, ↓e_lets, ↓e_ite, ↓e_cal, e_cal2, e_cal3, e_thr, e_nthrow, e_rtn, e_r0, e_r1, e_dv, iI_add, iI_sub, iI_mul, iI_neg, iI_div, iI_rem, iI_lt, iI_le, iI_eq, b_eq0, b_eq1, Int.reduceAdd, Int.reduceMul, Int.reduceSub, Int.reduceNeg, Int.reduceDiv, Int.reduceMod, Nat.reduceAdd, Bool.false_eq_true, eq_self, ltT, ltF, leT, leF, eqT, eqF, true_and, and_true, false_and, and_false, and_self, or_true, true_or, or_false, false_or, ne_eq, not_true_eq_false, not_false_eq_true, if_true, if_false, ite_true, ite_false, ite_not, some_none, some_some, none_some, none_none, li_0, li_1, li_2, li_3, li_4, li_5, li_6, li_7, li_8, li_9, li_10, li_11, li_12, li_13, li_14, li_15, li_16, li_17, li_18, li_19, li_20, li_21, li_22, li_23, li_24, li_25, li_26, li_27, li_28, li_29, li_30, li_31, li_32, li_63, li_64, li_99, li_100, li_128, li_240, li_256, li_512, li_960, li_1000, li_1022, li_1023, li_100000, li_m1, li_m1000, ↓m_g0 MR_Hm, ↓m_g1 MR_Hm, ↓m_g2 MR_Hm, ↓m_g3 MR_Hm, ↓m_g4 MR_Hm, ↓m_g5 MR_Hm, ↓m_g6 MR_Hm, ↓m_g7 MR_Hm, ↓m_g8 MR_Hm, ↓m_g9 MR_Hm, ↓m_g10 MR_Hm, ↓m_g11 MR_Hm, ↓m_g12 MR_Hm, ↓m_g13 MR_Hm, ↓m_g14 MR_Hm, ↓m_g15 MR_Hm, ↓m_g16 MR_Hm, ↓m_g17 MR_Hm, ↓m_g18 MR_Hm, ↓m_g19 MR_Hm, ↓m_g20 MR_Hm, ↓m_g21 MR_Hm, ↓m_g22 MR_Hm, ↓m_g23 MR_Hm, ↓m_g24 MR_Hm, ↓m_g25 MR_Hm, ↓m_g26 MR_Hm, ↓m_g27 MR_Hm, ↓m_ld0 MR_Hm, ↓m_ld1 MR_Hm, ↓m_ld2 MR_Hm, ↓m_ld3 MR_Hm, ↓m_ld4 MR_Hm, ↓m_ld5 MR_Hm, ↓m_ld6 MR_Hm, ↓m_ld7 MR_Hm, ↓m_ld8 MR_Hm, ↓m_ld9 MR_Hm, ↓m_ld10 MR_Hm, ↓m_ld11 MR_Hm, ↓m_ld12 MR_Hm, ↓m_ld13 MR_Hm, ↓m_ld14 MR_Hm, ↓m_ld15 MR_Hm, ↓m_ld16 MR_Hm, ↓m_ld17 MR_Hm, ↓m_ld18 MR_Hm, ↓m_ld19 MR_Hm, ↓m_rcv MR_Hm, ↓m_s0, ↓m_s1, ↓m_s2, ↓m_s3, ↓m_s4, ↓m_s5, ↓m_s6, ↓m_s7, ↓m_s8, ↓m_s9, ↓m_s10, ↓m_s11, ↓m_s12, ↓m_s13, ↓m_s14, ↓m_s15, ↓m_s16, ↓m_s17, ↓m_s18, ↓m_s19, ↓m_p0, ↓m_p1, ↓m_p2, ↓m_p3, ↓m_p4, ↓m_p5, ↓m_p6, ↓m_p7, Int.cast_ofNat_Int]
theorem bbS_self (S : SS) (n : Int) : bbS S (fun j => S 14 j) n = S := by
  funext f i
  unfold bbS
  split
  · rename_i h; rw [h.1]
  · rfl
theorem bbS_up {S : SS} {bs : Int → Int} {n q x : Int} (h0 : 0 ≤ q) (h1 : q < n) : bbS (upS S 14 q x) bs n = bbS S bs n := by
  funext f i
  unfold bbS upS
  by_cases c : f = 14 ∧ 0 ≤ i ∧ i < n
  · rw [if_pos c, if_pos c]
  · rw [if_neg c, if_neg c, if_neg (fun w => c ⟨w.1, by omega, by omega⟩)]
theorem Mv8_s {U : SS} {q : Int} (h8 : Mv8 U) (q0 : 0 ≤ q) (q1 : q < 16) : Mv8 (mvS U q) := fun i i0 i1 => by
  have a0 := h8 0 (by decide) (by decide)
  have a1 := h8 1 (by decide) (by decide)
  unfold mvS
  rcases (show i = 0 ∨ i = 1 ∨ i = 2 by omega) with rfl | rfl | rfl
  · rw [upS_s]; omega
  · rw [upS_i (by decide), upS_s]; exact a0
  · rw [upS_i (by decide), upS_i (by decide), upS_s]; exact a1
theorem Mvd_s {U : SS} {mv : Int → Int} {st q : Int} (hM : Mvd U mv st) : Mvd (mvS U q) (upM mv q st) (st + 1) := fun k k0 k1 => by
  have e20 : mvS U q 20 = U 20 := by unfold mvS; rw [upS_g (by decide), upS_g (by decide), upS_g (by decide), upS_g (by decide)]
  have e0 : mvS U q 18 0 = q := by unfold mvS; rw [upS_s]
  have e1 : mvS U q 18 1 = U 18 0 := by unfold mvS; rw [upS_i (by decide), upS_s]
  have e2 : mvS U q 18 2 = U 18 1 := by unfold mvS; rw [upS_i (by decide), upS_i (by decide), upS_s]
  rw [e20] at k1
  have h := hM k k0 k1
  rw [e0, e1, e2]
  unfold upM
  by_cases c : k = q
  · rw [if_pos c]
    subst c
    omega
  · rw [if_neg c]
    obtain ⟨h0, h1, h2, h3⟩ := h
    refine ⟨by omega, ⟨fun w => by omega, fun w => absurd w.symm c⟩, ?_, ?_⟩
    · constructor
      · intro w; exact Or.inr (h1.mp (by omega))
      · rintro (w | w)
        · exact absurd w.symm c
        · have := h1.mpr w; omega
    · constructor
      · intro w; exact Or.inr (h2.mp (by omega))
      · rintro (w | w)
        · exact absurd w.symm c
        · have := h2.mpr w; omega
theorem e_L_imp {m0 : Nat} {P : Hp} {z : Nat × Nat} {n : Int} (n1 : n ≤ 20) (Kc : Int32 → OO Int32) : ∀ (f : Nat) (st : Int) (S U : SS) (mv bs : Int → Int) (least : Int) (fuel : Nat), 0 ≤ st → st + f = n → f < fuel → VS S → S8 S U → Mv8 U → Mvd U mv st → (∀ k : Int, 0 ≤ k → k < 16 → U 19 k = bs k) → (∀ k : Int, S 20 4 ≤ k → bs k = S 14 k) → least = cst0 (bbS S bs (S 20 4)) → -200000 ≤ least → least ≤ 200000 →
    ∃ U2, L_X9_improve_69 (some m0) (iI n) Kc fuel (iI least) (iI st) (Hm m0 P U, z) = Kc (iI (cst0 (bbS (imS f S mv bs least st).1 (imS f S mv bs least st).2 (S 20 4)))) (Hm m0 P U2, z) ∧ S8 (imS f S mv bs least st).1 U2 ∧ (∀ k : Int, 0 ≤ k → k < 16 → U2 19 k = (imS f S mv bs least st).2 k) ∧ (∀ k : Int, S 20 4 ≤ k → (imS f S mv bs least st).2 k = (imS f S mv bs least st).1 14 k) ∧ (imS f S mv bs least st).1 20 = S 20 := by
  intro f
  induction f with
  | zero =>
    intro st S U mv bs least fuel h1 h2 h3 hV h8 hm8 hM hF hT hl l0 l1
    obtain ⟨fu, rfl⟩ : ∃ f, fuel = f + 1 := ⟨fuel - 1, by omega⟩
    refine ⟨U, ?_, h8, hF, hT, rfl⟩
    rw [u_L_X9_improve_69]
    show _ = Kc (iI (cst0 (bbS S bs (S 20 4)))) _
    rw [← hl]
    simp -implicitDefEqProofs (disch := omega) only [↓reduceIte, ↓e_lets, ↓e_ite, ↓e_cal, e_cal2, e_cal3, e_thr, e_nthrow, e_rtn, e_r0, e_r1, e_dv, iI_add, iI_sub, iI_mul, iI_neg, iI_div, iI_rem, iI_lt, iI_le, iI_eq, b_eq0, b_eq1, Int.reduceAdd, Int.reduceMul, Int.reduceSub, Int.reduceNeg, Int.reduceDiv, Int.reduceMod, Nat.reduceAdd, Bool.false_eq_true, eq_self, ltT, ltF, leT, leF, eqT, eqF, true_and, and_true, false_and, and_false, and_self, or_true, true_or, or_false, false_or, ne_eq, not_true_eq_false, not_false_eq_true, if_true, if_false, ite_true, ite_false, ite_not, some_none, some_some, none_some, none_none, li_0, li_1, li_2, li_3, li_4, li_5, li_6, li_7, li_8, li_9, li_10, li_11, li_12, li_13, li_14, li_15, li_16, li_17, li_18, li_19, li_20, li_21, li_22, li_23, li_24, li_25, li_26, li_27, li_28, li_29, li_30, li_31, li_32, li_63, li_64, li_99, li_100, li_128, li_240, li_256, li_512, li_960, li_1000, li_1022, li_1023, li_100000, li_m1, li_m1000, ↓m_g0 MR_Hm, ↓m_g1 MR_Hm, ↓m_g2 MR_Hm, ↓m_g3 MR_Hm, ↓m_g4 MR_Hm, ↓m_g5 MR_Hm, ↓m_g6 MR_Hm, ↓m_g7 MR_Hm, ↓m_g8 MR_Hm, ↓m_g9 MR_Hm, ↓m_g10 MR_Hm, ↓m_g11 MR_Hm, ↓m_g12 MR_Hm, ↓m_g13 MR_Hm, ↓m_g14 MR_Hm, ↓m_g15 MR_Hm, ↓m_g16 MR_Hm, ↓m_g17 MR_Hm, ↓m_g18 MR_Hm, ↓m_g19 MR_Hm, ↓m_g20 MR_Hm, ↓m_g21 MR_Hm, ↓m_g22 MR_Hm, ↓m_g23 MR_Hm, ↓m_g24 MR_Hm, ↓m_g25 MR_Hm, ↓m_g26 MR_Hm, ↓m_g27 MR_Hm, ↓m_ld0 MR_Hm, ↓m_ld1 MR_Hm, ↓m_ld2 MR_Hm, ↓m_ld3 MR_Hm, ↓m_ld4 MR_Hm, ↓m_ld5 MR_Hm, ↓m_ld6 MR_Hm, ↓m_ld7 MR_Hm, ↓m_ld8 MR_Hm, ↓m_ld9 MR_Hm, ↓m_ld10 MR_Hm, ↓m_ld11 MR_Hm, ↓m_ld12 MR_Hm, ↓m_ld13 MR_Hm, ↓m_ld14 MR_Hm, ↓m_ld15 MR_Hm, ↓m_ld16 MR_Hm, ↓m_ld17 MR_Hm, ↓m_ld18 MR_Hm, ↓m_ld19 MR_Hm, ↓m_rcv MR_Hm, ↓m_s0, ↓m_s1, ↓m_s2, ↓m_s3, ↓m_s4, ↓m_s5, ↓m_s6, ↓m_s7, ↓m_s8, ↓m_s9, ↓m_s10, ↓m_s11, ↓m_s12, ↓m_s13, ↓m_s14, ↓m_s15, ↓m_s16, ↓m_s17, ↓m_s18, ↓m_s19, ↓m_p0, ↓m_p1, ↓m_p2, ↓m_p3, ↓m_p4, ↓m_p5, ↓m_p6, ↓m_p7, upS_s, upS_g, upS_i]
  | succ f ih =>
    intro st S U mv bs least fuel h1 h2 h3 hV h8 hm8 hM hF hT hl l0 l1
    obtain ⟨fu, rfl⟩ : ∃ f, fuel = f + 1 := ⟨fuel - 1, by omega⟩
    have hm2 := hV.2.1
    unfold Bm at hm2
    have e1 := e_moves (m0 := m0) (P := P) (z := z) (VS_m h8.sm hV) hm8 hM
    have e20 : U 20 = S 20 := (h8 20 (by decide) (by decide)).symm
    rw [e20, ← mvQ_m h8.sm] at e1
    have hQ := mvQ_b hV.2.1 mv st
    have eI : imS (f + 1) S mv bs least st = if mvQ S mv st (S 20 4).toNat < 0 then (S, bs) else (if least ≤ cst0 (upS S 14 (mvQ S mv st (S 20 4).toNat) (chP S (mvQ S mv st (S 20 4).toNat) (S 14 (mvQ S mv st (S 20 4).toNat)))) then imS f (upS S 14 (mvQ S mv st (S 20 4).toNat) (chP S (mvQ S mv st (S 20 4).toNat) (S 14 (mvQ S mv st (S 20 4).toNat)))) (upM mv (mvQ S mv st (S 20 4).toNat) st) bs least (st + 1) else imS f (upS S 14 (mvQ S mv st (S 20 4).toNat) (chP S (mvQ S mv st (S 20 4).toNat) (S 14 (mvQ S mv st (S 20 4).toNat)))) (upM mv (mvQ S mv st (S 20 4).toNat) st) (fun j => upS S 14 (mvQ S mv st (S 20 4).toNat) (chP S (mvQ S mv st (S 20 4).toNat) (S 14 (mvQ S mv st (S 20 4).toNat))) 14 j) (cst0 (upS S 14 (mvQ S mv st (S 20 4).toNat) (chP S (mvQ S mv st (S 20 4).toNat) (S 14 (mvQ S mv st (S 20 4).toNat))))) (st + 1)) := rfl
    rw [eI]
    clear eI
    rw [u_L_X9_improve_69]
    generalize mvQ S mv st (S 20 4).toNat = q at *
    by_cases c : q < 0
    · simp only [if_pos c] at e1 ⊢
      refine ⟨U, ?_, h8, hF, hT, (by first | rfl | trivial)⟩
      rw [← hl]
      simp -implicitDefEqProofs (disch := omega) only [↓reduceIte, ↓e_lets, ↓e_ite, ↓e_cal, e_cal2, e_cal3, e_thr, e_nthrow, e_rtn, e_r0, e_r1, e_dv, iI_add, iI_sub, iI_mul, iI_neg, iI_div, iI_rem, iI_lt, iI_le, iI_eq, b_eq0, b_eq1, Int.reduceAdd, Int.reduceMul, Int.reduceSub, Int.reduceNeg, Int.reduceDiv, Int.reduceMod, Nat.reduceAdd, Bool.false_eq_true, eq_self, ltT, ltF, leT, leF, eqT, eqF, true_and, and_true, false_and, and_false, and_self, or_true, true_or, or_false, false_or, ne_eq, not_true_eq_false, not_false_eq_true, if_true, if_false, ite_true, ite_false, ite_not, some_none, some_some, none_some, none_none, li_0, li_1, li_2, li_3, li_4, li_5, li_6, li_7, li_8, li_9, li_10, li_11, li_12, li_13, li_14, li_15, li_16, li_17, li_18, li_19, li_20, li_21, li_22, li_23, li_24, li_25, li_26, li_27, li_28, li_29, li_30, li_31, li_32, li_63, li_64, li_99, li_100, li_128, li_240, li_256, li_512, li_960, li_1000, li_1022, li_1023, li_100000, li_m1, li_m1000, ↓m_g0 MR_Hm, ↓m_g1 MR_Hm, ↓m_g2 MR_Hm, ↓m_g3 MR_Hm, ↓m_g4 MR_Hm, ↓m_g5 MR_Hm, ↓m_g6 MR_Hm, ↓m_g7 MR_Hm, ↓m_g8 MR_Hm, ↓m_g9 MR_Hm, ↓m_g10 MR_Hm, ↓m_g11 MR_Hm, ↓m_g12 MR_Hm, ↓m_g13 MR_Hm, ↓m_g14 MR_Hm, ↓m_g15 MR_Hm, ↓m_g16 MR_Hm, ↓m_g17 MR_Hm, ↓m_g18 MR_Hm, ↓m_g19 MR_Hm, ↓m_g20 MR_Hm, ↓m_g21 MR_Hm, ↓m_g22 MR_Hm, ↓m_g23 MR_Hm, ↓m_g24 MR_Hm, ↓m_g25 MR_Hm, ↓m_g26 MR_Hm, ↓m_g27 MR_Hm, ↓m_ld0 MR_Hm, ↓m_ld1 MR_Hm, ↓m_ld2 MR_Hm, ↓m_ld3 MR_Hm, ↓m_ld4 MR_Hm, ↓m_ld5 MR_Hm, ↓m_ld6 MR_Hm, ↓m_ld7 MR_Hm, ↓m_ld8 MR_Hm, ↓m_ld9 MR_Hm, ↓m_ld10 MR_Hm, ↓m_ld11 MR_Hm, ↓m_ld12 MR_Hm, ↓m_ld13 MR_Hm, ↓m_ld14 MR_Hm, ↓m_ld15 MR_Hm, ↓m_ld16 MR_Hm, ↓m_ld17 MR_Hm, ↓m_ld18 MR_Hm, ↓m_ld19 MR_Hm, ↓m_rcv MR_Hm, ↓m_s0, ↓m_s1, ↓m_s2, ↓m_s3, ↓m_s4, ↓m_s5, ↓m_s6, ↓m_s7, ↓m_s8, ↓m_s9, ↓m_s10, ↓m_s11, ↓m_s12, ↓m_s13, ↓m_s14, ↓m_s15, ↓m_s16, ↓m_s17, ↓m_s18, ↓m_s19, ↓m_p0, ↓m_p1, ↓m_p2, ↓m_p3, ↓m_p4, ↓m_p5, ↓m_p6, ↓m_p7, e1]
    · simp only [if_neg c] at e1 ⊢
      have hVS := VS_ch hV (l := q) (x := S 14 q) (by omega) hQ.2
      have h8b : S8 (upS S 14 q (chP S q (S 14 q))) (mvS U q) := by
        unfold mvS
        rw [← chP_m h8.sm, ← h8 14 (by decide) (by decide)]
        exact (((h8.up 14 q (chP S q (S 14 q))).r8).r8).r8
      have hm8b := Mv8_s hm8 (q := q) (by omega) (by omega)
      have hMb := Mvd_s (q := q) hM
      have e19 : mvS U q 19 = U 19 := by unfold mvS; rw [upS_g (by decide), upS_g (by decide), upS_g (by decide), upS_g (by decide)]
      have s20 : upS S 14 q (chP S q (S 14 q)) 20 = S 20 := upS_g (by decide)
      have hTb : ∀ k : Int, S 20 4 ≤ k → upS S 14 q (chP S q (S 14 q)) 14 k = S 14 k := fun k hk => upS_i (by omega)
      have hbu : bbS (upS S 14 q (chP S q (S 14 q))) bs (S 20 4) = bbS S bs (S 20 4) := bbS_up (by omega) hQ.2
      generalize upS S 14 q (chP S q (S 14 q)) = S2 at *
      generalize mvS U q = U2 at *
      have hc2 := cst0_b hVS
      have e2 := e_X9_costNow (MR_Hm (m0 := m0) (P := P) (S := U2) (z := z)) (VS_m h8b.sm hVS)
      rw [← cst0_m h8b.sm] at e2
      by_cases c2 : least ≤ cst0 S2
      · simp only [if_pos c2]
        obtain ⟨U3, g1, g2, g3, g4, g5⟩ := ih (st + 1) S2 U2 (upM mv q st) bs least fu (by omega) (by omega) (by omega) hVS h8b hm8b hMb (fun k k0 k1 => by rw [e19]; exact hF k k0 k1) (fun k hk => by rw [s20] at hk; rw [hTb k hk]; exact hT k hk) (by rw [s20, hbu]; exact hl) l0 l1
        rw [s20] at g1 g4 g5
        refine ⟨U3, ?_, g2, g3, g4, g5⟩
        refine Eq.trans ?_ g1
        simp -implicitDefEqProofs (disch := omega) only [↓reduceIte, ↓e_lets, ↓e_ite, ↓e_cal, e_cal2, e_cal3, e_thr, e_nthrow, e_rtn, e_r0, e_r1, e_dv, iI_add, iI_sub, iI_mul, iI_neg, iI_div, iI_rem, iI_lt, iI_le, iI_eq, b_eq0, b_eq1, Int.reduceAdd, Int.reduceMul, Int.reduceSub, Int.reduceNeg, Int.reduceDiv, Int.reduceMod, Nat.reduceAdd, Bool.false_eq_true, eq_self, ltT, ltF, leT, leF, eqT, eqF, true_and, and_true, false_and, and_false, and_self, or_true, true_or, or_false, false_or, ne_eq, not_true_eq_false, not_false_eq_true, if_true, if_false, ite_true, ite_false, ite_not, some_none, some_some, none_some, none_none, li_0, li_1, li_2, li_3, li_4, li_5, li_6, li_7, li_8, li_9, li_10, li_11, li_12, li_13, li_14, li_15, li_16, li_17, li_18, li_19, li_20, li_21, li_22, li_23, li_24, li_25, li_26, li_27, li_28, li_29, li_30, li_31, li_32, li_63, li_64, li_99, li_100, li_128, li_240, li_256, li_512, li_960, li_1000, li_1022, li_1023, li_100000, li_m1, li_m1000, ↓m_g0 MR_Hm, ↓m_g1 MR_Hm, ↓m_g2 MR_Hm, ↓m_g3 MR_Hm, ↓m_g4 MR_Hm, ↓m_g5 MR_Hm, ↓m_g6 MR_Hm, ↓m_g7 MR_Hm, ↓m_g8 MR_Hm, ↓m_g9 MR_Hm, ↓m_g10 MR_Hm, ↓m_g11 MR_Hm, ↓m_g12 MR_Hm, ↓m_g13 MR_Hm, ↓m_g14 MR_Hm, ↓m_g15 MR_Hm, ↓m_g16 MR_Hm, ↓m_g17 MR_Hm, ↓m_g18 MR_Hm, ↓m_g19 MR_Hm, ↓m_g20 MR_Hm, ↓m_g21 MR_Hm, ↓m_g22 MR_Hm, ↓m_g23 MR_Hm, ↓m_g24 MR_Hm, ↓m_g25 MR_Hm, ↓m_g26 MR_Hm, ↓m_g27 MR_Hm, ↓m_ld0 MR_Hm, ↓m_ld1 MR_Hm, ↓m_ld2 MR_Hm, ↓m_ld3 MR_Hm, ↓m_ld4 MR_Hm, ↓m_ld5 MR_Hm, ↓m_ld6 MR_Hm, ↓m_ld7 MR_Hm, ↓m_ld8 MR_Hm, ↓m_ld9 MR_Hm, ↓m_ld10 MR_Hm, ↓m_ld11 MR_Hm, ↓m_ld12 MR_Hm, ↓m_ld13 MR_Hm, ↓m_ld14 MR_Hm, ↓m_ld15 MR_Hm, ↓m_ld16 MR_Hm, ↓m_ld17 MR_Hm, ↓m_ld18 MR_Hm, ↓m_ld19 MR_Hm, ↓m_rcv MR_Hm, ↓m_s0, ↓m_s1, ↓m_s2, ↓m_s3, ↓m_s4, ↓m_s5, ↓m_s6, ↓m_s7, ↓m_s8, ↓m_s9, ↓m_s10, ↓m_s11, ↓m_s12, ↓m_s13, ↓m_s14, ↓m_s15, ↓m_s16, ↓m_s17, ↓m_s18, ↓m_s19, ↓m_p0, ↓m_p1, ↓m_p2, ↓m_p3, ↓m_p4, ↓m_p5, ↓m_p6, ↓m_p7, e1, e2, ↓u_j_X9_improve_129]
      · simp only [if_neg c2]
        have h8c : S8 S2 (cp9 U2 16) := fun f h3 h4 => (h8b f h3 h4).trans (cp9_g h4).symm
        have hm8c : Mv8 (cp9 U2 16) := fun i i0 i1 => by rw [cp9_g (by decide)]; exact hm8b i i0 i1
        have hMc : Mvd (cp9 U2 16) (upM mv q st) (st + 1) := fun k k0 k1 => by
          rw [cp9_g (by decide)] at k1 ⊢
          exact hMb k k0 k1
        obtain ⟨U3, g1, g2, g3, g4, g5⟩ := ih (st + 1) S2 (cp9 U2 16) (upM mv q st) (fun j => S2 14 j) (cst0 S2) fu (by omega) (by omega) (by omega) hVS h8c hm8c hMc (fun k k0 k1 => by rw [h8b 14 (by decide) (by decide)]; exact if_pos ⟨rfl, k0, k1⟩) (fun k hk => rfl) (by rw [bbS_self]) (by omega) (by omega)
        rw [s20] at g1 g4 g5
        refine ⟨U3, ?_, g2, g3, g4, g5⟩
        have e3 := fun a1 a2 a3 Kc => e_im102 (m0 := m0) (P := P) (S := U2) (z := z) a1 a2 a3 Kc
        refine Eq.trans ?_ g1
        simp -implicitDefEqProofs (disch := omega) only [↓reduceIte, ↓e_lets, ↓e_ite, ↓e_cal, e_cal2, e_cal3, e_thr, e_nthrow, e_rtn, e_r0, e_r1, e_dv, iI_add, iI_sub, iI_mul, iI_neg, iI_div, iI_rem, iI_lt, iI_le, iI_eq, b_eq0, b_eq1, Int.reduceAdd, Int.reduceMul, Int.reduceSub, Int.reduceNeg, Int.reduceDiv, Int.reduceMod, Nat.reduceAdd, Bool.false_eq_true, eq_self, ltT, ltF, leT, leF, eqT, eqF, true_and, and_true, false_and, and_false, and_self, or_true, true_or, or_false, false_or, ne_eq, not_true_eq_false, not_false_eq_true, if_true, if_false, ite_true, ite_false, ite_not, some_none, some_some, none_some, none_none, li_0, li_1, li_2, li_3, li_4, li_5, li_6, li_7, li_8, li_9, li_10, li_11, li_12, li_13, li_14, li_15, li_16, li_17, li_18, li_19, li_20, li_21, li_22, li_23, li_24, li_25, li_26, li_27, li_28, li_29, li_30, li_31, li_32, li_63, li_64, li_99, li_100, li_128, li_240, li_256, li_512, li_960, li_1000, li_1022, li_1023, li_100000, li_m1, li_m1000, ↓m_g0 MR_Hm, ↓m_g1 MR_Hm, ↓m_g2 MR_Hm, ↓m_g3 MR_Hm, ↓m_g4 MR_Hm, ↓m_g5 MR_Hm, ↓m_g6 MR_Hm, ↓m_g7 MR_Hm, ↓m_g8 MR_Hm, ↓m_g9 MR_Hm, ↓m_g10 MR_Hm, ↓m_g11 MR_Hm, ↓m_g12 MR_Hm, ↓m_g13 MR_Hm, ↓m_g14 MR_Hm, ↓m_g15 MR_Hm, ↓m_g16 MR_Hm, ↓m_g17 MR_Hm, ↓m_g18 MR_Hm, ↓m_g19 MR_Hm, ↓m_g20 MR_Hm, ↓m_g21 MR_Hm, ↓m_g22 MR_Hm, ↓m_g23 MR_Hm, ↓m_g24 MR_Hm, ↓m_g25 MR_Hm, ↓m_g26 MR_Hm, ↓m_g27 MR_Hm, ↓m_ld0 MR_Hm, ↓m_ld1 MR_Hm, ↓m_ld2 MR_Hm, ↓m_ld3 MR_Hm, ↓m_ld4 MR_Hm, ↓m_ld5 MR_Hm, ↓m_ld6 MR_Hm, ↓m_ld7 MR_Hm, ↓m_ld8 MR_Hm, ↓m_ld9 MR_Hm, ↓m_ld10 MR_Hm, ↓m_ld11 MR_Hm, ↓m_ld12 MR_Hm, ↓m_ld13 MR_Hm, ↓m_ld14 MR_Hm, ↓m_ld15 MR_Hm, ↓m_ld16 MR_Hm, ↓m_ld17 MR_Hm, ↓m_ld18 MR_Hm, ↓m_ld19 MR_Hm, ↓m_rcv MR_Hm, ↓m_s0, ↓m_s1, ↓m_s2, ↓m_s3, ↓m_s4, ↓m_s5, ↓m_s6, ↓m_s7, ↓m_s8, ↓m_s9, ↓m_s10, ↓m_s11, ↓m_s12, ↓m_s13, ↓m_s14, ↓m_s15, ↓m_s16, ↓m_s17, ↓m_s18, ↓m_s19, ↓m_p0, ↓m_p1, ↓m_p2, ↓m_p3, ↓m_p4, ↓m_p5, ↓m_p6, ↓m_p7, e1, e2, ↓e3, ↓u_j_X9_improve_129]
theorem x_improve {m0 : Nat} {P : Hp} {S : SS} {z : Nat × Nat} (hV : VS (upS S 20 0 0)) {a : Int} (a0 : 1 ≤ a) (a1 : a ≤ 20) : ∃ U2, f_X9_improve m0 (iI a) (Hm m0 P S, z) = some (.ok (iI (cst0 (ipS (upS S 20 0 0) a))), (Hm m0 P U2, z)) ∧ S8 (ipS (upS S 20 0 0) a) U2 := by
  have e0 := x_ck1 (m0 := m0) (P := P) (S := S) (z := z)
  rw [u_f_X9_improve]
  generalize upS S 20 0 0 = S2 at *
  have hm2 := hV.2.1
  unfold Bm at hm2
  have e1 := fun a1 Kc => e_im18 (m0 := m0) (P := P) (S := S2) (z := z) a1 Kc
  have e2 := fun a1 Kc => e_im38 (m0 := m0) (P := P) (S := mi8 S2 3) (z := z) a1 Kc
  have h8 : S8 S2 (cp9 (mi8 S2 3) 16) := fun f h3 h4 => by rw [cp9_g h4, mi8_g h3]
  have e3 := e_X9_costNow (MR_Hm (m0 := m0) (P := P) (S := cp9 (mi8 S2 3) 16) (z := z)) (VS_m h8.sm hV)
  rw [← cst0_m h8.sm] at e3
  have hcb := cst0_b hV
  have hm18 : ∀ i : Int, 0 ≤ i → i < 3 → cp9 (mi8 S2 3) 16 18 i = -1 := fun i i0 i1 => by
    rw [cp9_g (by decide)]
    exact if_pos ⟨rfl, i0, i1⟩
  have q0 := hm18 0 (by decide) (by decide)
  have q1 := hm18 1 (by decide) (by decide)
  have q2 := hm18 2 (by decide) (by decide)
  obtain ⟨U3, g1, g2, g3, g4, g5⟩ := e_L_imp (m0 := m0) (P := P) (z := z) a1 (fun v26 => j_X9_improve_135 (some m0) v26) a.toNat 0 S2 (cp9 (mi8 S2 3) 16) (fun _ => -1000) (fun j => S2 14 j) (cst0 S2) 100000 (by decide) (by omega) (by omega) hV h8 (fun i i0 i1 => by rw [hm18 i i0 i1]; decide) (fun k k0 k1 => by
    rw [q0, q1, q2]
    show ((-1000 : Int) < 0) ∧ ((0 : Int) - (-1000) ≤ 1 ↔ (-1 : Int) = k) ∧ ((0 : Int) - (-1000) ≤ 2 ↔ (-1 : Int) = k ∨ (-1 : Int) = k) ∧ ((0 : Int) - (-1000) ≤ 3 ↔ (-1 : Int) = k ∨ (-1 : Int) = k ∨ (-1 : Int) = k)
    omega) (fun k k0 k1 => by
    show cp9 (mi8 S2 3) 16 19 k = S2 14 k
    unfold cp9
    rw [if_pos ⟨rfl, k0, k1⟩, mi8_g (by decide)]) (fun k hk => rfl) (by rw [bbS_self]) (by omega) (by omega)
  refine ⟨bbS U3 (U3 19) 16, ?_, ?_⟩
  · have e4 := fun a1 Kc => e_im137 (m0 := m0) (P := P) (S := U3) (z := z) a1 Kc
    rw [u_j_X9_improve_135, li_0, e_lets, e4] at g1
    refine Eq.trans ?_ g1
    have e5 := e_in1 (x := a) (a := 1) (b := 20) (Hm m0 P S, z) (by omega) (by omega) (by decide) (by decide) (by decide) (by decide) a0 a1
    simp -implicitDefEqProofs (disch := omega) only [↓reduceIte, ↓e_lets, ↓e_ite, ↓e_cal, e_cal2, e_cal3, e_thr, e_nthrow, e_rtn, e_r0, e_r1, e_dv, iI_add, iI_sub, iI_mul, iI_neg, iI_div, iI_rem, iI_lt, iI_le, iI_eq, b_eq0, b_eq1, Int.reduceAdd, Int.reduceMul, Int.reduceSub, Int.reduceNeg, Int.reduceDiv, Int.reduceMod, Nat.reduceAdd, Bool.false_eq_true, eq_self, ltT, ltF, leT, leF, eqT, eqF, true_and, and_true, false_and, and_false, and_self, or_true, true_or, or_false, false_or, ne_eq, not_true_eq_false, not_false_eq_true, if_true, if_false, ite_true, ite_false, ite_not, some_none, some_some, none_some, none_none, li_0, li_1, li_2, li_3, li_4, li_5, li_6, li_7, li_8, li_9, li_10, li_11, li_12, li_13, li_14, li_15, li_16, li_17, li_18, li_19, li_20, li_21, li_22, li_23, li_24, li_25, li_26, li_27, li_28, li_29, li_30, li_31, li_32, li_63, li_64, li_99, li_100, li_128, li_240, li_256, li_512, li_960, li_1000, li_1022, li_1023, li_100000, li_m1, li_m1000, ↓m_g0 MR_Hm, ↓m_g1 MR_Hm, ↓m_g2 MR_Hm, ↓m_g3 MR_Hm, ↓m_g4 MR_Hm, ↓m_g5 MR_Hm, ↓m_g6 MR_Hm, ↓m_g7 MR_Hm, ↓m_g8 MR_Hm, ↓m_g9 MR_Hm, ↓m_g10 MR_Hm, ↓m_g11 MR_Hm, ↓m_g12 MR_Hm, ↓m_g13 MR_Hm, ↓m_g14 MR_Hm, ↓m_g15 MR_Hm, ↓m_g16 MR_Hm, ↓m_g17 MR_Hm, ↓m_g18 MR_Hm, ↓m_g19 MR_Hm, ↓m_g20 MR_Hm, ↓m_g21 MR_Hm, ↓m_g22 MR_Hm, ↓m_g23 MR_Hm, ↓m_g24 MR_Hm, ↓m_g25 MR_Hm, ↓m_g26 MR_Hm, ↓m_g27 MR_Hm, ↓m_ld0 MR_Hm, ↓m_ld1 MR_Hm, ↓m_ld2 MR_Hm, ↓m_ld3 MR_Hm, ↓m_ld4 MR_Hm, ↓m_ld5 MR_Hm, ↓m_ld6 MR_Hm, ↓m_ld7 MR_Hm, ↓m_ld8 MR_Hm, ↓m_ld9 MR_Hm, ↓m_ld10 MR_Hm, ↓m_ld11 MR_Hm, ↓m_ld12 MR_Hm, ↓m_ld13 MR_Hm, ↓m_ld14 MR_Hm, ↓m_ld15 MR_Hm, ↓m_ld16 MR_Hm, ↓m_ld17 MR_Hm, ↓m_ld18 MR_Hm, ↓m_ld19 MR_Hm, ↓m_rcv MR_Hm, ↓m_s0, ↓m_s1, ↓m_s2, ↓m_s3, ↓m_s4, ↓m_s5, ↓m_s6, ↓m_s7, ↓m_s8, ↓m_s9, ↓m_s10, ↓m_s11, ↓m_s12, ↓m_s13, ↓m_s14, ↓m_s15, ↓m_s16, ↓m_s17, ↓m_s18, ↓m_s19, ↓m_p0, ↓m_p1, ↓m_p2, ↓m_p3, ↓m_p4, ↓m_p5, ↓m_p6, ↓m_p7, e5, e0, ↓e1, ↓e2, e3]
  · intro f h3 h4
    funext i
    unfold ipS bbS
    by_cases c : f = 14
    · subst c
      by_cases d : 0 ≤ i ∧ i < 16
      · rw [if_pos (show 14 = 14 ∧ 0 ≤ i ∧ i < 16 from ⟨rfl, d⟩), g3 i d.1 d.2]
        by_cases e : 0 ≤ i ∧ i < S2 20 4
        · rw [if_pos ⟨rfl, e⟩]
        · rw [if_neg (fun w => e w.2), g4 i (by omega)]
      · rw [if_neg (show ¬ (14 = 14 ∧ 0 ≤ i ∧ i < 16) from fun w => d w.2), if_neg (fun w => d ⟨w.2.1, by omega⟩), g2 14 (by decide) (by decide)]
    · rw [if_neg (fun w => c w.1), if_neg (fun w => c w.1), g2 f h3 h4]
