/-! PURE LAYER: the law's operations, one by one -/
theorem op_setWish {x0 m0 out outD : Nat} {hs : Hs} (a1 a2 a3 : Int32) (hi : InvS x0 m0 out outD hs) : opI (f_L_setWish (some x0) a1 a2 a3 (some out)) (f_X9_setWish m0 a1 a2 a3) m0 out (InvS x0 m0 out outD) hs := by
  obtain ⟨a, a0, a1, rfl⟩ := i32 a1
  obtain ⟨b, b0, b1, rfl⟩ := i32 a2
  obtain ⟨c, c0, c1, rfl⟩ := i32 a3
  refine op_I hi (fun S A P K z f g hF => ?_)
  have hF2 := hF
  obtain ⟨h0, hA, hV, hC, hG, hO, hD, hFr, ho, hdis, hM, hsep, hB, _⟩ := hF2
  have hm2 := hV.2.1
  unfold Bm at hm2
  show Br x0 m0 out outD _ _ S A P K z
  rw [← h0]
  rw [← h0] at hF
  by_cases k1 : a < 0 ∨ S 20 2 ≤ a
  · exact br_err hF (j := 1) (by decide) (x_setWish_1 hV a0 a1 b0 b1 c0 c1 k1) (c_setWish_1 hA (VS_m (Sm.u0 (S := S) (x := 1)) hV) (CI_m (Sm.u0 (x := 1)) hC) hO a0 a1 b0 b1 c0 c1 k1)
  · skip
    by_cases k2 : (b < 0 ∨ 29 < b) ∨ c < 0 ∨ 9 < c
    · exact br_err hF (j := 2) (by decide) (x_setWish_2 hV a0 a1 b0 b1 c0 c1 (show 0 ≤ a ∧ a < S 20 2 by omega) k2) (c_setWish_2 hA (VS_m (Sm.u0 (S := S) (x := 2)) hV) (CI_m (Sm.u0 (x := 2)) hC) hO a0 a1 b0 b1 c0 c1 (show 0 ≤ a ∧ a < S 20 2 by omega) k2)
    · skip
      refine br_ok hF (S2 := (upS S 20 0 0)) Sm.u0 ?_ ?_ (x_setWish_0 hV a0 a1 b0 b1 c0 c1 (show 0 ≤ a ∧ a < S 20 2 by omega) (show 0 ≤ b ∧ b ≤ 29 by omega) (show 0 ≤ c ∧ c ≤ 9 by omega)) (c_setWish_0 hA (VS_m (Sm.u0 (S := S) (x := 0)) hV) (CI_m (Sm.u0 (x := 0)) hC) hO a0 a1 b0 b1 c0 c1 (show 0 ≤ a ∧ a < S 20 2 by omega) (show 0 ≤ b ∧ b ≤ 29 by omega) (show 0 ≤ c ∧ c ≤ 9 by omega))
      · exact ⟨rfl, rfl, rfl, rfl⟩
      · exact GI_wish (GI_m Sm.u0 hG) (show 0 ≤ a ∧ a < S 20 2 by omega) (show 0 ≤ b ∧ b ≤ 29 by omega) (show 0 ≤ c ∧ c ≤ 9 by omega)

theorem op_setWeight {x0 m0 out outD : Nat} {hs : Hs} (a1 a2 : Int32) (hi : InvS x0 m0 out outD hs) : opI (f_L_setWeight (some x0) a1 a2 (some out)) (f_X9_setWeight m0 a1 a2) m0 out (InvS x0 m0 out outD) hs := by
  obtain ⟨a, a0, a1, rfl⟩ := i32 a1
  obtain ⟨b, b0, b1, rfl⟩ := i32 a2
  refine op_I hi (fun S A P K z f g hF => ?_)
  have hF2 := hF
  obtain ⟨h0, hA, hV, hC, hG, hO, hD, hFr, ho, hdis, hM, hsep, hB, _⟩ := hF2
  have hm2 := hV.2.1
  unfold Bm at hm2
  show Br x0 m0 out outD _ _ S A P K z
  rw [← h0]
  rw [← h0] at hF
  by_cases k1 : (a < 0 ∨ 3 < a) ∨ b < 0 ∨ 9 < b
  · exact br_err hF (j := 1) (by decide) (x_setWeight_1 hV a0 a1 b0 b1 k1) (c_setWeight_1 hA (VS_m (Sm.u0 (S := S) (x := 1)) hV) (CI_m (Sm.u0 (x := 1)) hC) hO a0 a1 b0 b1 k1)
  · skip
    refine br_ok hF (S2 := (upS S 20 0 0)) Sm.u0 ?_ ?_ (x_setWeight_0 hV a0 a1 b0 b1 (show 0 ≤ a ∧ a ≤ 3 by omega) (show 0 ≤ b ∧ b ≤ 9 by omega)) (c_setWeight_0 hA (VS_m (Sm.u0 (S := S) (x := 0)) hV) (CI_m (Sm.u0 (x := 0)) hC) hO a0 a1 b0 b1 (show 0 ≤ a ∧ a ≤ 3 by omega) (show 0 ≤ b ∧ b ≤ 9 by omega))
    · exact ⟨rfl, rfl, rfl, rfl⟩
    · exact GI_weight (GI_m Sm.u0 hG) (show 0 ≤ b ∧ b ≤ 9 by omega)

theorem op_reason {x0 m0 out outD : Nat} {hs : Hs} (a1 a2 a3 : Int32) (hi : InvS x0 m0 out outD hs) : opI (f_L_reason (some x0) a1 a2 a3 (some out)) (f_X9_reason m0 a1 a2 a3) m0 out (InvS x0 m0 out outD) hs := by
  obtain ⟨a, a0, a1, rfl⟩ := i32 a1
  obtain ⟨b, b0, b1, rfl⟩ := i32 a2
  obtain ⟨c, c0, c1, rfl⟩ := i32 a3
  refine op_I hi (fun S A P K z f g hF => ?_)
  have hF2 := hF
  obtain ⟨h0, hA, hV, hC, hG, hO, hD, hFr, ho, hdis, hM, hsep, hB, _⟩ := hF2
  have hm2 := hV.2.1
  unfold Bm at hm2
  show Br x0 m0 out outD _ _ S A P K z
  rw [← h0]
  rw [← h0] at hF
  by_cases k1 : a < 0 ∨ S 20 4 ≤ a
  · exact br_err hF (j := 1) (by decide) (x_reason_1 hV a0 a1 b0 b1 c0 c1 k1) (c_reason_1 hA (VS_m (Sm.u0 (S := S) (x := 1)) hV) (CI_m (Sm.u0 (x := 1)) hC) hO a0 a1 b0 b1 c0 c1 k1)
  · skip
    by_cases k2 : b < 0 ∨ 29 < b ∨ c < 0 ∨ S 20 1 ≤ c
    · exact br_err hF (j := 2) (by decide) (x_reason_2 hV a0 a1 b0 b1 c0 c1 (show 0 ≤ a ∧ a < S 20 4 by omega) k2) (c_reason_2 hA (VS_m (Sm.u0 (S := S) (x := 2)) hV) (CI_m (Sm.u0 (x := 2)) hC) hO a0 a1 b0 b1 c0 c1 (show 0 ≤ a ∧ a < S 20 4 by omega) k2)
    · skip
      refine br_ok hF (S2 := (upS S 20 0 0)) Sm.u0 ?_ ?_ (x_reason_0 hV a0 a1 b0 b1 c0 c1 (show 0 ≤ a ∧ a < S 20 4 by omega) (show 0 ≤ b ∧ b ≤ 29 by omega) (show 0 ≤ c ∧ c < S 20 1 by omega)) (c_reason_0 hA (VS_m (Sm.u0 (S := S) (x := 0)) hV) (CI_m (Sm.u0 (x := 0)) hC) hO a0 a1 b0 b1 c0 c1 (show 0 ≤ a ∧ a < S 20 4 by omega) (show 0 ≤ b ∧ b ≤ 29 by omega) (show 0 ≤ c ∧ c < S 20 1 by omega))
      · exact ⟨rfl, rfl, rfl, rfl⟩
      · exact GI_m Sm.u0 hG

theorem op_reasons {x0 m0 out outD : Nat} {hs : Hs} (a1 a2 : Int32) (hi : InvS x0 m0 out outD hs) : opI (f_L_reasons (some x0) a1 a2 (some out)) (f_X9_reasons m0 a1 a2) m0 out (InvS x0 m0 out outD) hs := by
  obtain ⟨a, a0, a1, rfl⟩ := i32 a1
  obtain ⟨b, b0, b1, rfl⟩ := i32 a2
  refine op_I hi (fun S A P K z f g hF => ?_)
  have hF2 := hF
  obtain ⟨h0, hA, hV, hC, hG, hO, hD, hFr, ho, hdis, hM, hsep, hB, _⟩ := hF2
  have hm2 := hV.2.1
  unfold Bm at hm2
  show Br x0 m0 out outD _ _ S A P K z
  rw [← h0]
  rw [← h0] at hF
  by_cases k1 : a < 0 ∨ S 20 4 ≤ a
  · exact br_err hF (j := 1) (by decide) (x_reasons_1 hV a0 a1 b0 b1 k1) (c_reasons_1 hA (VS_m (Sm.u0 (S := S) (x := 1)) hV) (CI_m (Sm.u0 (x := 1)) hC) hO a0 a1 b0 b1 k1)
  · skip
    by_cases k2 : b < 0 ∨ 29 < b
    · exact br_err hF (j := 2) (by decide) (x_reasons_2 hV a0 a1 b0 b1 (show 0 ≤ a ∧ a < S 20 4 by omega) k2) (c_reasons_2 hA (VS_m (Sm.u0 (S := S) (x := 2)) hV) (CI_m (Sm.u0 (x := 2)) hC) hO a0 a1 b0 b1 (show 0 ≤ a ∧ a < S 20 4 by omega) k2)
    · skip
      by_cases k3 : 0 ≤ fstN (rsB (upS S 20 0 3) a b) (S 20 1).toNat
      · exact br_err hF (j := 3) (by decide) (x_reasons_3 hV a0 a1 b0 b1 (show 0 ≤ a ∧ a < S 20 4 by omega) (show 0 ≤ b ∧ b ≤ 29 by omega) k3) (c_reasons_3 hA (VS_m (Sm.u0 (S := S) (x := 3)) hV) (CI_m (Sm.u0 (x := 3)) hC) hO a0 a1 b0 b1 (show 0 ≤ a ∧ a < S 20 4 by omega) (show 0 ≤ b ∧ b ≤ 29 by omega) k3)
      · skip
        have k3 : fstN (rsB (upS S 20 0 0) a b) (S 20 1).toNat < 0 := by
          rw [← rsB_m Sm.u0]
          rw [← rsB_m Sm.u0] at k3
          omega
        refine br_ok hF (S2 := (upS S 20 0 0)) Sm.u0 ?_ ?_ (x_reasons_0 hV a0 a1 b0 b1 (show 0 ≤ a ∧ a < S 20 4 by omega) (show 0 ≤ b ∧ b ≤ 29 by omega) k3) (c_reasons_0 hA (VS_m (Sm.u0 (S := S) (x := 0)) hV) (CI_m (Sm.u0 (x := 0)) hC) hO a0 a1 b0 b1 (show 0 ≤ a ∧ a < S 20 4 by omega) (show 0 ≤ b ∧ b ≤ 29 by omega) k3)
        · exact ⟨rfl, rfl, rfl, rfl⟩
        · exact GI_m Sm.u0 hG

theorem op_place {x0 m0 out outD : Nat} {hs : Hs} (a1 a2 a3 : Int32) (hi : InvS x0 m0 out outD hs) : opI (f_L_place (some x0) a1 a2 a3 (some out)) (f_X9_place m0 a1 a2 a3) m0 out (InvS x0 m0 out outD) hs := by
  obtain ⟨a, a0, a1, rfl⟩ := i32 a1
  obtain ⟨b, b0, b1, rfl⟩ := i32 a2
  obtain ⟨c, c0, c1, rfl⟩ := i32 a3
  refine op_I hi (fun S A P K z f g hF => ?_)
  have hF2 := hF
  obtain ⟨h0, hA, hV, hC, hG, hO, hD, hFr, ho, hdis, hM, hsep, hB, _⟩ := hF2
  have hm2 := hV.2.1
  unfold Bm at hm2
  show Br x0 m0 out outD _ _ S A P K z
  rw [← h0]
  rw [← h0] at hF
  by_cases k1 : a < 0 ∨ S 20 4 ≤ a
  · exact br_err hF (j := 1) (by decide) (x_place_1 hV a0 a1 b0 b1 c0 c1 k1) (c_place_1 hA (VS_m (Sm.u0 (S := S) (x := 1)) hV) (CI_m (Sm.u0 (x := 1)) hC) hO a0 a1 b0 b1 c0 c1 k1)
  · skip
    by_cases k2 : b < 0 ∨ 29 < b ∨ c < 0 ∨ S 20 1 ≤ c
    · exact br_err hF (j := 2) (by decide) (x_place_2 hV a0 a1 b0 b1 c0 c1 (show 0 ≤ a ∧ a < S 20 4 by omega) k2) (c_place_2 hA (VS_m (Sm.u0 (S := S) (x := 2)) hV) (CI_m (Sm.u0 (x := 2)) hC) hO a0 a1 b0 b1 c0 c1 (show 0 ≤ a ∧ a < S 20 4 by omega) k2)
    · skip
      by_cases k3 : ¬ (S 8 a = 0 ∧ ¬ (0 ≤ S 14 a ∧ S 14 a / 8 / 6 < S 20 6))
      · exact br_err hF (j := 3) (by decide) (x_place_3 hV a0 a1 b0 b1 c0 c1 (show 0 ≤ a ∧ a < S 20 4 by omega) (show 0 ≤ b ∧ b ≤ 29 by omega) (show 0 ≤ c ∧ c < S 20 1 by omega) k3) (c_place_3 hA (VS_m (Sm.u0 (S := S) (x := 3)) hV) (CI_m (Sm.u0 (x := 3)) hC) hO a0 a1 b0 b1 c0 c1 (show 0 ≤ a ∧ a < S 20 4 by omega) (show 0 ≤ b ∧ b ≤ 29 by omega) (show 0 ≤ c ∧ c < S 20 1 by omega) k3)
      · skip
        by_cases k4 : sLt S a b c ≠ 0
        · exact br_err hF (j := 4) (by decide) (x_place_4 hV a0 a1 b0 b1 c0 c1 (show 0 ≤ a ∧ a < S 20 4 by omega) (show 0 ≤ b ∧ b ≤ 29 by omega) (show 0 ≤ c ∧ c < S 20 1 by omega) (Classical.not_not.mp k3) (by rw [sLt_m (Sm.sy (Sm.u0 (S := S) (x := 4)))]; exact k4)) (c_place_4 hA (VS_m (Sm.u0 (S := S) (x := 4)) hV) (CI_m (Sm.u0 (x := 4)) hC) hO a0 a1 b0 b1 c0 c1 (show 0 ≤ a ∧ a < S 20 4 by omega) (show 0 ≤ b ∧ b ≤ 29 by omega) (show 0 ≤ c ∧ c < S 20 1 by omega) (Classical.not_not.mp k3) (by rw [sLt_m (Sm.sy (Sm.u0 (S := S) (x := 4)))]; exact k4))
        · skip
          have k5 : sLt (upS S 20 0 0) a b c = 0 := by rw [sLt_m (Sm.sy (Sm.u0 (S := S) (x := 0)))]; exact Classical.not_not.mp k4
          have k6 : 8 * b + c < 240 := by omega
          refine br_ok hF (S2 := (upS S 20 0 0)) Sm.u0 ?_ ?_ (x_place_0 hV a0 a1 b0 b1 c0 c1 (show 0 ≤ a ∧ a < S 20 4 by omega) (show 0 ≤ b ∧ b ≤ 29 by omega) (show 0 ≤ c ∧ c < S 20 1 by omega) (Classical.not_not.mp k3) k5) (c_place_0 hA (VS_m (Sm.u0 (S := S) (x := 0)) hV) (CI_m (Sm.u0 (x := 0)) hC) hO a0 a1 b0 b1 c0 c1 (show 0 ≤ a ∧ a < S 20 4 by omega) (show 0 ≤ b ∧ b ≤ 29 by omega) (show 0 ≤ c ∧ c < S 20 1 by omega) (Classical.not_not.mp k3) k5)
          · exact ⟨rfl, rfl, rfl, rfl⟩
          · exact GI_14 (GI_m Sm.u0 hG) ⟨G3_pl (GI_m Sm.u0 hG).1 (by omega) (show a < S 20 4 by omega) (by omega) k6 (show (8 * b + c) % 8 < S 20 1 by omega) (by rw [show (8 * b + c) / 8 = b by omega, show (8 * b + c) % 8 = c by omega]; exact k5), R14.up (by omega) (show a < S 20 4 by omega)⟩

theorem op_remove {x0 m0 out outD : Nat} {hs : Hs} (a1 : Int32) (hi : InvS x0 m0 out outD hs) : opI (f_L_remove (some x0) a1 (some out)) (f_X9_remove m0 a1) m0 out (InvS x0 m0 out outD) hs := by
  obtain ⟨a, a0, a1, rfl⟩ := i32 a1
  refine op_I hi (fun S A P K z f g hF => ?_)
  have hF2 := hF
  obtain ⟨h0, hA, hV, hC, hG, hO, hD, hFr, ho, hdis, hM, hsep, hB, _⟩ := hF2
  have hm2 := hV.2.1
  unfold Bm at hm2
  show Br x0 m0 out outD _ _ S A P K z
  rw [← h0]
  rw [← h0] at hF
  by_cases k1 : a < 0 ∨ S 20 4 ≤ a
  · exact br_err hF (j := 1) (by decide) (x_remove_1 hV a0 a1 k1) (c_remove_1 hA (VS_m (Sm.u0 (S := S) (x := 1)) hV) (CI_m (Sm.u0 (x := 1)) hC) hO a0 a1 k1)
  · skip
    by_cases k2 : ¬ (0 ≤ S 14 a ∧ S 8 a = 0 ∧ ¬ (0 ≤ S 14 a ∧ S 14 a / 8 / 6 < S 20 6))
    · exact br_err hF (j := 2) (by decide) (x_remove_2 hV a0 a1 (show 0 ≤ a ∧ a < S 20 4 by omega) k2) (c_remove_2 hA (VS_m (Sm.u0 (S := S) (x := 2)) hV) (CI_m (Sm.u0 (x := 2)) hC) hO a0 a1 (show 0 ≤ a ∧ a < S 20 4 by omega) k2)
    · skip
      refine br_ok hF (S2 := (upS S 20 0 0)) Sm.u0 ?_ ?_ (x_remove_0 hV a0 a1 (show 0 ≤ a ∧ a < S 20 4 by omega) (Classical.not_not.mp k2).1 (Classical.not_not.mp k2).2) (c_remove_0 hA (VS_m (Sm.u0 (S := S) (x := 0)) hV) (CI_m (Sm.u0 (x := 0)) hC) hO a0 a1 (show 0 ≤ a ∧ a < S 20 4 by omega) (Classical.not_not.mp k2).1 (Classical.not_not.mp k2).2)
      · exact ⟨rfl, rfl, rfl, rfl⟩
      · exact GI_14 (GI_m Sm.u0 hG) ⟨G3_no (GI_m Sm.u0 hG).1 (Classical.not_not.mp k2).2.1, R14.up (by omega) (show a < S 20 4 by omega)⟩

theorem op_lock {x0 m0 out outD : Nat} {hs : Hs} (a1 : Int32) (hi : InvS x0 m0 out outD hs) : opI (f_L_lock (some x0) a1 (some out)) (f_X9_lock m0 a1) m0 out (InvS x0 m0 out outD) hs := by
  obtain ⟨a, a0, a1, rfl⟩ := i32 a1
  refine op_I hi (fun S A P K z f g hF => ?_)
  have hF2 := hF
  obtain ⟨h0, hA, hV, hC, hG, hO, hD, hFr, ho, hdis, hM, hsep, hB, _⟩ := hF2
  have hm2 := hV.2.1
  unfold Bm at hm2
  show Br x0 m0 out outD _ _ S A P K z
  rw [← h0]
  rw [← h0] at hF
  by_cases k1 : a < 0 ∨ S 20 4 ≤ a
  · exact br_err hF (j := 1) (by decide) (x_lock_1 hV a0 a1 k1) (c_lock_1 hA (VS_m (Sm.u0 (S := S) (x := 1)) hV) (CI_m (Sm.u0 (x := 1)) hC) hO a0 a1 k1)
  · skip
    by_cases k2 : ¬ (0 ≤ S 14 a ∧ S 8 a = 0 ∧ ¬ (0 ≤ S 14 a ∧ S 14 a / 8 / 6 < S 20 6))
    · exact br_err hF (j := 2) (by decide) (x_lock_2 hV a0 a1 (show 0 ≤ a ∧ a < S 20 4 by omega) k2) (c_lock_2 hA (VS_m (Sm.u0 (S := S) (x := 2)) hV) (CI_m (Sm.u0 (x := 2)) hC) hO a0 a1 (show 0 ≤ a ∧ a < S 20 4 by omega) k2)
    · skip
      refine br_ok hF (S2 := (upS S 20 0 0)) Sm.u0 ?_ ?_ (x_lock_0 hV a0 a1 (show 0 ≤ a ∧ a < S 20 4 by omega) (Classical.not_not.mp k2).1 (Classical.not_not.mp k2).2) (c_lock_0 hA (VS_m (Sm.u0 (S := S) (x := 0)) hV) (CI_m (Sm.u0 (x := 0)) hC) hO a0 a1 (show 0 ≤ a ∧ a < S 20 4 by omega) (Classical.not_not.mp k2).1 (Classical.not_not.mp k2).2)
      · exact ⟨rfl, rfl, rfl, rfl⟩
      · exact GI_lock (GI_m Sm.u0 hG) (show 0 ≤ a ∧ a < S 20 4 by omega) (Classical.not_not.mp k2).1 (Classical.not_not.mp k2).2.2

theorem op_unlock {x0 m0 out outD : Nat} {hs : Hs} (a1 : Int32) (hi : InvS x0 m0 out outD hs) : opI (f_L_unlock (some x0) a1 (some out)) (f_X9_unlock m0 a1) m0 out (InvS x0 m0 out outD) hs := by
  obtain ⟨a, a0, a1, rfl⟩ := i32 a1
  refine op_I hi (fun S A P K z f g hF => ?_)
  have hF2 := hF
  obtain ⟨h0, hA, hV, hC, hG, hO, hD, hFr, ho, hdis, hM, hsep, hB, _⟩ := hF2
  have hm2 := hV.2.1
  unfold Bm at hm2
  show Br x0 m0 out outD _ _ S A P K z
  rw [← h0]
  rw [← h0] at hF
  by_cases k1 : a < 0 ∨ S 20 4 ≤ a
  · exact br_err hF (j := 1) (by decide) (x_unlock_1 hV a0 a1 k1) (c_unlock_1 hA (VS_m (Sm.u0 (S := S) (x := 1)) hV) (CI_m (Sm.u0 (x := 1)) hC) hO a0 a1 k1)
  · skip
    by_cases k2 : S 8 a = 0
    · exact br_err hF (j := 2) (by decide) (x_unlock_2 hV a0 a1 (show 0 ≤ a ∧ a < S 20 4 by omega) k2) (c_unlock_2 hA (VS_m (Sm.u0 (S := S) (x := 2)) hV) (CI_m (Sm.u0 (x := 2)) hC) hO a0 a1 (show 0 ≤ a ∧ a < S 20 4 by omega) k2)
    · skip
      refine br_ok hF (S2 := (upS S 20 0 0)) Sm.u0 ?_ ?_ (x_unlock_0 hV a0 a1 (show 0 ≤ a ∧ a < S 20 4 by omega) k2) (c_unlock_0 hA (VS_m (Sm.u0 (S := S) (x := 0)) hV) (CI_m (Sm.u0 (x := 0)) hC) hO a0 a1 (show 0 ≤ a ∧ a < S 20 4 by omega) k2)
      · exact ⟨rfl, rfl, rfl, rfl⟩
      · exact GI_unlock (GI_m Sm.u0 hG) (show 0 ≤ a ∧ a < S 20 4 by omega)

theorem op_placeOf {x0 m0 out outD : Nat} {hs : Hs} (a1 : Int32) (hi : InvS x0 m0 out outD hs) : opI (f_L_placeOf (some x0) a1 (some out)) (f_X9_placeOf m0 a1) m0 out (InvS x0 m0 out outD) hs := by
  obtain ⟨a, a0, a1, rfl⟩ := i32 a1
  refine op_I hi (fun S A P K z f g hF => ?_)
  have hF2 := hF
  obtain ⟨h0, hA, hV, hC, hG, hO, hD, hFr, ho, hdis, hM, hsep, hB, _⟩ := hF2
  have hm2 := hV.2.1
  unfold Bm at hm2
  show Br x0 m0 out outD _ _ S A P K z
  rw [← h0]
  rw [← h0] at hF
  by_cases k1 : a < 0 ∨ S 20 4 ≤ a
  · exact br_err hF (j := 1) (by decide) (x_placeOf_1 hV a0 a1 k1) (c_placeOf_1 hA (VS_m (Sm.u0 (S := S) (x := 1)) hV) (CI_m (Sm.u0 (x := 1)) hC) hO a0 a1 k1)
  · skip
    by_cases k2 : S 14 a < 0
    · exact br_err hF (j := 2) (by decide) (x_placeOf_2 hV a0 a1 (show 0 ≤ a ∧ a < S 20 4 by omega) k2) (c_placeOf_2 hA (VS_m (Sm.u0 (S := S) (x := 2)) hV) (CI_m (Sm.u0 (x := 2)) hC) hO a0 a1 (show 0 ≤ a ∧ a < S 20 4 by omega) k2)
    · skip
      refine br_ok hF (S2 := (upS S 20 0 0)) Sm.u0 ?_ ?_ (x_placeOf_0 hV a0 a1 (show 0 ≤ a ∧ a < S 20 4 by omega) (show 0 ≤ S 14 a by omega)) (c_placeOf_0 hA (VS_m (Sm.u0 (S := S) (x := 0)) hV) (CI_m (Sm.u0 (x := 0)) hC) hO a0 a1 (show 0 ≤ a ∧ a < S 20 4 by omega) (show 0 ≤ S 14 a by omega))
      · exact ⟨rfl, rfl, rfl, rfl⟩
      · exact GI_m Sm.u0 hG

theorem op_groupAt {x0 m0 out outD : Nat} {hs : Hs} (a1 a2 : Int32) (hi : InvS x0 m0 out outD hs) : opI (f_L_groupAt (some x0) a1 a2 (some out)) (f_X9_groupAt m0 a1 a2) m0 out (InvS x0 m0 out outD) hs := by
  obtain ⟨a, a0, a1, rfl⟩ := i32 a1
  obtain ⟨b, b0, b1, rfl⟩ := i32 a2
  refine op_I hi (fun S A P K z f g hF => ?_)
  have hF2 := hF
  obtain ⟨h0, hA, hV, hC, hG, hO, hD, hFr, ho, hdis, hM, hsep, hB, _⟩ := hF2
  have hm2 := hV.2.1
  unfold Bm at hm2
  show Br x0 m0 out outD _ _ S A P K z
  rw [← h0]
  rw [← h0] at hF
  by_cases k1 : a < 0 ∨ S 20 3 ≤ a
  · exact br_err hF (j := 1) (by decide) (x_groupAt_1 hV a0 a1 b0 b1 k1) (c_groupAt_1 hA (VS_m (Sm.u0 (S := S) (x := 1)) hV) (CI_m (Sm.u0 (x := 1)) hC) hO a0 a1 b0 b1 k1)
  · skip
    by_cases k2 : b < 0 ∨ 29 < b
    · exact br_err hF (j := 2) (by decide) (x_groupAt_2 hV a0 a1 b0 b1 (show 0 ≤ a ∧ a < S 20 3 by omega) k2) (c_groupAt_2 hA (VS_m (Sm.u0 (S := S) (x := 2)) hV) (CI_m (Sm.u0 (x := 2)) hC) hO a0 a1 b0 b1 (show 0 ≤ a ∧ a < S 20 3 by omega) k2)
    · skip
      by_cases k3 : fstN (gatB S a b) (S 20 4).toNat < 0
      · exact br_err hF (j := 3) (by decide) (x_groupAt_3 hV a0 a1 b0 b1 (show 0 ≤ a ∧ a < S 20 3 by omega) (show 0 ≤ b ∧ b ≤ 29 by omega) (show fstN (gatB (upS S 20 0 3) a b) (S 20 4).toNat < 0 by rw [← gatB_m Sm.u0]; exact k3)) (c_groupAt_3 hA (VS_m (Sm.u0 (S := S) (x := 3)) hV) (CI_m (Sm.u0 (x := 3)) hC) hO a0 a1 b0 b1 (show 0 ≤ a ∧ a < S 20 3 by omega) (show 0 ≤ b ∧ b ≤ 29 by omega) (show fstN (gatB (upS S 20 0 3) a b) (S 20 4).toNat < 0 by rw [← gatB_m Sm.u0]; exact k3))
      · skip
        refine br_ok hF (S2 := (upS S 20 0 0)) Sm.u0 ?_ ?_ (x_groupAt_0 hV a0 a1 b0 b1 (show 0 ≤ a ∧ a < S 20 3 by omega) (show 0 ≤ b ∧ b ≤ 29 by omega) (show 0 ≤ fstN (gatB (upS S 20 0 0) a b) (S 20 4).toNat by rw [← gatB_m Sm.u0]; omega)) (c_groupAt_0 hA (VS_m (Sm.u0 (S := S) (x := 0)) hV) (CI_m (Sm.u0 (x := 0)) hC) hO a0 a1 b0 b1 (show 0 ≤ a ∧ a < S 20 3 by omega) (show 0 ≤ b ∧ b ≤ 29 by omega) (show 0 ≤ fstN (gatB (upS S 20 0 0) a b) (S 20 4).toNat by rw [← gatB_m Sm.u0]; omega))
        · exact ⟨rfl, rfl, rfl, rfl⟩
        · exact GI_m Sm.u0 hG

theorem op_teacherAt {x0 m0 out outD : Nat} {hs : Hs} (a1 a2 : Int32) (hi : InvS x0 m0 out outD hs) : opI (f_L_teacherAt (some x0) a1 a2 (some out)) (f_X9_teacherAt m0 a1 a2) m0 out (InvS x0 m0 out outD) hs := by
  obtain ⟨a, a0, a1, rfl⟩ := i32 a1
  obtain ⟨b, b0, b1, rfl⟩ := i32 a2
  refine op_I hi (fun S A P K z f g hF => ?_)
  have hF2 := hF
  obtain ⟨h0, hA, hV, hC, hG, hO, hD, hFr, ho, hdis, hM, hsep, hB, _⟩ := hF2
  have hm2 := hV.2.1
  unfold Bm at hm2
  show Br x0 m0 out outD _ _ S A P K z
  rw [← h0]
  rw [← h0] at hF
  by_cases k1 : a < 0 ∨ S 20 2 ≤ a
  · exact br_err hF (j := 1) (by decide) (x_teacherAt_1 hV a0 a1 b0 b1 k1) (c_teacherAt_1 hA (VS_m (Sm.u0 (S := S) (x := 1)) hV) (CI_m (Sm.u0 (x := 1)) hC) hO a0 a1 b0 b1 k1)
  · skip
    by_cases k2 : b < 0 ∨ 29 < b
    · exact br_err hF (j := 2) (by decide) (x_teacherAt_2 hV a0 a1 b0 b1 (show 0 ≤ a ∧ a < S 20 2 by omega) k2) (c_teacherAt_2 hA (VS_m (Sm.u0 (S := S) (x := 2)) hV) (CI_m (Sm.u0 (x := 2)) hC) hO a0 a1 b0 b1 (show 0 ≤ a ∧ a < S 20 2 by omega) k2)
    · skip
      by_cases k3 : fstN (tatB S a b) (S 20 4).toNat < 0
      · exact br_err hF (j := 3) (by decide) (x_teacherAt_3 hV a0 a1 b0 b1 (show 0 ≤ a ∧ a < S 20 2 by omega) (show 0 ≤ b ∧ b ≤ 29 by omega) (show fstN (tatB (upS S 20 0 3) a b) (S 20 4).toNat < 0 by rw [← tatB_m Sm.u0]; exact k3)) (c_teacherAt_3 hA (VS_m (Sm.u0 (S := S) (x := 3)) hV) (CI_m (Sm.u0 (x := 3)) hC) hO a0 a1 b0 b1 (show 0 ≤ a ∧ a < S 20 2 by omega) (show 0 ≤ b ∧ b ≤ 29 by omega) (show fstN (tatB (upS S 20 0 3) a b) (S 20 4).toNat < 0 by rw [← tatB_m Sm.u0]; exact k3))
      · skip
        refine br_ok hF (S2 := (upS S 20 0 0)) Sm.u0 ?_ ?_ (x_teacherAt_0 hV a0 a1 b0 b1 (show 0 ≤ a ∧ a < S 20 2 by omega) (show 0 ≤ b ∧ b ≤ 29 by omega) (show 0 ≤ fstN (tatB (upS S 20 0 0) a b) (S 20 4).toNat by rw [← tatB_m Sm.u0]; omega)) (c_teacherAt_0 hA (VS_m (Sm.u0 (S := S) (x := 0)) hV) (CI_m (Sm.u0 (x := 0)) hC) hO a0 a1 b0 b1 (show 0 ≤ a ∧ a < S 20 2 by omega) (show 0 ≤ b ∧ b ≤ 29 by omega) (show 0 ≤ fstN (tatB (upS S 20 0 0) a b) (S 20 4).toNat by rw [← tatB_m Sm.u0]; omega))
        · exact ⟨rfl, rfl, rfl, rfl⟩
        · exact GI_m Sm.u0 hG

theorem op_possible {x0 m0 out outD : Nat} {hs : Hs} (a1 : Int32) (hi : InvS x0 m0 out outD hs) : opI (f_L_possible (some x0) a1 (some out)) (f_X9_possible m0 a1) m0 out (InvS x0 m0 out outD) hs := by
  obtain ⟨a, a0, a1, rfl⟩ := i32 a1
  refine op_I hi (fun S A P K z f g hF => ?_)
  have hF2 := hF
  obtain ⟨h0, hA, hV, hC, hG, hO, hD, hFr, ho, hdis, hM, hsep, hB, _⟩ := hF2
  have hm2 := hV.2.1
  unfold Bm at hm2
  show Br x0 m0 out outD _ _ S A P K z
  rw [← h0]
  rw [← h0] at hF
  by_cases k1 : a < 0 ∨ S 20 4 ≤ a
  · exact br_err hF (j := 1) (by decide) (x_possible_1 hV a0 a1 k1) (c_possible_1 hA (VS_m (Sm.u0 (S := S) (x := 1)) hV) (CI_m (Sm.u0 (x := 1)) hC) hO a0 a1 k1)
  · skip
    refine br_ok hF (S2 := (upS S 20 0 0)) Sm.u0 ?_ ?_ (x_possible_0 hV a0 a1 (show 0 ≤ a ∧ a < S 20 4 by omega)) (c_possible_0 hA (VS_m (Sm.u0 (S := S) (x := 0)) hV) (CI_m (Sm.u0 (x := 0)) hC) hO a0 a1 (show 0 ≤ a ∧ a < S 20 4 by omega))
    · exact ⟨rfl, rfl, rfl, rfl⟩
    · exact GI_m Sm.u0 hG

theorem op_possibleAt {x0 m0 out outD : Nat} {hs : Hs} (a1 a2 : Int32) (hi : InvS x0 m0 out outD hs) : opI (f_L_possibleAt (some x0) a1 a2 (some out)) (f_X9_possibleAt m0 a1 a2) m0 out (InvS x0 m0 out outD) hs := by
  obtain ⟨a, a0, a1, rfl⟩ := i32 a1
  obtain ⟨b, b0, b1, rfl⟩ := i32 a2
  refine op_I hi (fun S A P K z f g hF => ?_)
  have hF2 := hF
  obtain ⟨h0, hA, hV, hC, hG, hO, hD, hFr, ho, hdis, hM, hsep, hB, _⟩ := hF2
  have hm2 := hV.2.1
  unfold Bm at hm2
  show Br x0 m0 out outD _ _ S A P K z
  rw [← h0]
  rw [← h0] at hF
  by_cases k1 : a < 0 ∨ S 20 4 ≤ a
  · exact br_err hF (j := 1) (by decide) (x_possibleAt_1 hV a0 a1 b0 b1 k1) (c_possibleAt_1 hA (VS_m (Sm.u0 (S := S) (x := 1)) hV) (CI_m (Sm.u0 (x := 1)) hC) hO a0 a1 b0 b1 k1)
  · skip
    by_cases k2 : fstN (npP S a b) 240 < 0
    · exact br_err hF (j := 2) (by decide) (x_possibleAt_2 hV a0 a1 b0 b1 (show 0 ≤ a ∧ a < S 20 4 by omega) (show fstN (npP (upS S 20 0 2) a b) 240 < 0 by rw [← npP_m Sm.u0]; exact k2)) (c_possibleAt_2 hA (VS_m (Sm.u0 (S := S) (x := 2)) hV) (CI_m (Sm.u0 (x := 2)) hC) hO a0 a1 b0 b1 (show 0 ≤ a ∧ a < S 20 4 by omega) (show fstN (npP (upS S 20 0 2) a b) 240 < 0 by rw [← npP_m Sm.u0]; exact k2))
    · skip
      refine br_ok hF (S2 := (upS S 20 0 0)) Sm.u0 ?_ ?_ (x_possibleAt_0 hV a0 a1 b0 b1 (show 0 ≤ a ∧ a < S 20 4 by omega) (show 0 ≤ fstN (npP (upS S 20 0 0) a b) 240 by rw [← npP_m Sm.u0]; omega)) (c_possibleAt_0 hA (VS_m (Sm.u0 (S := S) (x := 0)) hV) (CI_m (Sm.u0 (x := 0)) hC) hO a0 a1 b0 b1 (show 0 ≤ a ∧ a < S 20 4 by omega) (show 0 ≤ fstN (npP (upS S 20 0 0) a b) 240 by rw [← npP_m Sm.u0]; omega))
      · exact ⟨rfl, rfl, rfl, rfl⟩
      · exact GI_m Sm.u0 hG

theorem op_cheapest {x0 m0 out outD : Nat} {hs : Hs} (a1 : Int32) (hi : InvS x0 m0 out outD hs) : opI (f_L_cheapest (some x0) a1 (some out)) (f_X9_cheapest m0 a1) m0 out (InvS x0 m0 out outD) hs := by
  obtain ⟨a, a0, a1, rfl⟩ := i32 a1
  refine op_I hi (fun S A P K z f g hF => ?_)
  have hF2 := hF
  obtain ⟨h0, hA, hV, hC, hG, hO, hD, hFr, ho, hdis, hM, hsep, hB, _⟩ := hF2
  have hm2 := hV.2.1
  unfold Bm at hm2
  show Br x0 m0 out outD _ _ S A P K z
  rw [← h0]
  rw [← h0] at hF
  by_cases k1 : a < 0 ∨ S 20 4 ≤ a
  · exact br_err hF (j := 1) (by decide) (x_cheapest_1 hV a0 a1 k1) (c_cheapest_1 hA (VS_m (Sm.u0 (S := S) (x := 1)) hV) (CI_m (Sm.u0 (x := 1)) hC) hO a0 a1 k1)
  · skip
    by_cases k2 : chP S a (-2) = -1
    · exact br_err hF (j := 2) (by decide) (x_cheapest_2 hV a0 a1 (show 0 ≤ a ∧ a < S 20 4 by omega) (show chP (upS S 20 0 2) a (-2) = -1 by rw [← chP_m Sm.u0]; exact k2)) (c_cheapest_2 hA (VS_m (Sm.u0 (S := S) (x := 2)) hV) (CI_m (Sm.u0 (x := 2)) hC) hO a0 a1 (show 0 ≤ a ∧ a < S 20 4 by omega) (show chP (upS S 20 0 2) a (-2) = -1 by rw [← chP_m Sm.u0]; exact k2))
    · skip
      refine br_ok hF (S2 := (upS S 20 0 0)) Sm.u0 ?_ ?_ (x_cheapest_0 hV a0 a1 (show 0 ≤ a ∧ a < S 20 4 by omega) (show chP (upS S 20 0 0) a (-2) ≠ -1 by rw [← chP_m Sm.u0]; exact k2)) (c_cheapest_0 hA (VS_m (Sm.u0 (S := S) (x := 0)) hV) (CI_m (Sm.u0 (x := 0)) hC) hO a0 a1 (show 0 ≤ a ∧ a < S 20 4 by omega) (show chP (upS S 20 0 0) a (-2) ≠ -1 by rw [← chP_m Sm.u0]; exact k2))
      · exact ⟨rfl, rfl, rfl, rfl⟩
      · exact GI_m Sm.u0 hG

theorem op_costWith {x0 m0 out outD : Nat} {hs : Hs} (a1 a2 a3 : Int32) (hi : InvS x0 m0 out outD hs) : opI (f_L_costWith (some x0) a1 a2 a3 (some out)) (f_X9_costWith m0 a1 a2 a3) m0 out (InvS x0 m0 out outD) hs := by
  obtain ⟨a, a0, a1, rfl⟩ := i32 a1
  obtain ⟨b, b0, b1, rfl⟩ := i32 a2
  obtain ⟨c, c0, c1, rfl⟩ := i32 a3
  refine op_I hi (fun S A P K z f g hF => ?_)
  have hF2 := hF
  obtain ⟨h0, hA, hV, hC, hG, hO, hD, hFr, ho, hdis, hM, hsep, hB, _⟩ := hF2
  have hm2 := hV.2.1
  unfold Bm at hm2
  show Br x0 m0 out outD _ _ S A P K z
  rw [← h0]
  rw [← h0] at hF
  by_cases k1 : a < 0 ∨ S 20 4 ≤ a
  · exact br_err hF (j := 1) (by decide) (x_costWith_1 hV a0 a1 b0 b1 c0 c1 k1) (c_costWith_1 hA (VS_m (Sm.u0 (S := S) (x := 1)) hV) (CI_m (Sm.u0 (x := 1)) hC) hO a0 a1 b0 b1 c0 c1 k1)
  · skip
    by_cases k2 : b < 0 ∨ 29 < b ∨ c < 0 ∨ S 20 1 ≤ c
    · exact br_err hF (j := 2) (by decide) (x_costWith_2 hV a0 a1 b0 b1 c0 c1 (show 0 ≤ a ∧ a < S 20 4 by omega) k2) (c_costWith_2 hA (VS_m (Sm.u0 (S := S) (x := 2)) hV) (CI_m (Sm.u0 (x := 2)) hC) hO a0 a1 b0 b1 c0 c1 (show 0 ≤ a ∧ a < S 20 4 by omega) k2)
    · skip
      by_cases k4 : sLt S a b c ≠ 0
      · exact br_err hF (j := 3) (by decide) (x_costWith_3 hV a0 a1 b0 b1 c0 c1 (show 0 ≤ a ∧ a < S 20 4 by omega) (show 0 ≤ b ∧ b ≤ 29 by omega) (show 0 ≤ c ∧ c < S 20 1 by omega) (by rw [sLt_m (Sm.sy (Sm.u0 (S := S) (x := 3)))]; exact k4)) (c_costWith_3 hA (VS_m (Sm.u0 (S := S) (x := 3)) hV) (CI_m (Sm.u0 (x := 3)) hC) hO a0 a1 b0 b1 c0 c1 (show 0 ≤ a ∧ a < S 20 4 by omega) (show 0 ≤ b ∧ b ≤ 29 by omega) (show 0 ≤ c ∧ c < S 20 1 by omega) (by rw [sLt_m (Sm.sy (Sm.u0 (S := S) (x := 3)))]; exact k4))
      · skip
        refine br_ok hF (S2 := (upS S 20 0 0)) Sm.u0 ?_ ?_ (x_costWith_0 hV a0 a1 b0 b1 c0 c1 (show 0 ≤ a ∧ a < S 20 4 by omega) (show 0 ≤ b ∧ b ≤ 29 by omega) (show 0 ≤ c ∧ c < S 20 1 by omega) (by rw [sLt_m (Sm.sy (Sm.u0 (S := S) (x := 0)))]; exact Classical.not_not.mp k4)) (c_costWith_0 hA (VS_m (Sm.u0 (S := S) (x := 0)) hV) (CI_m (Sm.u0 (x := 0)) hC) hO a0 a1 b0 b1 c0 c1 (show 0 ≤ a ∧ a < S 20 4 by omega) (show 0 ≤ b ∧ b ≤ 29 by omega) (show 0 ≤ c ∧ c < S 20 1 by omega) (by rw [sLt_m (Sm.sy (Sm.u0 (S := S) (x := 0)))]; exact Classical.not_not.mp k4))
        · exact ⟨rfl, rfl, rfl, rfl⟩
        · exact GI_m Sm.u0 hG

theorem op_hardest {x0 m0 out outD : Nat} {hs : Hs} (hi : InvS x0 m0 out outD hs) : opI (f_L_hardest (some x0)  (some out)) (f_X9_hardest m0 ) m0 out (InvS x0 m0 out outD) hs := by
  refine op_I hi (fun S A P K z f g hF => ?_)
  have hF2 := hF
  obtain ⟨h0, hA, hV, hC, hG, hO, hD, hFr, ho, hdis, hM, hsep, hB, _⟩ := hF2
  have hm2 := hV.2.1
  unfold Bm at hm2
  show Br x0 m0 out outD _ _ S A P K z
  rw [← h0]
  rw [← h0] at hF
  by_cases k1 : haQ S (fun k => decide (S 14 k < 0)) < 0
  · exact br_err hF (j := 1) (by decide) (x_hardest_1 hV  (show haQ (upS S 20 0 1) (fun k => decide (upS S 20 0 1 14 k < 0)) < 0 by rw [← haQ_m Sm.u0]; exact k1)) (c_hardest_1 hA (VS_m (Sm.u0 (S := S) (x := 1)) hV) (CI_m (Sm.u0 (x := 1)) hC) hO  (show haQ (upS S 20 0 1) (fun k => decide (upS S 20 0 1 14 k < 0)) < 0 by rw [← haQ_m Sm.u0]; exact k1))
  · skip
    refine br_ok hF (S2 := (upS S 20 0 0)) Sm.u0 ?_ ?_ (x_hardest_0 hV  (show 0 ≤ haQ (upS S 20 0 0) (fun k => decide (upS S 20 0 0 14 k < 0)) by rw [← haQ_m Sm.u0]; exact Int.not_lt.mp k1)) (c_hardest_0 hA (VS_m (Sm.u0 (S := S) (x := 0)) hV) (CI_m (Sm.u0 (x := 0)) hC) hO  (show 0 ≤ haQ (upS S 20 0 0) (fun k => decide (upS S 20 0 0 14 k < 0)) by rw [← haQ_m Sm.u0]; exact Int.not_lt.mp k1))
    · exact ⟨rfl, rfl, rfl, rfl⟩
    · exact GI_m Sm.u0 hG

theorem op_improve {x0 m0 out outD : Nat} {hs : Hs} (a1 : Int32) (hi : InvS x0 m0 out outD hs) : opI (f_L_improve (some x0) a1 (some out)) (f_X9_improve m0 a1) m0 out (InvS x0 m0 out outD) hs := by
  obtain ⟨a, a0, a1, rfl⟩ := i32 a1
  refine op_I hi (fun S A P K z f g hF => ?_)
  have hF2 := hF
  obtain ⟨h0, hA, hV, hC, hG, hO, hD, hFr, ho, hdis, hM, hsep, hB, _⟩ := hF2
  have hm2 := hV.2.1
  unfold Bm at hm2
  show Br x0 m0 out outD _ _ S A P K z
  rw [← h0]
  rw [← h0] at hF
  by_cases k1 : a < 1 ∨ 20 < a
  · exact br_err hF (j := 1) (by decide) (x_improve_1 hV a0 a1 k1) (c_improve_1 hA (VS_m (Sm.u0 (S := S) (x := 1)) hV) (CI_m (Sm.u0 (x := 1)) hC) hO a0 a1 k1)
  · skip
    have k2 : 1 ≤ a ∧ a ≤ 20 := by omega
    have k3 := G3_ip (GI_m (Sm.u0 (x := 0)) hG).1 a
    refine br_ok hF (S2 := (upS S 20 0 0)) Sm.u0 ?_ ?_ (x_improve_0 hV k2) (c_improve_0 hA (VS_m (Sm.u0 (S := S) (x := 0)) hV) (CI_m (Sm.u0 (x := 0)) hC) hO a0 a1 k2)
    · exact ⟨by rw [k3.2.1 20 (by decide)]; rfl, by rw [k3.2.1 20 (by decide)]; rfl, by rw [k3.2.1 20 (by decide)]; rfl, by rw [k3.2.1 20 (by decide)]; rfl⟩
    · exact GI_14 (GI_m Sm.u0 hG) k3

theorem op_amount {x0 m0 out outD : Nat} {hs : Hs} (a1 : Int32) (hi : InvS x0 m0 out outD hs) : opI (f_L_amount (some x0) a1 (some out)) (f_X9_amount m0 a1) m0 out (InvS x0 m0 out outD) hs := by
  obtain ⟨a, a0, a1, rfl⟩ := i32 a1
  refine op_I hi (fun S A P K z f g hF => ?_)
  have hF2 := hF
  obtain ⟨h0, hA, hV, hC, hG, hO, hD, hFr, ho, hdis, hM, hsep, hB, _⟩ := hF2
  have hm2 := hV.2.1
  unfold Bm at hm2
  show Br x0 m0 out outD _ _ S A P K z
  rw [← h0]
  rw [← h0] at hF
  by_cases k1 : a < 0 ∨ 3 < a
  · exact br_err hF (j := 1) (by decide) (x_amount_1 hV a0 a1 k1) (c_amount_1 hA (VS_m (Sm.u0 (S := S) (x := 1)) hV) (CI_m (Sm.u0 (x := 1)) hC) hO a0 a1 k1)
  · skip
    refine br_ok hF (S2 := (upS S 20 0 0)) Sm.u0 ?_ ?_ (x_amount_0 hV a0 a1 (show 0 ≤ a ∧ a ≤ 3 by omega)) (c_amount_0 hA (VS_m (Sm.u0 (S := S) (x := 0)) hV) (CI_m (Sm.u0 (x := 0)) hC) hO a0 a1 (show 0 ≤ a ∧ a ≤ 3 by omega))
    · exact ⟨rfl, rfl, rfl, rfl⟩
    · exact GI_m Sm.u0 hG

theorem op_lacking {x0 m0 out outD : Nat} {hs : Hs} (a1 : Int32) (hi : InvS x0 m0 out outD hs) : opI (f_L_lacking (some x0) a1 (some out)) (f_X9_lacking m0 a1) m0 out (InvS x0 m0 out outD) hs := by
  obtain ⟨a, a0, a1, rfl⟩ := i32 a1
  refine op_I hi (fun S A P K z f g hF => ?_)
  have hF2 := hF
  obtain ⟨h0, hA, hV, hC, hG, hO, hD, hFr, ho, hdis, hM, hsep, hB, _⟩ := hF2
  have hm2 := hV.2.1
  unfold Bm at hm2
  show Br x0 m0 out outD _ _ S A P K z
  rw [← h0]
  rw [← h0] at hF
  by_cases k1 : a < 0 ∨ 3 < a
  · exact br_err hF (j := 1) (by decide) (x_lacking_1 hV a0 a1 k1) (c_lacking_1 hA (VS_m (Sm.u0 (S := S) (x := 1)) hV) (CI_m (Sm.u0 (x := 1)) hC) hO a0 a1 k1)
  · skip
    have k2 : 0 ≤ a ∧ a ≤ 3 := by omega
    have k3 := ly_mx (GI_m (Sm.u0 (x := 0)) hG) (c := a) (by omega) (by omega)
    have k4 := c_lacking_0 (P := P) (z := z) hA (VS_m (Sm.u0 (S := S) (x := 0)) hV) (CI_m (Sm.u0 (x := 0)) hC) hO a0 a1 k2
    rw [k3] at k4
    refine br_ok hF (S2 := (upS S 20 0 0)) Sm.u0 ?_ ?_ (x_lacking_0 hV a0 a1 k2) k4
    · exact ⟨rfl, rfl, rfl, rfl⟩
    · exact GI_m Sm.u0 hG

theorem op_lackingBySeats {x0 m0 out outD : Nat} {hs : Hs} (a1 : Int32) (hi : InvS x0 m0 out outD hs) : opI (f_L_lackingBySeats (some x0) a1 (some out)) (f_X9_lackingBySeats m0 a1) m0 out (InvS x0 m0 out outD) hs := by
  obtain ⟨a, a0, a1, rfl⟩ := i32 a1
  refine op_I hi (fun S A P K z f g hF => ?_)
  have hF2 := hF
  obtain ⟨h0, hA, hV, hC, hG, hO, hD, hFr, ho, hdis, hM, hsep, hB, _⟩ := hF2
  have hm2 := hV.2.1
  unfold Bm at hm2
  show Br x0 m0 out outD _ _ S A P K z
  rw [← h0]
  rw [← h0] at hF
  by_cases k1 : a < 0 ∨ 3 < a
  · exact br_err hF (j := 1) (by decide) (x_lackingBySeats_1 hV a0 a1 k1) (c_lackingBySeats_1 hA (VS_m (Sm.u0 (S := S) (x := 1)) hV) (CI_m (Sm.u0 (x := 1)) hC) hO a0 a1 k1)
  · skip
    have k2 : 0 ≤ a ∧ a ≤ 3 := by omega
    have k3 := lb_mx (GI_m (Sm.u0 (x := 0)) hG) (c := a) (by omega) (by omega)
    have k4 := c_lackingBySeats_0 (P := P) (z := z) hA (VS_m (Sm.u0 (S := S) (x := 0)) hV) (CI_m (Sm.u0 (x := 0)) hC) hO a0 a1 k2
    rw [k3] at k4
    refine br_ok hF (S2 := (upS S 20 0 0)) Sm.u0 ?_ ?_ (x_lackingBySeats_0 hV a0 a1 k2) k4
    · exact ⟨rfl, rfl, rfl, rfl⟩
    · exact GI_m Sm.u0 hG

theorem op_ill {x0 m0 out outD : Nat} {hs : Hs} (a1 a2 : Int32) (hi : InvS x0 m0 out outD hs) : opI (f_L_ill (some x0) a1 a2 (some out)) (f_X9_ill m0 a1 a2) m0 out (InvS x0 m0 out outD) hs := by
  obtain ⟨a, a0, a1, rfl⟩ := i32 a1
  obtain ⟨b, b0, b1, rfl⟩ := i32 a2
  refine op_I hi (fun S A P K z f g hF => ?_)
  have hF2 := hF
  obtain ⟨h0, hA, hV, hC, hG, hO, hD, hFr, ho, hdis, hM, hsep, hB, _⟩ := hF2
  have hm2 := hV.2.1
  unfold Bm at hm2
  show Br x0 m0 out outD _ _ S A P K z
  rw [← h0]
  rw [← h0] at hF
  by_cases k1 : a < 0 ∨ S 20 2 ≤ a
  · exact br_err hF (j := 1) (by decide) (x_ill_1 hV a0 a1 b0 b1 k1) (c_ill_1 hA (VS_m (Sm.u0 (S := S) (x := 1)) hV) (CI_m (Sm.u0 (x := 1)) hC) hO a0 a1 b0 b1 k1)
  · skip
    by_cases k2 : b < S 20 6 ∨ 4 < b
    · exact br_err hF (j := 2) (by decide) (x_ill_2 hV a0 a1 b0 b1 (show 0 ≤ a ∧ a < S 20 2 by omega) k2) (c_ill_2 hA (VS_m (Sm.u0 (S := S) (x := 2)) hV) (CI_m (Sm.u0 (x := 2)) hC) hO a0 a1 b0 b1 (show 0 ≤ a ∧ a < S 20 2 by omega) k2)
    · skip
      by_cases k3 : offB (S 3 a) b = 1
      · exact br_err hF (j := 3) (by decide) (x_ill_3 hV a0 a1 b0 b1 (show 0 ≤ a ∧ a < S 20 2 by omega) (show S 20 6 ≤ b ∧ b ≤ 4 by omega) k3) (c_ill_3 hA (VS_m (Sm.u0 (S := S) (x := 3)) hV) (CI_m (Sm.u0 (x := 3)) hC) hO a0 a1 b0 b1 (show 0 ≤ a ∧ a < S 20 2 by omega) (show S 20 6 ≤ b ∧ b ≤ 4 by omega) k3)
      · skip
        by_cases k4 : 0 ≤ fstN (ilX S a b) (S 20 4).toNat
        · exact br_err hF (j := 4) (by decide) (x_ill_4 hV a0 a1 b0 b1 (show 0 ≤ a ∧ a < S 20 2 by omega) (show S 20 6 ≤ b ∧ b ≤ 4 by omega) k3 k4) (c_ill_4 hA (VS_m (Sm.u0 (S := S) (x := 4)) hV) (CI_m (Sm.u0 (x := 4)) hC) hO a0 a1 b0 b1 (show 0 ≤ a ∧ a < S 20 2 by omega) (show S 20 6 ≤ b ∧ b ≤ 4 by omega) k3 k4)
        · skip
          have k5 : fstN (ilX S a b) (S 20 4).toNat < 0 := Int.not_le.mp k4
          have k6 : S 20 6 ≤ b ∧ b ≤ 4 := by omega
          have k7 : 0 ≤ a ∧ a < S 20 2 := by omega
          have k8 := GI_ill (GI_m (Sm.u0 (x := 0)) hG) (a := a) (b := b) k7 k6 k3 k5
          refine br_ok hF (S2 := (upS S 20 0 0)) Sm.u0 ?_ ?_ (x_ill_0 hV a0 a1 b0 b1 k7 k6 k3 k5) (c_ill_0 hA (VS_m (Sm.u0 (S := S) (x := 0)) hV) (CI_m (Sm.u0 (x := 0)) hC) hO a0 a1 b0 b1 k7 k6 k3 k5)
          · exact ⟨by rw [rpS_20]; rfl, by rw [rpS_20]; rfl, by rw [rpS_20]; rfl, by rw [rpS_20]; rfl⟩
          · exact k8

theorem op_close {x0 m0 out outD : Nat} {hs : Hs} (a1 : Int32) (hi : InvS x0 m0 out outD hs) : opI (f_L_close (some x0) a1 (some out)) (f_X9_close m0 a1) m0 out (InvS x0 m0 out outD) hs := by
  obtain ⟨a, a0, a1, rfl⟩ := i32 a1
  refine op_I hi (fun S A P K z f g hF => ?_)
  have hF2 := hF
  obtain ⟨h0, hA, hV, hC, hG, hO, hD, hFr, ho, hdis, hM, hsep, hB, _⟩ := hF2
  have hm2 := hV.2.1
  unfold Bm at hm2
  show Br x0 m0 out outD _ _ S A P K z
  rw [← h0]
  rw [← h0] at hF
  by_cases k1 : a < 0 ∨ S 20 1 ≤ a
  · exact br_err hF (j := 1) (by decide) (x_close_1 hV a0 a1 k1) (c_close_1 hA (VS_m (Sm.u0 (S := S) (x := 1)) hV) (CI_m (Sm.u0 (x := 1)) hC) hO a0 a1 k1)
  · skip
    by_cases k2 : S 7 a ≠ 0
    · exact br_err hF (j := 2) (by decide) (x_close_2 hV a0 a1 (show 0 ≤ a ∧ a < S 20 1 by omega) k2) (c_close_2 hA (VS_m (Sm.u0 (S := S) (x := 2)) hV) (CI_m (Sm.u0 (x := 2)) hC) hO a0 a1 (show 0 ≤ a ∧ a < S 20 1 by omega) k2)
    · skip
      by_cases k4 : 0 ≤ fstN (clX S a) (S 20 4).toNat
      · exact br_err hF (j := 3) (by decide) (x_close_3 hV a0 a1 (show 0 ≤ a ∧ a < S 20 1 by omega) (Classical.not_not.mp k2) k4) (c_close_3 hA (VS_m (Sm.u0 (S := S) (x := 3)) hV) (CI_m (Sm.u0 (x := 3)) hC) hO a0 a1 (show 0 ≤ a ∧ a < S 20 1 by omega) (Classical.not_not.mp k2) k4)
      · skip
        have k5 : fstN (clX S a) (S 20 4).toNat < 0 := Int.not_le.mp k4
        have k7 : 0 ≤ a ∧ a < S 20 1 := by omega
        have k8 := GI_close (GI_m (Sm.u0 (x := 0)) hG) (a := a) k7 k5
        refine br_ok hF (S2 := (upS S 20 0 0)) Sm.u0 ?_ ?_ (x_close_0 hV a0 a1 k7 (Classical.not_not.mp k2) k5) (c_close_0 hA (VS_m (Sm.u0 (S := S) (x := 0)) hV) (CI_m (Sm.u0 (x := 0)) hC) hO a0 a1 k7 (Classical.not_not.mp k2) k5)
        · exact ⟨by rw [rpS_20]; rfl, by rw [rpS_20]; rfl, by rw [rpS_20]; rfl, by rw [rpS_20]; rfl⟩
        · exact k8

theorem op_open {x0 m0 out outD : Nat} {hs : Hs} (a1 : Int32) (hi : InvS x0 m0 out outD hs) : opI (f_L_open (some x0) a1 (some out)) (f_X9_open m0 a1) m0 out (InvS x0 m0 out outD) hs := by
  obtain ⟨a, a0, a1, rfl⟩ := i32 a1
  refine op_I hi (fun S A P K z f g hF => ?_)
  have hF2 := hF
  obtain ⟨h0, hA, hV, hC, hG, hO, hD, hFr, ho, hdis, hM, hsep, hB, _⟩ := hF2
  have hm2 := hV.2.1
  unfold Bm at hm2
  show Br x0 m0 out outD _ _ S A P K z
  rw [← h0]
  rw [← h0] at hF
  by_cases k1 : a < 0 ∨ S 20 1 ≤ a
  · exact br_err hF (j := 1) (by decide) (x_open_1 hV a0 a1 k1) (c_open_1 hA (VS_m (Sm.u0 (S := S) (x := 1)) hV) (CI_m (Sm.u0 (x := 1)) hC) hO a0 a1 k1)
  · skip
    by_cases k2 : S 7 a = 0
    · exact br_err hF (j := 2) (by decide) (x_open_2 hV a0 a1 (show 0 ≤ a ∧ a < S 20 1 by omega) k2) (c_open_2 hA (VS_m (Sm.u0 (S := S) (x := 2)) hV) (CI_m (Sm.u0 (x := 2)) hC) hO a0 a1 (show 0 ≤ a ∧ a < S 20 1 by omega) k2)
    · skip
      refine br_ok hF (S2 := (upS S 20 0 0)) Sm.u0 ?_ ?_ (x_open_0 hV a0 a1 (show 0 ≤ a ∧ a < S 20 1 by omega) k2) (c_open_0 hA (VS_m (Sm.u0 (S := S) (x := 0)) hV) (CI_m (Sm.u0 (x := 0)) hC) hO a0 a1 (show 0 ≤ a ∧ a < S 20 1 by omega) k2)
      · exact ⟨rfl, rfl, rfl, rfl⟩
      · exact GI_open (GI_m Sm.u0 hG) (show 0 ≤ a ∧ a < S 20 1 by omega)

theorem op_passDay {x0 m0 out outD : Nat} {hs : Hs} (hi : InvS x0 m0 out outD hs) : opI (f_L_passDay (some x0)  (some out)) (f_X9_passDay m0 ) m0 out (InvS x0 m0 out outD) hs := by
  refine op_I hi (fun S A P K z f g hF => ?_)
  have hF2 := hF
  obtain ⟨h0, hA, hV, hC, hG, hO, hD, hFr, ho, hdis, hM, hsep, hB, _⟩ := hF2
  have hm2 := hV.2.1
  unfold Bm at hm2
  show Br x0 m0 out outD _ _ S A P K z
  rw [← h0]
  rw [← h0] at hF
  by_cases k1 : 4 ≤ S 20 6
  · exact br_err hF (j := 1) (by decide) (x_passDay_1 hV  k1) (c_passDay_1 hA (VS_m (Sm.u0 (S := S) (x := 1)) hV) (CI_m (Sm.u0 (x := 1)) hC) hO  k1)
  · skip
    refine br_ok hF (S2 := (upS S 20 0 0)) Sm.u0 ?_ ?_ (x_passDay_0 hV  (show S 20 6 < 4 by omega)) (c_passDay_0 hA (VS_m (Sm.u0 (S := S) (x := 0)) hV) (CI_m (Sm.u0 (x := 0)) hC) hO  (show S 20 6 < 4 by omega))
    · exact ⟨rfl, rfl, rfl, rfl⟩
    · exact GI_today (GI_m Sm.u0 hG) (show S 20 6 < 4 by omega)

theorem op_nextWeek {x0 m0 out outD : Nat} {hs : Hs} (hi : InvS x0 m0 out outD hs) : opI (f_L_nextWeek (some x0)  (some out)) (f_X9_nextWeek m0 ) m0 out (InvS x0 m0 out outD) hs := by
  refine op_I hi (fun S A P K z f g hF => ?_)
  have hF2 := hF
  obtain ⟨h0, hA, hV, hC, hG, hO, hD, hFr, ho, hdis, hM, hsep, hB, _⟩ := hF2
  have hm2 := hV.2.1
  unfold Bm at hm2
  show Br x0 m0 out outD _ _ S A P K z
  rw [← h0]
  rw [← h0] at hF
  by_cases k1 : S 20 6 ≠ 4
  · exact br_err hF (j := 1) (by decide) (x_nextWeek_1 hV  k1) (c_nextWeek_1 hA (VS_m (Sm.u0 (S := S) (x := 1)) hV) (CI_m (Sm.u0 (x := 1)) hC) hO  k1)
  · skip
    have k2 : S 20 6 = 4 := Classical.not_not.mp k1
    have k3 := GI_week (GI_m (Sm.u0 (x := 0)) hG)
    have k4 := wk_lk (GI_m (Sm.u0 (x := 0)) hG).1
    have k5 : ∀ i : Int, 1 ≤ i → i < 5 → nwS (upS S 20 0 0) 20 i = S 20 i := fun i i0 i1 => by
      unfold nwS
      rw [upS_i (by omega), rpS_20, wk_20 (by omega), upS_i (by omega)]
    refine br_ok hF (S2 := (upS S 20 0 0)) Sm.u0 ?_ ?_ (x_nextWeek_0 hV  k2 k4) (c_nextWeek_0 hA (VS_m (Sm.u0 (S := S) (x := 0)) hV) (CI_m (Sm.u0 (x := 0)) hC) hO  k2)
    · exact ⟨k5 1 (by decide) (by decide), k5 2 (by decide) (by decide), k5 3 (by decide) (by decide), k5 4 (by decide) (by decide)⟩
    · exact k3

theorem op_account {x0 m0 out outD : Nat} {hs : Hs} (a1 : Int32) (hi : InvS x0 m0 out outD hs) : opI (f_L_account (some x0) a1 (some out)) (f_X9_account m0 a1) m0 out (InvS x0 m0 out outD) hs := by
  obtain ⟨a, a0, a1, rfl⟩ := i32 a1
  refine op_I hi (fun S A P K z f g hF => ?_)
  have hF2 := hF
  obtain ⟨h0, hA, hV, hC, hG, hO, hD, hFr, ho, hdis, hM, hsep, hB, _⟩ := hF2
  have hm2 := hV.2.1
  unfold Bm at hm2
  show Br x0 m0 out outD _ _ S A P K z
  rw [← h0]
  rw [← h0] at hF
  by_cases k1 : a < 0 ∨ S 20 2 ≤ a
  · exact br_err hF (j := 1) (by decide) (x_account_1 hV a0 a1 k1) (c_account_1 hA (VS_m (Sm.u0 (S := S) (x := 1)) hV) (CI_m (Sm.u0 (x := 1)) hC) hO a0 a1 k1)
  · skip
    refine br_ok hF (S2 := (upS S 20 0 0)) Sm.u0 ?_ ?_ (x_account_0 hV a0 a1 (show 0 ≤ a ∧ a < S 20 2 by omega)) (c_account_0 hA (VS_m (Sm.u0 (S := S) (x := 0)) hV) (CI_m (Sm.u0 (x := 0)) hC) hO a0 a1 (show 0 ≤ a ∧ a < S 20 2 by omega))
    · exact ⟨rfl, rfl, rfl, rfl⟩
    · exact GI_m Sm.u0 hG

theorem op_save {x0 m0 out outD : Nat} {hs : Hs} (hi : InvS x0 m0 out outD hs) : opI (f_L_save (some x0)  (some out)) (f_X9_save m0 ) m0 out (InvS x0 m0 out outD) hs := by
  refine op_I hi (fun S A P K z f g hF => ?_)
  have hF2 := hF
  obtain ⟨h0, hA, hV, hC, hG, hO, hD, hFr, ho, hdis, hM, hsep, hB, _⟩ := hF2
  have hm2 := hV.2.1
  unfold Bm at hm2
  show Br x0 m0 out outD _ _ S A P K z
  rw [← h0]
  rw [← h0] at hF
  by_cases k1 : 6 ≤ S 20 5
  · exact br_err hF (j := 1) (by decide) (x_save_1 hV  k1) (c_save_1 hA (VS_m (Sm.u0 (S := S) (x := 1)) hV) (CI_m (Sm.u0 (x := 1)) hC) hO  k1)
  · skip
    have k2 : S 20 5 < 6 := by omega
    have k5 : ∀ i : Int, i ≠ 0 → i ≠ 5 → svS (upS S 20 0 0) 20 i = S 20 i := fun i i0 i1 => by
      unfold svS
      rw [upS_i i1, kpS_g (by decide), upS_i i0]
    refine br_ok hF (S2 := (upS S 20 0 0)) Sm.u0 ?_ ?_ (x_save_0 hV  k2) (c_save_0 hA (VS_m (Sm.u0 (S := S) (x := 0)) hV) (CI_m (Sm.u0 (x := 0)) hC) hO  k2)
    · exact ⟨k5 1 (by decide) (by decide), k5 2 (by decide) (by decide), k5 3 (by decide) (by decide), k5 4 (by decide) (by decide)⟩
    · exact GI_save (GI_m Sm.u0 hG) k2

theorem op_placeIn {x0 m0 out outD : Nat} {hs : Hs} (a1 a2 : Int32) (hi : InvS x0 m0 out outD hs) : opI (f_L_placeIn (some x0) a1 a2 (some out)) (f_X9_placeIn m0 a1 a2) m0 out (InvS x0 m0 out outD) hs := by
  obtain ⟨a, a0, a1, rfl⟩ := i32 a1
  obtain ⟨b, b0, b1, rfl⟩ := i32 a2
  refine op_I hi (fun S A P K z f g hF => ?_)
  have hF2 := hF
  obtain ⟨h0, hA, hV, hC, hG, hO, hD, hFr, ho, hdis, hM, hsep, hB, _⟩ := hF2
  have hm2 := hV.2.1
  unfold Bm at hm2
  show Br x0 m0 out outD _ _ S A P K z
  rw [← h0]
  rw [← h0] at hF
  by_cases k1 : a < 0 ∨ S 20 5 ≤ a
  · exact br_err hF (j := 1) (by decide) (x_placeIn_1 hV a0 a1 b0 b1 k1) (c_placeIn_1 hA (VS_m (Sm.u0 (S := S) (x := 1)) hV) (CI_m (Sm.u0 (x := 1)) hC) hO a0 a1 b0 b1 k1)
  · skip
    by_cases k2 : b < 0 ∨ S 20 4 ≤ b
    · exact br_err hF (j := 2) (by decide) (x_placeIn_2 hV a0 a1 b0 b1 (show 0 ≤ a ∧ a < S 20 5 by omega) k2) (c_placeIn_2 hA (VS_m (Sm.u0 (S := S) (x := 2)) hV) (CI_m (Sm.u0 (x := 2)) hC) hO a0 a1 b0 b1 (show 0 ≤ a ∧ a < S 20 5 by omega) k2)
    · skip
      by_cases k3 : S 16 (16 * a + b) < 0
      · exact br_err hF (j := 1) (by decide) (x_placeIn_1b hV a0 a1 b0 b1 (show 0 ≤ a ∧ a < S 20 5 by omega) (show 0 ≤ b ∧ b < S 20 4 by omega) k3) (c_placeIn_1b hA (VS_m (Sm.u0 (S := S) (x := 1)) hV) (CI_m (Sm.u0 (x := 1)) hC) hO a0 a1 b0 b1 (show 0 ≤ a ∧ a < S 20 5 by omega) (show 0 ≤ b ∧ b < S 20 4 by omega) k3)
      · skip
        refine br_ok hF (S2 := (upS S 20 0 0)) Sm.u0 ?_ ?_ (x_placeIn_0 hV a0 a1 b0 b1 (show 0 ≤ a ∧ a < S 20 5 by omega) (show 0 ≤ b ∧ b < S 20 4 by omega) (show 0 ≤ S 16 (16 * a + b) by omega)) (c_placeIn_0 hA (VS_m (Sm.u0 (S := S) (x := 0)) hV) (CI_m (Sm.u0 (x := 0)) hC) hO a0 a1 b0 b1 (show 0 ≤ a ∧ a < S 20 5 by omega) (show 0 ≤ b ∧ b < S 20 4 by omega) (show 0 ≤ S 16 (16 * a + b) by omega))
        · exact ⟨rfl, rfl, rfl, rfl⟩
        · exact GI_m Sm.u0 hG

theorem op_differences {x0 m0 out outD : Nat} {hs : Hs} (a1 a2 : Int32) (hi : InvS x0 m0 out outD hs) : opI (f_L_differences (some x0) a1 a2 (some out)) (f_X9_differences m0 a1 a2) m0 out (InvS x0 m0 out outD) hs := by
  obtain ⟨a, a0, a1, rfl⟩ := i32 a1
  obtain ⟨b, b0, b1, rfl⟩ := i32 a2
  refine op_I hi (fun S A P K z f g hF => ?_)
  have hF2 := hF
  obtain ⟨h0, hA, hV, hC, hG, hO, hD, hFr, ho, hdis, hM, hsep, hB, _⟩ := hF2
  have hm2 := hV.2.1
  unfold Bm at hm2
  show Br x0 m0 out outD _ _ S A P K z
  rw [← h0]
  rw [← h0] at hF
  by_cases k1 : a < 0 ∨ S 20 5 ≤ a ∨ b < 0 ∨ S 20 5 ≤ b
  · exact br_err hF (j := 1) (by decide) (x_differences_1 hV a0 a1 b0 b1 k1) (c_differences_1 hA (VS_m (Sm.u0 (S := S) (x := 1)) hV) (CI_m (Sm.u0 (x := 1)) hC) hO a0 a1 b0 b1 k1)
  · skip
    refine br_ok hF (S2 := (upS S 20 0 0)) Sm.u0 ?_ ?_ (x_differences_0 hV a0 a1 b0 b1 (show 0 ≤ a ∧ a < S 20 5 by omega) (show 0 ≤ b ∧ b < S 20 5 by omega)) (c_differences_0 hA (VS_m (Sm.u0 (S := S) (x := 0)) hV) (CI_m (Sm.u0 (x := 0)) hC) hO a0 a1 b0 b1 (show 0 ≤ a ∧ a < S 20 5 by omega) (show 0 ≤ b ∧ b < S 20 5 by omega))
    · exact ⟨rfl, rfl, rfl, rfl⟩
    · exact GI_m Sm.u0 hG

theorem op_restore {x0 m0 out outD : Nat} {hs : Hs} (a1 : Int32) (hi : InvS x0 m0 out outD hs) : opI (f_L_restore (some x0) a1 (some out)) (f_X9_restore m0 a1) m0 out (InvS x0 m0 out outD) hs := by
  obtain ⟨a, a0, a1, rfl⟩ := i32 a1
  refine op_I hi (fun S A P K z f g hF => ?_)
  have hF2 := hF
  obtain ⟨h0, hA, hV, hC, hG, hO, hD, hFr, ho, hdis, hM, hsep, hB, _⟩ := hF2
  have hm2 := hV.2.1
  unfold Bm at hm2
  show Br x0 m0 out outD _ _ S A P K z
  rw [← h0]
  rw [← h0] at hF
  by_cases k1 : a < 0 ∨ S 20 5 ≤ a
  · exact br_err hF (j := 1) (by decide) (x_restore_1 hV a0 a1 k1) (c_restore_1 hA (VS_m (Sm.u0 (S := S) (x := 1)) hV) (CI_m (Sm.u0 (x := 1)) hC) hO a0 a1 k1)
  · skip
    have k2 : 0 ≤ a ∧ a < S 20 5 := by omega
    have hT : Sm S (tgS (upS S 20 0 0) (fun k => S 16 (16 * a + k)) 16) := Sm.u0.tr (tgS_m _ _ _)
    have hG2 := GI_m hT hG
    have k8 := c_restore_0 (P := P) (z := z) hA (VS_m hT hV) (CI_m hT hC) hO a0 a1 k2
    have k5 : ∀ i : Int, i ≠ 0 → rsS (tgS (upS S 20 0 0) (fun k => S 16 (16 * a + k)) 16) a 20 i = S 20 i := fun i i0 => by
      unfold rsS
      rw [sfS_g _ _ _ (by decide), rmS_g (by decide), tgS_g (by decide), upS_i i0]
    refine br_ok hF hT ?_ ?_ (x_restore_0 hV a0 a1 k2) k8
    · exact ⟨k5 1 (by decide), k5 2 (by decide), k5 3 (by decide), k5 4 (by decide)⟩
    · exact GI_rs hG2 a

theorem op_merge {x0 m0 out outD : Nat} {hs : Hs} (a1 a2 : Int32) (hi : InvS x0 m0 out outD hs) : opI (f_L_merge (some x0) a1 a2 (some out)) (f_X9_merge m0 a1 a2) m0 out (InvS x0 m0 out outD) hs := by
  obtain ⟨a, a0, a1, rfl⟩ := i32 a1
  obtain ⟨b, b0, b1, rfl⟩ := i32 a2
  refine op_I hi (fun S A P K z f g hF => ?_)
  have hF2 := hF
  obtain ⟨h0, hA, hV, hC, hG, hO, hD, hFr, ho, hdis, hM, hsep, hB, _⟩ := hF2
  have hm2 := hV.2.1
  unfold Bm at hm2
  show Br x0 m0 out outD _ _ S A P K z
  rw [← h0]
  rw [← h0] at hF
  by_cases k1 : a < 0 ∨ S 20 5 ≤ a ∨ b < 0 ∨ S 20 5 ≤ b
  · exact br_err hF (j := 1) (by decide) (x_merge_1 hV a0 a1 b0 b1 k1) (c_merge_1 hA (VS_m (Sm.u0 (S := S) (x := 1)) hV) (CI_m (Sm.u0 (x := 1)) hC) hO a0 a1 b0 b1 k1)
  · skip
    have k2 : 0 ≤ a ∧ a < S 20 5 := by omega
    have k3 : 0 ≤ b ∧ b < S 20 5 := by omega
    have hT : Sm S (tgS (upS S 20 0 0) (fun k => mgT S a b k) (S 20 4)) := Sm.u0.tr (tgS_m _ _ _)
    have hG2 := GI_m hT hG
    have k8 := c_merge_0 (P := P) (z := z) hA (VS_m hT hV) (CI_m hT hC) hO a0 a1 b0 b1 k2 k3
    have k5 : ∀ i : Int, i ≠ 0 → mgS (tgS (upS S 20 0 0) (fun k => mgT S a b k) (S 20 4)) a b 20 i = S 20 i := fun i i0 => by
      unfold mgS
      rw [sfS_g _ _ _ (by decide), rmS_g (by decide), tgS_g (by decide), upS_i i0]
    refine br_ok hF hT ?_ ?_ (x_merge_0 hV a0 a1 b0 b1 k2 k3) k8
    · exact ⟨k5 1 (by decide), k5 2 (by decide), k5 3 (by decide), k5 4 (by decide)⟩
    · exact GI_mg hG2 a b

theorem op_fill {x0 m0 out outD : Nat} {hs : Hs} (hi : InvS x0 m0 out outD hs) : opD (f_X8_fill x0) (f_X9_fill m0) x0 m0 (InvS x0 m0 out outD) hs := by
  refine op_D hi (fun S A P K z f g hF => ?_)
  have hF2 := hF
  obtain ⟨h0, hA, hV, hC, hG, hO, hD, hFr, ho, hdis, hM, hsep, hB, _⟩ := hF2
  have hm2 := hV.2.1
  unfold Bm at hm2
  rw [← h0, Hc_m (Sm.u0 (S := S) (x := 0))]
  obtain ⟨K2, e1, e2⟩ := c_fill (P := P) (z := z) hA (VS_m (Sm.u0 (S := S) (x := 0)) hV) (CI_m (Sm.u0 (x := 0)) hC)
  have k3 := G3_fi 1000 (upS S 20 0 0) 0 (fun _ => false) (GI_m (Sm.u0 (x := 0)) hG).1
  refine ⟨_, _, K2, e1, e2, ⟨by rw [k3.2.1 20 (by decide)]; rfl, by rw [k3.2.1 20 (by decide)]; rfl, by rw [k3.2.1 20 (by decide)]; rfl, by rw [k3.2.1 20 (by decide)]; rfl⟩, GI_14 (GI_m Sm.u0 hG) k3, x_fill_0 hV⟩
theorem op_cost {x0 m0 out outD : Nat} {hs : Hs} (hi : InvS x0 m0 out outD hs) : opD (f_X8_cost x0) (f_X9_cost m0) x0 m0 (InvS x0 m0 out outD) hs := by
  refine op_D hi (fun S A P K z f g hF => ?_)
  have hF2 := hF
  obtain ⟨h0, hA, hV, hC, hG, hO, hD, hFr, ho, hdis, hM, hsep, hB, _⟩ := hF2
  have hm2 := hV.2.1
  unfold Bm at hm2
  rw [← h0, Hc_m (Sm.u0 (S := S) (x := 0))]
  obtain ⟨K2, e1, e2⟩ := c_cost (P := P) (z := z) hA (VS_m (Sm.u0 (S := S) (x := 0)) hV) (CI_m (Sm.u0 (x := 0)) hC)
  exact ⟨_, _, K2, e1, e2, ⟨rfl, rfl, rfl, rfl⟩, GI_m Sm.u0 hG, x_cost_0 hV⟩
theorem op_costAnew {x0 m0 out outD : Nat} {hs : Hs} (hi : InvS x0 m0 out outD hs) : opD (f_X8_costAnew x0) (f_X9_costAnew m0) x0 m0 (InvS x0 m0 out outD) hs := by
  refine op_D hi (fun S A P K z f g hF => ?_)
  have hF2 := hF
  obtain ⟨h0, hA, hV, hC, hG, hO, hD, hFr, ho, hdis, hM, hsep, hB, _⟩ := hF2
  have hm2 := hV.2.1
  unfold Bm at hm2
  rw [← h0, Hc_m (Sm.u0 (S := S) (x := 0))]
  obtain ⟨K2, e1, e2⟩ := c_costAnew (P := P) (z := z) hA (VS_m (Sm.u0 (S := S) (x := 0)) hV) (CI_m (Sm.u0 (x := 0)) hC)
  exact ⟨_, _, K2, e1, e2, ⟨rfl, rfl, rfl, rfl⟩, GI_m Sm.u0 hG, x_costAnew_0 hV⟩
theorem op_breaks {x0 m0 out outD : Nat} {hs : Hs} (hi : InvS x0 m0 out outD hs) : opD (f_X8_breaks x0) (f_X9_breaks m0) x0 m0 (InvS x0 m0 out outD) hs := by
  refine op_D hi (fun S A P K z f g hF => ?_)
  have hF2 := hF
  obtain ⟨h0, hA, hV, hC, hG, hO, hD, hFr, ho, hdis, hM, hsep, hB, _⟩ := hF2
  have hm2 := hV.2.1
  unfold Bm at hm2
  rw [← h0, Hc_m (Sm.u0 (S := S) (x := 0))]
  obtain ⟨K2, e1, e2⟩ := c_breaks (P := P) (z := z) hA (VS_m (Sm.u0 (S := S) (x := 0)) hV) (CI_m (Sm.u0 (x := 0)) hC)
  exact ⟨_, _, K2, e1, e2, ⟨rfl, rfl, rfl, rfl⟩, GI_m Sm.u0 hG, x_breaks_0 hV⟩
theorem op_today {x0 m0 out outD : Nat} {hs : Hs} (hi : InvS x0 m0 out outD hs) : opD (f_X8_today x0) (f_X9_today m0) x0 m0 (InvS x0 m0 out outD) hs := by
  refine op_D hi (fun S A P K z f g hF => ?_)
  have hF2 := hF
  obtain ⟨h0, hA, hV, hC, hG, hO, hD, hFr, ho, hdis, hM, hsep, hB, _⟩ := hF2
  have hm2 := hV.2.1
  unfold Bm at hm2
  rw [← h0, Hc_m (Sm.u0 (S := S) (x := 0))]
  obtain ⟨K2, e1, e2⟩ := c_today (P := P) (z := z) hA (VS_m (Sm.u0 (S := S) (x := 0)) hV) (CI_m (Sm.u0 (x := 0)) hC)
  exact ⟨_, _, K2, e1, e2, ⟨rfl, rfl, rfl, rfl⟩, GI_m Sm.u0 hG, x_today_0 hV⟩
theorem op_isSound {x0 m0 out outD : Nat} {hs : Hs} (hi : InvS x0 m0 out outD hs) : opD (f_X8_isSound x0) (f_X9_isSound m0) x0 m0 (InvS x0 m0 out outD) hs := by
  refine op_D hi (fun S A P K z f g hF => ?_)
  have hF2 := hF
  obtain ⟨h0, hA, hV, hC, hG, hO, hD, hFr, ho, hdis, hM, hsep, hB, _⟩ := hF2
  have hm2 := hV.2.1
  unfold Bm at hm2
  rw [← h0, Hc_m (Sm.u0 (S := S) (x := 0))]
  have hG0 := GI_m (Sm.u0 (S := S) (x := 0)) hG
  obtain ⟨K2, e1, e2⟩ := c_isSound (P := P) (z := z) hA (VS_m (Sm.u0 (S := S) (x := 0)) hV) (CI_m (Sm.u0 (x := 0)) hC) (GI_br hG0) (fun c c0 k1 => by rw [ly_mx hG0 c0 k1, lb_mx hG0 c0 k1])
  exact ⟨1, _, K2, e1, e2, ⟨rfl, rfl, rfl, rfl⟩, hG0, x_isSound_0⟩
