/-! PURE LAYER: the law's operations: the makers, booleans, floats; the step -/
theorem born_cs {x0 m0 out outD : Nat} {S S2 S1 : SS} {A : AA} {P : Hp} {K : KK} {z z2 : Nat × Nat} {f : Nat → Int64} {g : Nat → UInt64} {v : Int} {h2 : Hp} (hF : Found x0 m0 out outD S A P K z f g) (hb : Born A P S2 S1 out f v z h2 z2) : z2.2 = z.2 ∧ CS x0 m0 out outD S1 h2 z.2 ∧ MR S m0 (h2, z) ∧ h2 out = some (aL 1 (vp_updL f 0 (iI v).toInt64)) ∧ h2 outD = some (aD 1 g) := born_cs0 hF hb
theorem br_add {x0 m0 out outD : Nat} {fw fm : OO Int32} {S : SS} {A : AA} {P : Hp} {K : KK} {z : Nat × Nat} {f : Nat → Int64} {g : Nat → UInt64} (hF : Found x0 m0 out outD S A P K z f g) {S2 S1 U1 : SS} {v : Int} (h2 : Hc A P S2 K = Hc A P S K) (hU : Sm U1 S1) (hG : GI S1) (hx : XO fm m0 S U1 0 (fun res => res = iI v)) (hc : ∃ h2 z2, fw (Hc A P S2 K, z) = some (.ok (iI 0), (h2, z2)) ∧ Born A P S2 S1 out f v z h2 z2) : Br x0 m0 out outD fw fm S A P K z := by
  obtain ⟨h3, z2, e1, hb⟩ := hc
  rw [h2] at e1
  obtain ⟨e2, c1, c2, c3, c4⟩ := born_cs hF hb
  have e3 : z2 = (z2.1, z.2) := Prod.ext rfl e2
  rw [e3] at e1
  refine ⟨0, v, S1, h3, z2.1, e1, by decide, by decide, c1, c2, ⟨_, c3, fun _ => if_pos rfl⟩, ⟨g, c4⟩, hG, fun P z hz => ?_⟩
  obtain ⟨b, P2, z2, U, a1, a2, a3, a4, a5⟩ := hx P z hz
  exact ⟨b, P2, z2, U, a1, a2, hU.sy.tr a3, a4, fun _ => a5⟩
theorem Fr_2 {A : AA} {P : Hp} {S S2 : SS} {z : Nat × Nat} (h : Fr A P S z) (h4 : Same4 S S2) : Fr A P S2 z := by
  obtain ⟨a1, a2, a3, a4, a5, a6⟩ := h
  exact ⟨fun k i hl => a1 k i (by rw [← live_4 h4]; exact hl), fun k i hk hi hl => a2 k i hk hi (fun w => hl (by rw [live_4 h4]; exact w)), a3, a4, a5, a6⟩
theorem op_addRoom {x0 m0 out outD : Nat} {hs : Hs} (a1 a2 a3 : Int32) (hi : InvS x0 m0 out outD hs) : opI (f_L_addRoom (some x0) a1 a2 a3 (some out)) (f_X9_addRoom m0 a1 a2 a3) m0 out (InvS x0 m0 out outD) hs := by
  obtain ⟨a, a0, a1, rfl⟩ := i32 a1
  obtain ⟨b, b0, b1, rfl⟩ := i32 a2
  obtain ⟨c, c0, c1, rfl⟩ := i32 a3
  refine op_I hi (fun S A P K z f g hF => ?_)
  have hF2 := hF
  obtain ⟨h0, hA, hV, hC, hG, hO, hD, hFr, ho, hdis, hM, hsep, hB, _⟩ := hF2
  have hm2 := hV.2.1
  unfold Bm at hm2
  show Br x0 m0 out outD _ _ S A P K z
  rw [← h0]
  rw [← h0] at hF
  by_cases k1 : (a < 0 ∨ 2 < a) ∨ (b < 0 ∨ 3 < b) ∨ c < 1 ∨ 99 < c
  · exact br_err hF (j := 1) (by decide) (x_addRoom_1 hV a0 a1 b0 b1 c0 c1 k1) (c_addRoom_1 hA (VS_m (Sm.u0 (S := S) (x := 1)) hV) (CI_m (Sm.u0 (x := 1)) hC) hO a0 a1 b0 b1 c0 c1 k1)
  · skip
    by_cases k2 : S 20 1 = 8
    · exact br_err hF (j := 2) (by decide) (x_addRoom_2 hV a0 a1 b0 b1 c0 c1 (show 0 ≤ a ∧ a ≤ 2 by omega) (show 0 ≤ b ∧ b ≤ 3 by omega) (show 1 ≤ c ∧ c ≤ 99 by omega) k2) (c_addRoom_2 hA (VS_m (Sm.u0 (S := S) (x := 2)) hV) (CI_m (Sm.u0 (x := 2)) hC) hO a0 a1 b0 b1 c0 c1 (show 0 ≤ a ∧ a ≤ 2 by omega) (show 0 ≤ b ∧ b ≤ 3 by omega) (show 1 ≤ c ∧ c ≤ 99 by omega) k2)
    · skip
      have hFr2 : Fr A P (upS S 20 0 0) z := Fr_2 hFr ⟨rfl, rfl, rfl, rfl⟩
      have hG0 := GI_m (Sm.u0 (S := S) (x := 0)) hG
      refine br_add hF (S2 := upS S 20 0 0) (U1 := (upS (upS (upS (upS (upS S 20 0 0) 0 (S 20 1) a) 1 (S 20 1) b) 2 (S 20 1) c) 20 1 (S 20 1 + 1))) (Hc_m Sm.u0).symm ?_ ?_ (x_addRoom_0 hV a0 a1 b0 b1 c0 c1 (show 0 ≤ a ∧ a ≤ 2 by omega) (show 0 ≤ b ∧ b ≤ 3 by omega) (show 1 ≤ c ∧ c ≤ 99 by omega) (show S 20 1 < 8 by omega)) (c_addRoom_0 (K := K) hA (VS_m Sm.u0 hV) (CI_m Sm.u0 hC) hO ho hFr2 (hG0.2.2.1 (S 20 1) (Int.le_refl _)) (show 0 ≤ a ∧ a ≤ 2 by omega) (show 0 ≤ b ∧ b ≤ 3 by omega) (show 1 ≤ c ∧ c ≤ 99 by omega) (show S 20 1 < 8 by omega))
      · exact Sm.rfl
      · exact GI_aR hG0 (show 0 ≤ a ∧ a ≤ 2 by omega) (show 0 ≤ b ∧ b ≤ 3 by omega) (show 1 ≤ c ∧ c ≤ 99 by omega) (show S 20 1 < 8 by omega)

theorem op_addTeacher {x0 m0 out outD : Nat} {hs : Hs} (a1 : Int32) (hi : InvS x0 m0 out outD hs) : opI (f_L_addTeacher (some x0) a1 (some out)) (f_X9_addTeacher m0 a1) m0 out (InvS x0 m0 out outD) hs := by
  obtain ⟨a, a0, a1, rfl⟩ := i32 a1
  refine op_I hi (fun S A P K z f g hF => ?_)
  have hF2 := hF
  obtain ⟨h0, hA, hV, hC, hG, hO, hD, hFr, ho, hdis, hM, hsep, hB, _⟩ := hF2
  have hm2 := hV.2.1
  unfold Bm at hm2
  show Br x0 m0 out outD _ _ S A P K z
  rw [← h0]
  rw [← h0] at hF
  by_cases k1 : a < 0 ∨ 31 < a
  · exact br_err hF (j := 1) (by decide) (x_addTeacher_1 hV a0 a1 k1) (c_addTeacher_1 hA (VS_m (Sm.u0 (S := S) (x := 1)) hV) (CI_m (Sm.u0 (x := 1)) hC) hO a0 a1 k1)
  · skip
    by_cases k2 : S 20 2 = 8
    · exact br_err hF (j := 2) (by decide) (x_addTeacher_2 hV a0 a1 (show 0 ≤ a ∧ a ≤ 31 by omega) k2) (c_addTeacher_2 hA (VS_m (Sm.u0 (S := S) (x := 2)) hV) (CI_m (Sm.u0 (x := 2)) hC) hO a0 a1 (show 0 ≤ a ∧ a ≤ 31 by omega) k2)
    · skip
      have hFr2 : Fr A P (upS S 20 0 0) z := Fr_2 hFr ⟨rfl, rfl, rfl, rfl⟩
      have hG0 := GI_m (Sm.u0 (S := S) (x := 0)) hG
      refine br_add hF (S2 := upS S 20 0 0) (U1 := (upS (upS (upS S 20 0 0) 3 (S 20 2) a) 20 2 (S 20 2 + 1))) (Hc_m Sm.u0).symm ?_ ?_ (x_addTeacher_0 hV a0 a1 (show 0 ≤ a ∧ a ≤ 31 by omega) (show S 20 2 < 8 by omega)) (c_addTeacher_0 (K := K) hA (VS_m Sm.u0 hV) (CI_m Sm.u0 hC) hO ho hFr2 (hG0.2.2.2.2.1 (S 20 2) (Int.le_refl _)) (fun j j0 _ => hG0.2.2.2.2.2 (30 * S 20 2 + j) (show 30 * S 20 2 ≤ 30 * S 20 2 + j by omega)) (show 0 ≤ a ∧ a ≤ 31 by omega) (show S 20 2 < 8 by omega))
      · exact Sm.rfl
      · exact GI_aT hG0 (show 0 ≤ a ∧ a ≤ 31 by omega) (show S 20 2 < 8 by omega)

theorem op_addGroup {x0 m0 out outD : Nat} {hs : Hs} (a1 : Int32) (hi : InvS x0 m0 out outD hs) : opI (f_L_addGroup (some x0) a1 (some out)) (f_X9_addGroup m0 a1) m0 out (InvS x0 m0 out outD) hs := by
  obtain ⟨a, a0, a1, rfl⟩ := i32 a1
  refine op_I hi (fun S A P K z f g hF => ?_)
  have hF2 := hF
  obtain ⟨h0, hA, hV, hC, hG, hO, hD, hFr, ho, hdis, hM, hsep, hB, _⟩ := hF2
  have hm2 := hV.2.1
  unfold Bm at hm2
  show Br x0 m0 out outD _ _ S A P K z
  rw [← h0]
  rw [← h0] at hF
  by_cases k1 : a < 1 ∨ 99 < a
  · exact br_err hF (j := 1) (by decide) (x_addGroup_1 hV a0 a1 k1) (c_addGroup_1 hA (VS_m (Sm.u0 (S := S) (x := 1)) hV) (CI_m (Sm.u0 (x := 1)) hC) hO a0 a1 k1)
  · skip
    by_cases k2 : S 20 3 = 8
    · exact br_err hF (j := 2) (by decide) (x_addGroup_2 hV a0 a1 (show 1 ≤ a ∧ a ≤ 99 by omega) k2) (c_addGroup_2 hA (VS_m (Sm.u0 (S := S) (x := 2)) hV) (CI_m (Sm.u0 (x := 2)) hC) hO a0 a1 (show 1 ≤ a ∧ a ≤ 99 by omega) k2)
    · skip
      have hFr2 : Fr A P (upS S 20 0 0) z := Fr_2 hFr ⟨rfl, rfl, rfl, rfl⟩
      have hG0 := GI_m (Sm.u0 (S := S) (x := 0)) hG
      refine br_add hF (S2 := upS S 20 0 0) (U1 := (upS (upS (upS S 20 0 0) 5 (S 20 3) a) 20 3 (S 20 3 + 1))) (Hc_m Sm.u0).symm ?_ ?_ (x_addGroup_0 hV a0 a1 (show 1 ≤ a ∧ a ≤ 99 by omega) (show S 20 3 < 8 by omega)) (c_addGroup_0 (K := K) hA (VS_m Sm.u0 hV) (CI_m Sm.u0 hC) hO ho hFr2 (show 1 ≤ a ∧ a ≤ 99 by omega) (show S 20 3 < 8 by omega))
      · exact Sm.rfl
      · exact GI_aG hG0 (show 1 ≤ a ∧ a ≤ 99 by omega) (show S 20 3 < 8 by omega)

theorem op_addLesson {x0 m0 out outD : Nat} {hs : Hs} (a1 a2 a3 a4 a5 : Int32) (hi : InvS x0 m0 out outD hs) : opI (f_L_addLesson (some x0) a1 a2 a3 a4 a5 (some out)) (f_X9_addLesson m0 a1 a2 a3 a4 a5) m0 out (InvS x0 m0 out outD) hs := by
  obtain ⟨a, a0, a1, rfl⟩ := i32 a1
  obtain ⟨b, b0, b1, rfl⟩ := i32 a2
  obtain ⟨c, c0, c1, rfl⟩ := i32 a3
  obtain ⟨d, d0, d1, rfl⟩ := i32 a4
  obtain ⟨e, e0, e1, rfl⟩ := i32 a5
  refine op_I hi (fun S A P K z f g hF => ?_)
  have hF2 := hF
  obtain ⟨h0, hA, hV, hC, hG, hO, hD, hFr, ho, hdis, hM, hsep, hB, _⟩ := hF2
  have hm2 := hV.2.1
  unfold Bm at hm2
  show Br x0 m0 out outD _ _ S A P K z
  rw [← h0]
  rw [← h0] at hF
  by_cases k1 : (a < 0 ∨ S 20 3 ≤ a) ∨ b < 0 ∨ S 20 2 ≤ b
  · exact br_err hF (j := 1) (by decide) (x_addLesson_1 hV a0 a1 b0 b1 c0 c1 d0 d1 e0 e1 k1) (c_addLesson_1 hA (VS_m (Sm.u0 (S := S) (x := 1)) hV) (CI_m (Sm.u0 (x := 1)) hC) hO a0 a1 b0 b1 c0 c1 d0 d1 e0 e1 k1)
  · skip
    by_cases k2 : (c < 0 ∨ 3 < c) ∨ (d < 1 ∨ 3 < d) ∨ e < 0 ∨ 9 < e
    · exact br_err hF (j := 2) (by decide) (x_addLesson_2 hV a0 a1 b0 b1 c0 c1 d0 d1 e0 e1 (show 0 ≤ a ∧ a < S 20 3 by omega) (show 0 ≤ b ∧ b < S 20 2 by omega) k2) (c_addLesson_2 hA (VS_m (Sm.u0 (S := S) (x := 2)) hV) (CI_m (Sm.u0 (x := 2)) hC) hO a0 a1 b0 b1 c0 c1 d0 d1 e0 e1 (show 0 ≤ a ∧ a < S 20 3 by omega) (show 0 ≤ b ∧ b < S 20 2 by omega) k2)
    · skip
      by_cases k3 : S 20 4 = 16
      · exact br_err hF (j := 3) (by decide) (x_addLesson_3 hV a0 a1 b0 b1 c0 c1 d0 d1 e0 e1 (show 0 ≤ a ∧ a < S 20 3 by omega) (show 0 ≤ b ∧ b < S 20 2 by omega) (show 0 ≤ c ∧ c ≤ 3 by omega) (show 1 ≤ d ∧ d ≤ 3 by omega) (show 0 ≤ e ∧ e ≤ 9 by omega) k3) (c_addLesson_3 hA (VS_m (Sm.u0 (S := S) (x := 3)) hV) (CI_m (Sm.u0 (x := 3)) hC) hO a0 a1 b0 b1 c0 c1 d0 d1 e0 e1 (show 0 ≤ a ∧ a < S 20 3 by omega) (show 0 ≤ b ∧ b < S 20 2 by omega) (show 0 ≤ c ∧ c ≤ 3 by omega) (show 1 ≤ d ∧ d ≤ 3 by omega) (show 0 ≤ e ∧ e ≤ 9 by omega) k3)
      · skip
        have hFr2 : Fr A P (upS (upS S 20 0 0) 14 (S 20 4) (-1)) z := Fr_2 hFr ⟨rfl, rfl, rfl, rfl⟩
        have hG0 := GI_m (Sm.u0 (S := S) (x := 0)) hG
        have hG1 : GI (upS (upS S 20 0 0) 14 (S 20 4) (-1)) := GI_n hG0
        have hC1 : CI (upS (upS S 20 0 0) 14 (S 20 4) (-1)) K := CI_n (CI_m Sm.u0 hC)
        have hH1 : Hc A P (upS (upS S 20 0 0) 14 (S 20 4) (-1)) K = Hc A P S K := (Hc_n (S := upS S 20 0 0) hA).trans (Hc_m Sm.u0).symm
        refine br_add hF (S2 := (upS (upS S 20 0 0) 14 (S 20 4) (-1))) (U1 := (upS (upS (upS (upS (upS (upS (upS (upS S 20 0 0) 9 (S 20 4) a) 10 (S 20 4) b) 11 (S 20 4) c) 12 (S 20 4) d) 13 (S 20 4) e) 14 (S 20 4) (-1)) 20 4 (S 20 4 + 1))) hH1 ?_ ?_ (x_addLesson_0 hV a0 a1 b0 b1 c0 c1 d0 d1 e0 e1 (show 0 ≤ a ∧ a < S 20 3 by omega) (show 0 ≤ b ∧ b < S 20 2 by omega) (show 0 ≤ c ∧ c ≤ 3 by omega) (show 1 ≤ d ∧ d ≤ 3 by omega) (show 0 ≤ e ∧ e ≤ 9 by omega) (show S 20 4 < 16 by omega)) (c_addLesson_0 (K := K) hA hG1.1.1 hC1 hO ho hFr2 (hG1.2.2.2.1 (S 20 4) (Int.le_refl _)).1 upS_s (show 0 ≤ a ∧ a < S 20 3 by omega) (show 0 ≤ b ∧ b < S 20 2 by omega) (show 0 ≤ c ∧ c ≤ 3 by omega) (show 1 ≤ d ∧ d ≤ 3 by omega) (show 0 ≤ e ∧ e ≤ 9 by omega) (show S 20 4 < 16 by omega))
        · exact aL_sm2
        · exact GI_aL hG1 upS_s (show 0 ≤ a ∧ a < S 20 3 by omega) (show 0 ≤ b ∧ b < S 20 2 by omega) (show 0 ≤ c ∧ c ≤ 3 by omega) (show 1 ≤ d ∧ d ≤ 3 by omega) (show 0 ≤ e ∧ e ≤ 9 by omega) (show S 20 4 < 16 by omega)

theorem op_isLocked {x0 m0 out outD : Nat} {hs : Hs} (a1 : Int32) (hi : InvS x0 m0 out outD hs) : opZ (f_L_isLocked (some x0) a1 (some out)) (f_X9_isLocked m0 a1) m0 out (InvS x0 m0 out outD) hs := by
  obtain ⟨a, a0, a1, rfl⟩ := i32 a1
  obtain ⟨S, A, K, f, g, hhs, hF⟩ := inv_open hi
  have hF2 := hF
  obtain ⟨h0, hA, hV, hC, hG, hO, hD, hFr, ho, hdis, hM, hsep, hB, _⟩ := hF2
  have key : ∃ (j w : Int) (S1 : SS) (P1 : Hp) (K1 : KK) (f1 : Nat → Int64), f_L_isLocked (some x0) (iI a) (some out) (Hc A hs.1 S K, hs.2) = some (.ok (iI j), (Hc A P1 S1 K1, hs.2)) ∧ -100 < j ∧ j < 100 ∧ (w = 0 ∨ w = 1) ∧ Same4 S S1 ∧ (∀ x, x ≠ out → x ≠ outD → P1 x = hs.1 x) ∧ P1 outD = hs.1 outD ∧ P1 out = some (aL 1 f1) ∧ (j = 0 → f1 0 = if w = 0 then 0 else 1) ∧ CI S1 K1 ∧ GI S1 ∧ XO (f_X9_isLocked m0 (iI a)) m0 S S1 j (fun b => j = 0 → b = iI w) := by
    by_cases k1 : a < 0 ∨ S 20 4 ≤ a
    · obtain ⟨K2, e1, e2⟩ := c_isLocked_1 (P := hs.1) (z := hs.2) hA (VS_m (Sm.u0 (S := S) (x := 1)) hV) (CI_m (Sm.u0 (x := 1)) hC) hO a0 a1 k1
      rw [← Hc_m (Sm.u0 (S := S) (x := 1)), h0] at e1
      exact ⟨1, 0, upS S 20 0 1, hs.1, K2, f, e1, by decide, by decide, Or.inl rfl, ⟨rfl, rfl, rfl, rfl⟩, fun _ _ _ => rfl, rfl, hO.1, fun w => absurd w (by decide), e2, GI_m Sm.u0 hG, XO_w (x_isLocked_1 hV a0 a1 k1) (fun _ _ w => absurd w (by decide))⟩
    · have k2 : 0 ≤ a ∧ a < S 20 4 := by omega
      obtain ⟨K2, e1, e2⟩ := c_isLocked_0 (P := hs.1) (z := hs.2) hA (VS_m (Sm.u0 (S := S) (x := 0)) hV) (CI_m (Sm.u0 (x := 0)) hC) hO a0 a1 k2
      rw [← Hc_m (Sm.u0 (S := S) (x := 0)), h0] at e1
      refine ⟨0, if S 8 a = 0 then 0 else 1, upS S 20 0 0, _, K2, _, e1, by decide, by decide, by split <;> simp, ⟨rfl, rfl, rfl, rfl⟩, fun x h _ => hset_n h, hset_n (Ne.symm hsep.1), hset_s, fun _ => ?_, e2, GI_m Sm.u0 hG, XO_w (x_isLocked_0 hV a0 a1 k2) (fun _ h _ => h)⟩
      show (if S 8 a = 0 then (0 : Int64) else 1) = _
      by_cases c : S 8 a = 0
      · rw [if_pos c, if_pos c]; rfl
      · rw [if_neg c, if_neg c]; rfl
  obtain ⟨j, w, S1, P1, K1, f1, e1, j0, j1, hw, h4, hP, hP1, hf1, hf0, hC1, hG1, hx⟩ := key
  have hcs := cs_plain (P1 := P1) hF h4 hP hC1
  rw [← hhs] at e1
  refine ⟨iI j, (Hc A P1 S1 K1, hs.2), e1, m0_cell hcs.2.1, fun sz hB => ?_⟩
  have hm := m0_lt hcs.2.1 hB
  obtain ⟨b, P2, z2, U, g1', g2, g3, g4, g5⟩ := XO_run hx (h := Hc A P1 S1 K1) (sz := sz) (e := hs.2.2) hcs.2.1 hm
  have hf1' : Hc A P1 S1 K1 out = some (aL 1 f1) := by rw [hcs.2.2.1]; exact hf1
  have hnx := inv_close hG1 hcs.1 hsep hm hB ⟨f1, hf1'⟩ ⟨g, by rw [hcs.2.2.2, hP1]; exact hD.1⟩ g2 g3
  refine ⟨b, (Hm m0 P2 U, z2), g1', m0_cell MR_Hm, ?_, fun hk => ?_, hnx⟩
  · rw [e_thrown, g4]
  · have hj : j = 0 := by
      have : iI j = iI 0 := hk
      exact (iI_eq (by omega) (by omega) (by decide) (by decide)).mp this
    refine ⟨f1, ?_, ?_⟩
    · show Hm m0 P2 U out = _
      rw [Hm_out hsep.2.2.2.1, g2.2.2.1 _ (hB _ _ hf1')]
      exact hf1'
    · rw [hf0 hj, g5 hj]
      rcases hw with rfl | rfl <;> rfl
theorem op_placedShare {x0 m0 out outD : Nat} {hs : Hs} (hi : InvS x0 m0 out outD hs) : opF (f_L_placedShare (some x0) (some outD)) (f_X9_placedShare m0) m0 outD (InvS x0 m0 out outD) hs := by
  obtain ⟨S, A, K, f, g, hhs, hF⟩ := inv_open hi
  have hF2 := hF
  obtain ⟨h0, hA, hV, hC, hG, hO, hD, hFr, ho, hdis, hM, hsep, hB, _⟩ := hF2
  have hm2 := hV.2.1
  unfold Bm at hm2
  have key : ∃ (j : Int) (S1 : SS) (P1 : Hp) (K1 : KK) (f1 : Nat → UInt64), f_L_placedShare (some x0) (some outD) (Hc A hs.1 S K, hs.2) = some (.ok (iI j), (Hc A P1 S1 K1, hs.2)) ∧ -100 < j ∧ j < 100 ∧ Same4 S S1 ∧ (∀ x, x ≠ out → x ≠ outD → P1 x = hs.1 x) ∧ P1 out = hs.1 out ∧ P1 outD = some (aD 1 f1) ∧ CI S1 K1 ∧ GI S1 ∧ XO (f_X9_placedShare m0) m0 S S1 j (fun b => j = 0 → vf_n64 (FP.f2d b) ∧ Op.cmpValue (FP.dcmp (f1 0) (FP.f2d b)) .l = 0) := by
    by_cases k1 : S 20 4 = 0
    · obtain ⟨K2, e1, e2⟩ := c_placedShare_1 (P := hs.1) (z := hs.2) hA (VS_m (Sm.u0 (S := S) (x := 1)) hV) (CI_m (Sm.u0 (x := 1)) hC) hD k1
      rw [← Hc_m (Sm.u0 (S := S) (x := 1)), h0] at e1
      exact ⟨1, upS S 20 0 1, hs.1, K2, g, e1, by decide, by decide, ⟨rfl, rfl, rfl, rfl⟩, fun _ _ _ => rfl, rfl, hD.1, e2, GI_m Sm.u0 hG, XO_w (x_placedShare_1 hV k1) (fun _ _ w => absurd w (by decide))⟩
    · obtain ⟨K2, e1, e2⟩ := c_placedShare_0 (P := hs.1) (z := hs.2) hA (VS_m (Sm.u0 (S := S) (x := 0)) hV) (CI_m (Sm.u0 (x := 0)) hC) hD k1
      rw [← Hc_m (Sm.u0 (S := S) (x := 0)), h0] at e1
      refine ⟨0, upS S 20 0 0, _, K2, _, e1, by decide, by decide, ⟨rfl, rfl, rfl, rfl⟩, fun x _ h => hset_n h, hset_n hsep.1, hset_s, e2, GI_m Sm.u0 hG, XO_w (x_placedShare_0 hV k1) (fun b h _ => ?_)⟩
      subst h
      have hpb : 0 ≤ plV (upS S 20 0 0) ∧ plV (upS S 20 0 0) ≤ (S 20 4).toNat := cntN_b _ _
      have hfl := fl_okI (i := plV (upS S 20 0 0)) (n := S 20 4) (by omega) (by omega) (by omega) (by omega)
      exact ⟨hfl.2.1, hfl.2.2⟩
  obtain ⟨j, S1, P1, K1, f1, e1, j0, j1, h4, hP, hP1, hf1, hC1, hG1, hx⟩ := key
  have hcs := cs_plain (P1 := P1) hF h4 hP hC1
  rw [← hhs] at e1
  refine ⟨iI j, (Hc A P1 S1 K1, hs.2), e1, m0_cell hcs.2.1, fun sz hB => ?_⟩
  have hm := m0_lt hcs.2.1 hB
  obtain ⟨b, P2, z2, U, g1', g2, g3, g4, g5⟩ := XO_run hx (h := Hc A P1 S1 K1) (sz := sz) (e := hs.2.2) hcs.2.1 hm
  have hf1' : Hc A P1 S1 K1 outD = some (aD 1 f1) := by rw [hcs.2.2.2]; exact hf1
  have hnx := inv_close hG1 hcs.1 hsep hm hB ⟨f, by rw [hcs.2.2.1, hP1]; exact hO.1⟩ ⟨f1, hf1'⟩ g2 g3
  refine ⟨b, (Hm m0 P2 U, z2), g1', m0_cell MR_Hm, ?_, fun hk => ?_, hnx⟩
  · rw [e_thrown, g4]
  · have hj : j = 0 := by
      have : iI j = iI 0 := hk
      exact (iI_eq (by omega) (by omega) (by decide) (by decide)).mp this
    refine ⟨f1, ?_, g5 hj⟩
    show Hm m0 P2 U outD = _
    rw [Hm_out hsep.2.2.2.2.1, g2.2.2.1 _ (hB _ _ hf1')]
    exact hf1'
theorem op_meanPossible {x0 m0 out outD : Nat} {hs : Hs} (hi : InvS x0 m0 out outD hs) : opW (f_L_meanPossible (some x0) (some outD)) (f_X9_meanPossible m0) m0 outD (InvS x0 m0 out outD) hs := by
  obtain ⟨S, A, K, f, g, hhs, hF⟩ := inv_open hi
  have hF2 := hF
  obtain ⟨h0, hA, hV, hC, hG, hO, hD, hFr, ho, hdis, hM, hsep, hB, _⟩ := hF2
  have hm2 := hV.2.1
  unfold Bm at hm2
  have key : ∃ (j : Int) (S1 : SS) (P1 : Hp) (K1 : KK) (f1 : Nat → UInt64), f_L_meanPossible (some x0) (some outD) (Hc A hs.1 S K, hs.2) = some (.ok (iI j), (Hc A P1 S1 K1, hs.2)) ∧ -100 < j ∧ j < 100 ∧ Same4 S S1 ∧ (∀ x, x ≠ out → x ≠ outD → P1 x = hs.1 x) ∧ P1 out = hs.1 out ∧ P1 outD = some (aD 1 f1) ∧ CI S1 K1 ∧ GI S1 ∧ XO (f_X9_meanPossible m0) m0 S S1 j (fun b => j = 0 → Op.cmpValue (FP.dcmp (f1 0) b) .l = 0) := by
    by_cases k1 : S 20 4 = 0
    · obtain ⟨K2, e1, e2⟩ := c_meanPossible_1 (P := hs.1) (z := hs.2) hA (VS_m (Sm.u0 (S := S) (x := 1)) hV) (CI_m (Sm.u0 (x := 1)) hC) hD k1
      rw [← Hc_m (Sm.u0 (S := S) (x := 1)), h0] at e1
      exact ⟨1, upS S 20 0 1, hs.1, K2, g, e1, by decide, by decide, ⟨rfl, rfl, rfl, rfl⟩, fun _ _ _ => rfl, rfl, hD.1, e2, GI_m Sm.u0 hG, XO_w (x_meanPossible_1 hV k1) (fun _ _ w => absurd w (by decide))⟩
    · obtain ⟨K2, e1, e2⟩ := c_meanPossible_0 (P := hs.1) (z := hs.2) hA (VS_m (Sm.u0 (S := S) (x := 0)) hV) (CI_m (Sm.u0 (x := 0)) hC) hD k1
      rw [← Hc_m (Sm.u0 (S := S) (x := 0)), h0] at e1
      refine ⟨0, upS S 20 0 0, _, K2, _, e1, by decide, by decide, ⟨rfl, rfl, rfl, rfl⟩, fun x _ h => hset_n h, hset_n hsep.1, hset_s, e2, GI_m Sm.u0 hG, XO_w (x_meanPossible_0 hV k1) (fun b h _ => ?_)⟩
      subst h
      have hpb := mnV_b (upS S 20 0 0)
      have h44 : upS S 20 0 0 20 4 = S 20 4 := rfl
      rw [h44] at hpb
      have hfl := db_okI (i := mnV (upS S 20 0 0)) (n := S 20 4) (by omega) (by omega) (by omega) (by omega)
      exact hfl.2
  obtain ⟨j, S1, P1, K1, f1, e1, j0, j1, h4, hP, hP1, hf1, hC1, hG1, hx⟩ := key
  have hcs := cs_plain (P1 := P1) hF h4 hP hC1
  rw [← hhs] at e1
  refine ⟨iI j, (Hc A P1 S1 K1, hs.2), e1, m0_cell hcs.2.1, fun sz hB => ?_⟩
  have hm := m0_lt hcs.2.1 hB
  obtain ⟨b, P2, z2, U, g1', g2, g3, g4, g5⟩ := XO_run hx (h := Hc A P1 S1 K1) (sz := sz) (e := hs.2.2) hcs.2.1 hm
  have hf1' : Hc A P1 S1 K1 outD = some (aD 1 f1) := by rw [hcs.2.2.2]; exact hf1
  have hnx := inv_close hG1 hcs.1 hsep hm hB ⟨f, by rw [hcs.2.2.1, hP1]; exact hO.1⟩ ⟨f1, hf1'⟩ g2 g3
  refine ⟨b, (Hm m0 P2 U, z2), g1', m0_cell MR_Hm, ?_, fun hk => ?_, hnx⟩
  · rw [e_thrown, g4]
  · have hj : j = 0 := by
      have : iI j = iI 0 := hk
      exact (iI_eq (by omega) (by omega) (by decide) (by decide)).mp this
    refine ⟨f1, ?_, g5 hj⟩
    show Hm m0 P2 U outD = _
    rw [Hm_out hsep.2.2.2.2.1, g2.2.2.1 _ (hB _ _ hf1')]
    exact hf1'
theorem ite_p {c : Prop} [Decidable c] {a b : Prop} (h1 : a) (h2 : b) : if c then a else b := by
  split
  · exact h1
  · exact h2
theorem law_step {x0 m0 out outD : Nat} {hs : Hs} (hi : InvS x0 m0 out outD hs) (v a1 a2 a3 a4 a5 : Int32) : LawStep x0 m0 out outD v a1 a2 a3 a4 a5 (InvS x0 m0 out outD) hs := by
  unfold LawStep
  refine ite_p (op_addRoom a1 a2 a3 hi) ?_
  refine ite_p (op_addTeacher a1 hi) ?_
  refine ite_p (op_addGroup a1 hi) ?_
  refine ite_p (op_addLesson a1 a2 a3 a4 a5 hi) ?_
  refine ite_p (op_setWish a1 a2 a3 hi) ?_
  refine ite_p (op_setWeight a1 a2 hi) ?_
  refine ite_p (op_reason a1 a2 a3 hi) ?_
  refine ite_p (op_reasons a1 a2 hi) ?_
  refine ite_p (op_place a1 a2 a3 hi) ?_
  refine ite_p (op_remove a1 hi) ?_
  refine ite_p (op_lock a1 hi) ?_
  refine ite_p (op_unlock a1 hi) ?_
  refine ite_p (op_isLocked a1 hi) ?_
  refine ite_p (op_placeOf a1 hi) ?_
  refine ite_p (op_groupAt a1 a2 hi) ?_
  refine ite_p (op_teacherAt a1 a2 hi) ?_
  refine ite_p (op_possible a1 hi) ?_
  refine ite_p (op_possibleAt a1 a2 hi) ?_
  refine ite_p (op_cheapest a1 hi) ?_
  refine ite_p (op_costWith a1 a2 a3 hi) ?_
  refine ite_p (op_hardest  hi) ?_
  refine ite_p (op_fill  hi) ?_
  refine ite_p (op_improve a1 hi) ?_
  refine ite_p (op_cost  hi) ?_
  refine ite_p (op_costAnew  hi) ?_
  refine ite_p (op_amount a1 hi) ?_
  refine ite_p (op_breaks  hi) ?_
  refine ite_p (op_lacking a1 hi) ?_
  refine ite_p (op_lackingBySeats a1 hi) ?_
  refine ite_p (op_ill a1 a2 hi) ?_
  refine ite_p (op_close a1 hi) ?_
  refine ite_p (op_open a1 hi) ?_
  refine ite_p (op_passDay  hi) ?_
  refine ite_p (op_nextWeek  hi) ?_
  refine ite_p (op_today  hi) ?_
  refine ite_p (op_account a1 hi) ?_
  refine ite_p (op_save  hi) ?_
  refine ite_p (op_placeIn a1 a2 hi) ?_
  refine ite_p (op_differences a1 a2 hi) ?_
  refine ite_p (op_restore a1 hi) ?_
  refine ite_p (op_merge a1 a2 hi) ?_
  refine ite_p (op_placedShare  hi) ?_
  refine ite_p (op_meanPossible  hi) ?_
  refine ite_p (op_isSound  hi) ?_
  exact hi
