/-! PURE LAYER: the letters are the same in both -/
theorem bitY (c : Prop) [Decidable c] (m : Int) : ∃ y : Int, 0 ≤ y ∧ y ≤ 1 ∧ (y = 1 ↔ c) ∧ (if c then m else 0) = m * y := by
  by_cases h : c
  · exact ⟨1, by decide, by decide, ⟨fun _ => h, fun _ => rfl⟩, by rw [if_pos h]; omega⟩
  · exact ⟨0, by decide, by decide, ⟨fun q => absurd q (by decide), fun q => absurd q h⟩, by rw [if_neg h]; omega⟩
theorem bitN (c : Prop) [Decidable c] (m : Int) : ∃ y : Int, 0 ≤ y ∧ y ≤ 1 ∧ (y = 1 ↔ ¬ c) ∧ (if c then 0 else m) = m * y := by
  by_cases h : c
  · exact ⟨0, by decide, by decide, ⟨fun q => absurd q (by decide), fun q => absurd h q⟩, by rw [if_pos h]; omega⟩
  · exact ⟨1, by decide, by decide, ⟨fun _ => h, fun _ => rfl⟩, by rw [if_neg h]; omega⟩
theorem sPl_y (S : SS) (l s r : Int) : ∃ y0 y1 y2 y3 y4 y5 : Int, (0 ≤ y0 ∧ y0 ≤ 1 ∧ (y0 = 1 ↔ brP S l r s 0)) ∧ (0 ≤ y1 ∧ y1 ≤ 1 ∧ (y1 = 1 ↔ brP S l r s 1)) ∧ (0 ≤ y2 ∧ y2 ≤ 1 ∧ (y2 = 1 ↔ brP S l r s 2)) ∧ (0 ≤ y3 ∧ y3 ≤ 1 ∧ (y3 = 1 ↔ brP S l r s 3)) ∧ (0 ≤ y4 ∧ y4 ≤ 1 ∧ (y4 = 1 ↔ brP S l r s 4)) ∧ (0 ≤ y5 ∧ y5 ≤ 1 ∧ (y5 = 1 ↔ brP S l r s 5)) ∧ sPl S l s r = y0 + 2 * y1 + 4 * y2 + 8 * y3 + 16 * y4 + 32 * y5 := by
  obtain ⟨y0, a0, b0, c0, d0⟩ := bitN (s % 6 + S 12 l ≤ 6) 1
  obtain ⟨y1, a1, b1, c1, d1⟩ := bitN (S 20 6 ≤ s / 6) 2
  obtain ⟨y2, a2, b2, c2, d2⟩ := bitY (offB (S 3 (S 10 l)) (s / 6) = 1) 4
  obtain ⟨y3, a3, b3, c3, d3⟩ := bitN (S 1 r = S 11 l) 8
  obtain ⟨y4, a4, b4, c4, d4⟩ := bitN (S 5 (S 9 l) ≤ S 2 r) 16
  obtain ⟨y5, a5, b5, c5, d5⟩ := bitN (S 7 r = 0) 32
  refine ⟨y0, y1, y2, y3, y4, y5, ⟨a0, b0, ?_⟩, ⟨a1, b1, ?_⟩, ⟨a2, b2, c2⟩, ⟨a3, b3, c3⟩, ⟨a4, b4, c4⟩, ⟨a5, b5, c5⟩, ?_⟩
  · show _ ↔ 6 < s % 6 + S 12 l
    clear d0 d1 d2 d3 d4 d5 c1 c2 c3 c4 c5
    omega
  · show _ ↔ s / 6 < S 20 6
    clear d0 d1 d2 d3 d4 d5 c0 c2 c3 c4 c5
    omega
  · unfold sPl
    rw [d0, d1, d2, d3, d4, d5]
    clear c0 c1 c2 c3 c4 c5 d0 d1 d2 d3 d4 d5
    omega
def onP (S : SS) (l k r s : Int) : Prop := k ≠ l ∧ 0 ≤ S 14 k ∧ (mtP S l k s ∧ (S 14 k % 8 = r ∨ S 10 k = S 10 l ∨ S 9 k = S 9 l) ∨ (S 10 k = S 10 l ∨ S 9 k = S 9 l) ∧ S 0 (S 14 k % 8) ≠ S 0 r ∧ tcP S l k s)
theorem sLb_y (S : SS) (l k s r : Int) (h : k ≠ l ∧ 0 ≤ S 14 k) : ∃ y6 y7 y8 y9 : Int, (0 ≤ y6 ∧ y6 ≤ 1 ∧ (y6 = 1 ↔ mtP S l k s ∧ S 14 k % 8 = r)) ∧ (0 ≤ y7 ∧ y7 ≤ 1 ∧ (y7 = 1 ↔ mtP S l k s ∧ S 10 k = S 10 l)) ∧ (0 ≤ y8 ∧ y8 ≤ 1 ∧ (y8 = 1 ↔ mtP S l k s ∧ S 9 k = S 9 l)) ∧ (0 ≤ y9 ∧ y9 ≤ 1 ∧ (y9 = 1 ↔ (S 10 k = S 10 l ∨ S 9 k = S 9 l) ∧ S 0 (S 14 k % 8) ≠ S 0 r ∧ tcP S l k s)) ∧ sLb S k l s r = 64 * y6 + 128 * y7 + 256 * y8 + 512 * y9 := by
  have hn : ¬ (k = l ∨ S 14 k < 0) := by omega
  obtain ⟨y6, a6, b6, c6, d6⟩ := bitY ((S 14 k / 8 < sEnd S l s ∧ s < S 14 k / 8 + S 12 k) ∧ S 14 k % 8 = r) 64
  obtain ⟨y7, a7, b7, c7, d7⟩ := bitY ((S 14 k / 8 < sEnd S l s ∧ s < S 14 k / 8 + S 12 k) ∧ S 10 k = S 10 l) 128
  obtain ⟨y8, a8, b8, c8, d8⟩ := bitY ((S 14 k / 8 < sEnd S l s ∧ s < S 14 k / 8 + S 12 k) ∧ S 9 k = S 9 l) 256
  obtain ⟨y9, a9, b9, c9, d9⟩ := bitY ((S 10 k = S 10 l ∨ S 9 k = S 9 l) ∧ S 0 (S 14 k % 8) ≠ S 0 r ∧ (S 14 k / 8 / 6 = s / 6 ∧ (S 14 k / 8 + S 12 k = s ∨ S 14 k / 8 = sEnd S l s))) 512
  refine ⟨y6, y7, y8, y9, ⟨a6, b6, c6⟩, ⟨a7, b7, c7⟩, ⟨a8, b8, c8⟩, ⟨a9, b9, c9⟩, ?_⟩
  unfold sLb
  rw [if_neg hn, d6, d7, d8, d9]
theorem sLb_0 (S : SS) (l k s r : Int) (h : ¬ (k ≠ l ∧ 0 ≤ S 14 k)) : sLb S k l s r = 0 := by
  unfold sLb
  rw [if_pos (by omega)]
/-- what one bars, by its bit -/
theorem sLb_has (S : SS) (l k s r : Int) {b : Nat} (hb : b < 32) : (bHas (iI (sLb S k l s r)) (iI (b : Int)) = true) ↔ (k ≠ l ∧ 0 ≤ S 14 k ∧ (b = 6 ∧ mtP S l k s ∧ S 14 k % 8 = r ∨ b = 7 ∧ mtP S l k s ∧ S 10 k = S 10 l ∨ b = 8 ∧ mtP S l k s ∧ S 9 k = S 9 l ∨ b = 9 ∧ (S 10 k = S 10 l ∨ S 9 k = S 9 l) ∧ S 0 (S 14 k % 8) ≠ S 0 r ∧ tcP S l k s)) := by
  by_cases h : k ≠ l ∧ 0 ≤ S 14 k
  · obtain ⟨y6, y7, y8, y9, ⟨a6, b6, c6⟩, ⟨a7, b7, c7⟩, ⟨a8, b8, c8⟩, ⟨a9, b9, c9⟩, d⟩ := sLb_y S l k s r h
    rw [d, small_hasI (by omega) (by omega) hb]
    generalize hP6 : (mtP S l k s ∧ S 14 k % 8 = r) = P6 at *
    generalize hP7 : (mtP S l k s ∧ S 10 k = S 10 l) = P7 at *
    generalize hP8 : (mtP S l k s ∧ S 9 k = S 9 l) = P8 at *
    generalize hP9 : ((S 10 k = S 10 l ∨ S 9 k = S 9 l) ∧ S 0 (S 14 k % 8) ≠ S 0 r ∧ tcP S l k s) = P9 at *
    rw [← c6, ← c7, ← c8, ← c9]
    by_cases c : b < 10
    · rcases (show b = 0 ∨ b = 1 ∨ b = 2 ∨ b = 3 ∨ b = 4 ∨ b = 5 ∨ b = 6 ∨ b = 7 ∨ b = 8 ∨ b = 9 by omega) with rfl | rfl | rfl | rfl | rfl | rfl | rfl | rfl | rfl | rfl <;> omega
    · have h2 : (64 * y6 + 128 * y7 + 256 * y8 + 512 * y9).toNat / 2 ^ b = 0 := by
        apply Nat.div_eq_of_lt
        have h3 : 2 ^ 10 ≤ 2 ^ b := Nat.pow_le_pow_right (by decide) (by omega)
        omega
      rw [h2]
      omega
  · rw [sLb_0 S l k s r h, bHas_00 b hb]
    exact ⟨fun q => absurd q (by decide), fun q => absurd ⟨q.1, q.2.1⟩ h⟩
theorem sPl_has (S : SS) (l s r : Int) {b : Nat} (hb : b < 32) : (bHas (iI (sPl S l s r)) (iI (b : Int)) = true) ↔ (b < 6 ∧ brP S l r s b) := by
  obtain ⟨y0, y1, y2, y3, y4, y5, ⟨a0, b0, c0⟩, ⟨a1, b1, c1⟩, ⟨a2, b2, c2⟩, ⟨a3, b3, c3⟩, ⟨a4, b4, c4⟩, ⟨a5, b5, c5⟩, d⟩ := sPl_y S l s r
  rw [d, small_hasI (by omega) (by omega) hb]
  by_cases c : b < 6
  · rcases (show b = 0 ∨ b = 1 ∨ b = 2 ∨ b = 3 ∨ b = 4 ∨ b = 5 by omega) with rfl | rfl | rfl | rfl | rfl | rfl
    · rw [← c0]; omega
    · rw [← c1]; omega
    · rw [← c2]; omega
    · rw [← c3]; omega
    · rw [← c4]; omega
    · rw [← c5]; omega
  · have h2 : (y0 + 2 * y1 + 4 * y2 + 8 * y3 + 16 * y4 + 32 * y5).toNat / 2 ^ b = 0 := by
      apply Nat.div_eq_of_lt
      have h3 : 2 ^ 6 ≤ 2 ^ b := Nat.pow_le_pow_right (by decide) (by omega)
      omega
    rw [h2]
    omega
theorem sLt_has (S : SS) (l s r : Int) {b : Nat} (hb : b < 32) : (bHas (sLt S l s r) (iI (b : Int)) = true) ↔ (b < 10 ∧ brP S l r s b) := by
  unfold sLt
  rw [lF_has S l s r hb, sPl_has S l s r hb]
  simp only [sLb_has S l _ s r hb, Int.zero_add]
  by_cases c : b < 10
  · rcases (show b = 0 ∨ b = 1 ∨ b = 2 ∨ b = 3 ∨ b = 4 ∨ b = 5 ∨ b = 6 ∨ b = 7 ∨ b = 8 ∨ b = 9 by omega) with rfl | rfl | rfl | rfl | rfl | rfl | rfl | rfl | rfl | rfl
    · exact ⟨fun h => h.elim (fun h => ⟨by decide, h.2⟩) (fun ⟨j, hj, h1, h2, h3⟩ => by omega), fun h => Or.inl ⟨by decide, h.2⟩⟩
    · exact ⟨fun h => h.elim (fun h => ⟨by decide, h.2⟩) (fun ⟨j, hj, h1, h2, h3⟩ => by omega), fun h => Or.inl ⟨by decide, h.2⟩⟩
    · exact ⟨fun h => h.elim (fun h => ⟨by decide, h.2⟩) (fun ⟨j, hj, h1, h2, h3⟩ => by omega), fun h => Or.inl ⟨by decide, h.2⟩⟩
    · exact ⟨fun h => h.elim (fun h => ⟨by decide, h.2⟩) (fun ⟨j, hj, h1, h2, h3⟩ => by omega), fun h => Or.inl ⟨by decide, h.2⟩⟩
    · exact ⟨fun h => h.elim (fun h => ⟨by decide, h.2⟩) (fun ⟨j, hj, h1, h2, h3⟩ => by omega), fun h => Or.inl ⟨by decide, h.2⟩⟩
    · exact ⟨fun h => h.elim (fun h => ⟨by decide, h.2⟩) (fun ⟨j, hj, h1, h2, h3⟩ => by omega), fun h => Or.inl ⟨by decide, h.2⟩⟩
    · show _ ↔ 6 < 10 ∧ ∃ k : Nat, k < (S 20 4).toNat ∧ (k : Int) ≠ l ∧ 0 ≤ S 14 k ∧ mtP S l k s ∧ S 14 k % 8 = r
      constructor
      · rintro (h | ⟨j, hj, h1, h2, h3⟩)
        · omega
        · exact ⟨by decide, j, hj, h1, h2, by simpa using h3⟩
      · rintro ⟨_, j, hj, h1, h2, h3⟩
        exact Or.inr ⟨j, hj, h1, h2, Or.inl ⟨rfl, h3⟩⟩
    · show _ ↔ 7 < 10 ∧ ∃ k : Nat, k < (S 20 4).toNat ∧ (k : Int) ≠ l ∧ 0 ≤ S 14 k ∧ mtP S l k s ∧ S 10 k = S 10 l
      constructor
      · rintro (h | ⟨j, hj, h1, h2, h3⟩)
        · omega
        · exact ⟨by decide, j, hj, h1, h2, by simpa using h3⟩
      · rintro ⟨_, j, hj, h1, h2, h3⟩
        exact Or.inr ⟨j, hj, h1, h2, Or.inr (Or.inl ⟨rfl, h3⟩)⟩
    · show _ ↔ 8 < 10 ∧ ∃ k : Nat, k < (S 20 4).toNat ∧ (k : Int) ≠ l ∧ 0 ≤ S 14 k ∧ mtP S l k s ∧ S 9 k = S 9 l
      constructor
      · rintro (h | ⟨j, hj, h1, h2, h3⟩)
        · omega
        · exact ⟨by decide, j, hj, h1, h2, by simpa using h3⟩
      · rintro ⟨_, j, hj, h1, h2, h3⟩
        exact Or.inr ⟨j, hj, h1, h2, Or.inr (Or.inr (Or.inl ⟨rfl, h3⟩))⟩
    · show _ ↔ 9 < 10 ∧ ∃ k : Nat, k < (S 20 4).toNat ∧ (k : Int) ≠ l ∧ 0 ≤ S 14 k ∧ (S 10 k = S 10 l ∨ S 9 k = S 9 l) ∧ S 0 (S 14 k % 8) ≠ S 0 r ∧ tcP S l k s
      constructor
      · rintro (h | ⟨j, hj, h1, h2, h3⟩)
        · omega
        · exact ⟨by decide, j, hj, h1, h2, by simpa using h3⟩
      · rintro ⟨_, j, hj, h1, h2, h3⟩
        exact Or.inr ⟨j, hj, h1, h2, Or.inr (Or.inr (Or.inr ⟨rfl, h3⟩))⟩
  · constructor
    · rintro (h | ⟨j, hj, h1, h2, h3⟩)
      · omega
      · rcases h3 with h3 | h3 | h3 | h3 <;> exact absurd h3.1 (by omega)
    · exact fun h => absurd h.1 c
/-- the letters of the class are those of the reference -/
theorem leM_sLt {S : SS} (hV : VS S) {l r : Int} (l0 : 0 ≤ l) (l1 : l < S 20 4) (r0 : 0 ≤ r) (r1 : r < S 20 1) {s : Int} (s0 : 0 ≤ s) (s1 : s < 30) : leM S l r s = sLt S l s r := by
  have hs : ((s.toNat : Nat) : Int) = s := by omega
  apply bHas_ext
  intro b hb
  have h1 := sLt_has S l s r hb
  have h2 : (bHas (leM S l r s) (iI (b : Int)) = true) ↔ (b < 10 ∧ brP S l r s b) := by
    unfold leM leK
    rw [bHas_orN _ hb]
    constructor
    · rintro ⟨k, hk, h⟩
      by_cases c : bHas (baK S (KS S l) l r (k : Int)) (iI s) = true
      · rw [if_pos c, bHas_bitk (by omega) hb, decide_eq_true_eq] at h
        subst h
        have h3 := baM_has hV l0 l1 r0 r1 (s := s.toNat) (by omega) b hk
        rw [hs] at h3
        exact ⟨hk, h3.mp c⟩
      · rw [if_neg c, bHas_00 b hb] at h
        exact absurd h (by decide)
    · rintro ⟨hk, h⟩
      have h3 := baM_has hV l0 l1 r0 r1 (s := s.toNat) (by omega) b hk
      rw [hs] at h3
      have h4 : bHas (baK S (KS S l) l r (b : Int)) (iI s) = true := h3.mpr h
      refine ⟨b, hk, ?_⟩
      rw [if_pos h4, bHas_bitk (by omega) hb, decide_eq_true rfl]
  have h3 := h2.trans h1.symm
  cases c : bHas (leM S l r s) (iI (b : Int)) <;> cases d : bHas (sLt S l s r) (iI (b : Int)) <;> simp_all
theorem psM_sLt {S : SS} (hV : VS S) {l r : Int} (l0 : 0 ≤ l) (l1 : l < S 20 4) (r0 : 0 ≤ r) (r1 : r < S 20 1) {s : Int} (s0 : 0 ≤ s) (s1 : s < 30) : (bHas (psM S l r) (iI s) = true) ↔ sLt S l s r = 0 := by
  have hs : ((s.toNat : Nat) : Int) = s := by omega
  have h1 := psM_has (S := S) (l := l) (r := r) (s := s.toNat) (by omega)
  rw [hs] at h1
  rw [h1]
  constructor
  · intro h
    apply bHas_ext
    intro b hb
    rw [bHas_0 hb]
    have h2 := sLt_has S l s r hb
    cases c : bHas (sLt S l s r) (iI (b : Int))
    · rfl
    · have h3 := h2.mp c
      have h4 := baM_has hV l0 l1 r0 r1 (s := s.toNat) (by omega) b h3.1
      rw [hs] at h4
      have h5 := h b h3.1
      rw [h4.mpr h3.2] at h5
      exact h5
  · intro h b hb
    have h2 := sLt_has S l s r (b := b) (by omega)
    rw [h, bHas_0 (by omega)] at h2
    have h4 := baM_has hV l0 l1 r0 r1 (s := s.toNat) (by omega) b hb
    rw [hs] at h4
    cases c : bHas (baM S l r (b : Int)) (iI s)
    · rfl
    · exact absurd (h2.mpr ⟨hb, h4.mp c⟩) (by decide)
theorem sLb_n0 (S : SS) (l k s r : Int) : sLb S k l s r ≠ 0 ↔ onP S l k r s := by
  by_cases h : k ≠ l ∧ 0 ≤ S 14 k
  · obtain ⟨y6, y7, y8, y9, ⟨a6, b6, c6⟩, ⟨a7, b7, c7⟩, ⟨a8, b8, c8⟩, ⟨a9, b9, c9⟩, d⟩ := sLb_y S l k s r h
    rw [d]
    unfold onP
    constructor
    · intro q
      refine ⟨h.1, h.2, ?_⟩
      rcases (show y6 = 1 ∨ y7 = 1 ∨ y8 = 1 ∨ y9 = 1 by omega) with e | e | e | e
      · exact Or.inl ⟨(c6.mp e).1, Or.inl (c6.mp e).2⟩
      · exact Or.inl ⟨(c7.mp e).1, Or.inr (Or.inl (c7.mp e).2)⟩
      · exact Or.inl ⟨(c8.mp e).1, Or.inr (Or.inr (c8.mp e).2)⟩
      · exact Or.inr (c9.mp e)
    · rintro ⟨_, _, (⟨e, f | f | f⟩ | e)⟩
      · have := c6.mpr ⟨e, f⟩; omega
      · have := c7.mpr ⟨e, f⟩; omega
      · have := c8.mpr ⟨e, f⟩; omega
      · have := c9.mpr e; omega
  · rw [sLb_0 S l k s r h]
    exact ⟨fun q => absurd rfl q, fun q => absurd ⟨q.1, q.2.1⟩ h⟩
theorem sPl_0 (S : SS) (l s r : Int) : sPl S l s r = 0 ↔ ∀ b : Nat, b < 6 → ¬ brP S l r s b := by
  obtain ⟨y0, y1, y2, y3, y4, y5, ⟨a0, b0, c0⟩, ⟨a1, b1, c1⟩, ⟨a2, b2, c2⟩, ⟨a3, b3, c3⟩, ⟨a4, b4, c4⟩, ⟨a5, b5, c5⟩, d⟩ := sPl_y S l s r
  rw [d]
  constructor
  · intro h b hb
    rcases (show b = 0 ∨ b = 1 ∨ b = 2 ∨ b = 3 ∨ b = 4 ∨ b = 5 by omega) with rfl | rfl | rfl | rfl | rfl | rfl
    · rw [← c0]; omega
    · rw [← c1]; omega
    · rw [← c2]; omega
    · rw [← c3]; omega
    · rw [← c4]; omega
    · rw [← c5]; omega
  · intro h
    have h0 := h 0 (by decide)
    have h1 := h 1 (by decide)
    have h2 := h 2 (by decide)
    have h3 := h 3 (by decide)
    have h4 := h 4 (by decide)
    have h5 := h 5 (by decide)
    rw [← c0] at h0
    rw [← c1] at h1
    rw [← c2] at h2
    rw [← c3] at h3
    rw [← c4] at h4
    rw [← c5] at h5
    omega
theorem oneM_has {S : SS} (hV : VS S) {l k r : Int} (l0 : 0 ≤ l) (l1 : l < S 20 4) (k0 : 0 ≤ k) (k1 : k < S 20 4) (r0 : 0 ≤ r) (r1 : r < S 20 1) {s : Int} (s0 : 0 ≤ s) (s1 : s < 30) : (bHas (oneM S l k r) (iI s) = true) ↔ onP S l k r s := by
  have hs : ((s.toNat : Nat) : Int) = s := by omega
  have hr := hV.1 r
  have hz : ∀ (c : Prop) [Decidable c] (x : Int32), (bHas (iI 0 ||| (if c then x else iI 0)) (iI s) = true) ↔ (c ∧ bHas x (iI s) = true) := by
    intro c _ x
    rw [or_0l]
    by_cases h : c
    · rw [if_pos h]; exact ⟨fun q => ⟨h, q⟩, fun q => q.2⟩
    · rw [if_neg h, ← hs, bHas_00 _ (by omega)]; exact ⟨fun q => absurd q (by decide), fun q => absurd q.1 h⟩
  have hm : 0 ≤ S 14 k → ((bHas (meM S l k) (iI s) = true) ↔ mtP S l k s) := fun kp => by
    have := meM_has hV l0 l1 k0 k1 kp (s := s.toNat) (by omega)
    rw [hs] at this
    exact this
  have ht : 0 ≤ S 14 k → ((bHas (tcM S l k) (iI s) = true) ↔ tcP S l k s) := fun kp => by
    have := tcM_has hV l0 l1 k0 k1 kp (s := s.toNat) (by omega)
    rw [hs] at this
    exact this
  have h6 : baK S (seK S (K0S S) l k) l r 6 = iI 0 ||| (if k ≠ l ∧ 0 ≤ S 14 k ∧ S 14 k % 8 = r then meM S l k else iI 0) := seK_7
  have h7 : baK S (seK S (K0S S) l k) l r 7 = iI 0 ||| (if k ≠ l ∧ 0 ≤ S 14 k ∧ S 10 k = S 10 l then meM S l k else iI 0) := seK_12
  have h8 : baK S (seK S (K0S S) l k) l r 8 = iI 0 ||| (if k ≠ l ∧ 0 ≤ S 14 k ∧ S 9 k = S 9 l then meM S l k else iI 0) := seK_13
  have h9 : baK S (seK S (K0S S) l k) l r 9 = iI 0 ||| (if k ≠ l ∧ 0 ≤ S 14 k ∧ (S 10 k = S 10 l ∨ S 9 k = S 9 l) ∧ S 0 (S 14 k % 8) ≠ S 0 r then tcM S l k else iI 0) := seK_8 (by omega) (by omega)
  unfold oneM boK
  rw [← hs, bHas_orN _ (by omega), hs]
  unfold onP
  constructor
  · rintro ⟨b, hb, h⟩
    rcases (show b = 0 ∨ b = 1 ∨ b = 2 ∨ b = 3 by omega) with rfl | rfl | rfl | rfl
    · rw [show (6 : Int) + ((0 : Nat) : Int) = 6 from rfl, h6, hz] at h
      exact ⟨h.1.1, h.1.2.1, Or.inl ⟨(hm h.1.2.1).mp h.2, Or.inl h.1.2.2⟩⟩
    · rw [show (6 : Int) + ((1 : Nat) : Int) = 7 from rfl, h7, hz] at h
      exact ⟨h.1.1, h.1.2.1, Or.inl ⟨(hm h.1.2.1).mp h.2, Or.inr (Or.inl h.1.2.2)⟩⟩
    · rw [show (6 : Int) + ((2 : Nat) : Int) = 8 from rfl, h8, hz] at h
      exact ⟨h.1.1, h.1.2.1, Or.inl ⟨(hm h.1.2.1).mp h.2, Or.inr (Or.inr h.1.2.2)⟩⟩
    · rw [show (6 : Int) + ((3 : Nat) : Int) = 9 from rfl, h9, hz] at h
      exact ⟨h.1.1, h.1.2.1, Or.inr ⟨h.1.2.2.1, h.1.2.2.2, (ht h.1.2.1).mp h.2⟩⟩
  · rintro ⟨h1, h2, (⟨e, f | f | f⟩ | ⟨e, f, g⟩)⟩
    · refine ⟨0, by decide, ?_⟩
      rw [show (6 : Int) + ((0 : Nat) : Int) = 6 from rfl, h6, hz]
      exact ⟨⟨h1, h2, f⟩, (hm h2).mpr e⟩
    · refine ⟨1, by decide, ?_⟩
      rw [show (6 : Int) + ((1 : Nat) : Int) = 7 from rfl, h7, hz]
      exact ⟨⟨h1, h2, f⟩, (hm h2).mpr e⟩
    · refine ⟨2, by decide, ?_⟩
      rw [show (6 : Int) + ((2 : Nat) : Int) = 8 from rfl, h8, hz]
      exact ⟨⟨h1, h2, f⟩, (hm h2).mpr e⟩
    · refine ⟨3, by decide, ?_⟩
      rw [show (6 : Int) + ((3 : Nat) : Int) = 9 from rfl, h9, hz]
      exact ⟨⟨h1, h2, e, f⟩, (ht h2).mpr g⟩
theorem opM_has {S : SS} (hV : VS S) {l r : Int} (l0 : 0 ≤ l) (l1 : l < S 20 4) (r0 : 0 ≤ r) (r1 : r < S 20 1) {s : Int} (s0 : 0 ≤ s) (s1 : s < 30) : (bHas (opM S l r) (iI s) = true) ↔ sPl S l s r = 0 := by
  have hs : ((s.toNat : Nat) : Int) = s := by omega
  unfold opM
  rw [← hs, bHas_and _ _ (by omega), m1_i, bHas_not _ (by omega), all_has ⟨s.toNat, by omega⟩, Bool.true_and, hs, sPl_0]
  have h1 : (bHas (boK S (KS S l) l r 0 6) (iI s) = true) ↔ ∃ b : Nat, b < 6 ∧ brP S l r s b := by
    unfold boK
    rw [← hs, bHas_orN _ (by omega)]
    constructor
    · rintro ⟨b, hb, h⟩
      rw [Int.zero_add] at h
      exact ⟨b, hb, (baM_has hV l0 l1 r0 r1 (by omega) b (by omega)).mp h⟩
    · rintro ⟨b, hb, h⟩
      refine ⟨b, hb, ?_⟩
      rw [Int.zero_add]
      exact (baM_has hV l0 l1 r0 r1 (by omega) b (by omega)).mpr h
  cases c : bHas (boK S (KS S l) l r 0 6) (iI s)
  · rw [c] at h1
    exact ⟨fun _ b hb h => absurd (h1.mpr ⟨b, hb, h⟩) (by decide), fun _ => rfl⟩
  · obtain ⟨b, hb, h⟩ := h1.mp c
    exact ⟨fun q => absurd q (by decide), fun q => absurd h (q b hb)⟩
