/-! PURE LAYER: the invariant through the makers -/
theorem GI_aR {S : SS} (h : GI S) {a b c : Int} (ha : 0 ≤ a ∧ a ≤ 2) (hb : 0 ≤ b ∧ b ≤ 3) (hc : 1 ≤ c ∧ c ≤ 99) (h2 : S 20 1 < 8) : GI (upS (upS (upS (upS S 0 (S 20 1) a) 1 (S 20 1) b) 2 (S 20 1) c) 20 1 (S 20 1 + 1)) := by
  sorry
theorem GI_aT {S : SS} (h : GI S) {a : Int} (ha : 0 ≤ a ∧ a ≤ 31) (h2 : S 20 2 < 8) : GI (upS (upS S 3 (S 20 2) a) 20 2 (S 20 2 + 1)) := by
  sorry
theorem GI_aG {S : SS} (h : GI S) {a : Int} (ha : 1 ≤ a ∧ a ≤ 99) (h2 : S 20 3 < 8) : GI (upS (upS S 5 (S 20 3) a) 20 3 (S 20 3 + 1)) := by
  sorry
theorem GI_aL {S : SS} (h : GI S) {a b c d e : Int} (ha : 0 ≤ a ∧ a < S 20 3) (hb : 0 ≤ b ∧ b < S 20 2) (hc : 0 ≤ c ∧ c ≤ 3) (hd : 1 ≤ d ∧ d ≤ 3) (he : 0 ≤ e ∧ e ≤ 9) (h2 : S 20 4 < 16) : GI (upS (upS (upS (upS (upS (upS S 9 (S 20 4) a) 10 (S 20 4) b) 11 (S 20 4) c) 12 (S 20 4) d) 13 (S 20 4) e) 20 4 (S 20 4 + 1)) := by
  sorry
theorem aL_sm {S : SS} {a b c d e n : Int} (h14 : S 14 n = -1) : Sm (upS (upS (upS (upS (upS (upS (upS S 9 n a) 10 n b) 11 n c) 12 n d) 13 n e) 14 n (-1)) 20 4 (n + 1)) (upS (upS (upS (upS (upS (upS S 9 n a) 10 n b) 11 n c) 12 n d) 13 n e) 20 4 (n + 1)) := by
  have e1 : upS (upS (upS (upS (upS (upS S 9 n a) 10 n b) 11 n c) 12 n d) 13 n e) 14 n (-1) = upS (upS (upS (upS (upS S 9 n a) 10 n b) 11 n c) 12 n d) 13 n e := by
    have h := upN (S := upS (upS (upS (upS (upS S 9 n a) 10 n b) 11 n c) 12 n d) 13 n e) (f := 14) (i := n)
    have h2 : upS (upS (upS (upS (upS S 9 n a) 10 n b) 11 n c) 12 n d) 13 n e 14 n = -1 := h14
    rw [h2] at h
    exact h
  rw [e1]
  exact Sm.rfl
