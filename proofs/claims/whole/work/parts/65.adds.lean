/-! PURE LAYER: the adds, done (class) -/
theorem live_ad {S S2 : SS} (hm : Bm S) {q : Int} (q0 : 0 ≤ q) (q1 : q < 4) (hS : lcnt S2 q = lcnt S q + 1) (hS2 : ∀ j, 0 ≤ j → j < 4 → j ≠ q → lcnt S2 j = lcnt S j) : (∀ k i, live S2 k i → ¬ (k = 12 ∧ i = q) → ¬ nwC (okind q) (lcnt S q) k i → live S k i) ∧ (∀ k i, live S k i → ¬ nwC (okind q) (lcnt S q) k i) := by
  have hb := lcnt_b hm q0 q1
  have h0 : lcnt S2 0 = S2 20 2 := rfl
  have h1 : lcnt S2 1 = S2 20 1 := rfl
  have h2 : lcnt S2 2 = S2 20 3 := rfl
  have h3 : lcnt S2 3 = S2 20 4 := rfl
  have g0 : lcnt S 0 = S 20 2 := rfl
  have g1 : lcnt S 1 = S 20 1 := rfl
  have g2 : lcnt S 2 = S 20 3 := rfl
  have g3 : lcnt S 3 = S 20 4 := rfl
  have key : ∀ k, k < 26 → ∀ i : Int, 0 ≤ i → (i < numK S2 k → ¬ nwC (okind q) (lcnt S q) k i → i < numK S k) ∧ (i < numK S k → ¬ nwC (okind q) (lcnt S q) k i) := by
    rcases (show q = 0 ∨ q = 1 ∨ q = 2 ∨ q = 3 by omega) with rfl | rfl | rfl | rfl
    · have w1 := hS2 1 (by decide) (by decide) (by decide)
      have w2 := hS2 2 (by decide) (by decide) (by decide)
      have w3 := hS2 3 (by decide) (by decide) (by decide)
      have ok : okind 0 = 2 := rfl
      rw [ok]
      unfold nwC
      refine lt26 ?_ ?_ ?_ ?_ ?_ ?_ ?_ ?_ ?_ ?_ ?_ ?_ ?_ ?_ ?_ ?_ ?_ ?_ ?_ ?_ ?_ ?_ ?_ ?_ ?_ ?_ <;> (intro i hi; refine ⟨fun u w => ?_, fun u w => ?_⟩ <;> simp only [numK] at u ⊢ <;> simp (config := { failIfUnchanged := false }) at w <;> omega)
    · have w1 := hS2 0 (by decide) (by decide) (by decide)
      have w2 := hS2 2 (by decide) (by decide) (by decide)
      have w3 := hS2 3 (by decide) (by decide) (by decide)
      have ok : okind 1 = 1 := rfl
      rw [ok]
      unfold nwC
      refine lt26 ?_ ?_ ?_ ?_ ?_ ?_ ?_ ?_ ?_ ?_ ?_ ?_ ?_ ?_ ?_ ?_ ?_ ?_ ?_ ?_ ?_ ?_ ?_ ?_ ?_ ?_ <;> (intro i hi; refine ⟨fun u w => ?_, fun u w => ?_⟩ <;> simp only [numK] at u ⊢ <;> simp (config := { failIfUnchanged := false }) at w <;> omega)
    · have w1 := hS2 1 (by decide) (by decide) (by decide)
      have w2 := hS2 0 (by decide) (by decide) (by decide)
      have w3 := hS2 3 (by decide) (by decide) (by decide)
      have ok : okind 2 = 4 := rfl
      rw [ok]
      unfold nwC
      refine lt26 ?_ ?_ ?_ ?_ ?_ ?_ ?_ ?_ ?_ ?_ ?_ ?_ ?_ ?_ ?_ ?_ ?_ ?_ ?_ ?_ ?_ ?_ ?_ ?_ ?_ ?_ <;> (intro i hi; refine ⟨fun u w => ?_, fun u w => ?_⟩ <;> simp only [numK] at u ⊢ <;> simp (config := { failIfUnchanged := false }) at w <;> omega)
    · have w1 := hS2 1 (by decide) (by decide) (by decide)
      have w2 := hS2 2 (by decide) (by decide) (by decide)
      have w3 := hS2 0 (by decide) (by decide) (by decide)
      have ok : okind 3 = 5 := rfl
      rw [ok]
      unfold nwC
      refine lt26 ?_ ?_ ?_ ?_ ?_ ?_ ?_ ?_ ?_ ?_ ?_ ?_ ?_ ?_ ?_ ?_ ?_ ?_ ?_ ?_ ?_ ?_ ?_ ?_ ?_ ?_ <;> (intro i hi; refine ⟨fun u w => ?_, fun u w => ?_⟩ <;> simp only [numK] at u ⊢ <;> simp (config := { failIfUnchanged := false }) at w <;> omega)
  refine ⟨fun k i hl c1 c2 => ⟨hl.1, hl.2.1, ((key k hl.1 i hl.2.1).1 hl.2.2.1 c2), fun e => ?_⟩, fun k i hl => (key k hl.1 i hl.2.1).2 hl.2.2.1⟩
  have l4 := hl.2.2.2 e
  subst e
  have l3 : i < 4 := hl.2.2.1
  rw [hS2 i hl.2.1 l3 (fun e => c1 ⟨rfl, e⟩)] at l4
  exact l4
def Fr (A : AA) (P : Hp) (S : SS) (z : Nat × Nat) : Prop := (∀ k i, live S k i → A k i < z.1) ∧ (∀ k i, k < 27 → 0 ≤ i → ¬ live S k i → ¬ (k = 26 ∧ i = 0) → z.1 + 100 ≤ A k i) ∧ z.2 = A 26 0 ∧ P (A 26 0) = some ce0 ∧ A 26 0 < z.1 ∧ ∀ x, z.1 ≤ x → P x = none
theorem Fr.no {A : AA} {P : Hp} {S : SS} {z : Nat × Nat} (h : Fr A P S z) {j : Nat} (hj : j < 100) : ∀ (k : Nat) (i : Int), k < 27 → 0 ≤ i → A k i ≠ z.1 + j := by
  intro k i hk hi e
  by_cases c : live S k i
  · have := h.1 k i c
    omega
  · by_cases d : k = 26 ∧ i = 0
    · have := h.2.2.2.2.1
      obtain ⟨rfl, rfl⟩ := d
      omega
    · have := h.2.1 k i hk hi c d
      omega
theorem x_stL {R : Type} {out : Nat} {f : Nat → Int64} {v : Int} {Kc : OO R} {hs : Hs} (h1 : hs.1 out = some (aL 1 f)) : stL (some out) (iI 0) (iI v).toInt64 Kc hs = Kc (hset hs.1 out (aL 1 (vp_updL f 0 (iI v).toInt64)), hs.2) := by
  have h2 : ¬ (iI 0 < 0 ∨ 1 ≤ (iI 0).toNatClampNeg) := by decide
  simp only [stL, h1, h2, true_and, not_false_eq_true, if_true]
  rfl
