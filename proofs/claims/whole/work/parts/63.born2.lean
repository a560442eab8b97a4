/-! PURE LAYER: what an add leaves behind is canonical (class) -/
def nwC (k0 : Nat) (n : Int) (k : Nat) (i : Int) : Prop := i = n ∧ (k = k0 ∨ k0 = 2 ∧ k = 3 ∨ k0 = 5 ∧ 6 ≤ k ∧ k ≤ 9)
theorem adA_b {A : AA} {k0 : Nat} {n q : Int} {o b k : Nat} {i : Int} (hk : k0 = 1 ∨ k0 = 2 ∨ k0 = 4 ∨ k0 = 5) (h : nwC k0 n k i) : adA A k0 n o q b k i = o + (if k = k0 then 0 else if k = 3 then 1 else k - 5) := by
  obtain ⟨rfl, h⟩ := h
  unfold adA
  by_cases c : k = k0
  · rw [if_pos ⟨c, rfl⟩, if_pos c]
    rfl
  · rw [if_neg (fun z => c z.1), if_neg c]
    by_cases d : k = 12
    · omega
    · rw [if_neg (fun z => d z.1)]
      by_cases e : k = 3
      · rw [if_pos ⟨by omega, e, rfl⟩, if_pos e]
      · rw [if_neg (fun z => e z.2.1), if_neg e, if_pos ⟨by omega, by omega, rfl⟩]
theorem AL_ad {A : AA} {S S2 : SS} {q : Int} {k0 : Nat} {n : Int} {o z1 b : Nat} (hA : GA A) (hk : k0 = 1 ∨ k0 = 2 ∨ k0 = 4 ∨ k0 = 5) (hn : ¬ live S k0 n) (hold : ∀ k i, live S k i → A k i < o) (hz1 : o < z1 ∧ (k0 = 2 → o + 2 ≤ z1) ∧ (k0 = 5 → o + 5 ≤ z1)) (hlv : ∀ k i, live S2 k i → ¬ (k = 12 ∧ i = q) → ¬ nwC k0 n k i → live S k i) (hnw : ∀ k i, live S k i → ¬ nwC k0 n k i) (hb : b = z1 ∨ live S 12 q ∧ b = A 12 q) : AL (adA A k0 n o q b) S2 ∧ ∀ k i, live S2 k i → adA A k0 n o q b k i = A k i ∧ live S k i ∨ o ≤ adA A k0 n o q b k i := by
  have key : ∀ k i, live S2 k i → (live S k i ∧ ¬ nwC k0 n k i ∧ adA A k0 n o q b k i = A k i) ∨ (nwC k0 n k i ∧ adA A k0 n o q b k i = o + (if k = k0 then 0 else if k = 3 then 1 else k - 5)) ∨ (k = 12 ∧ i = q ∧ adA A k0 n o q b k i = z1) := by
    intro k i hl
    by_cases c : nwC k0 n k i
    · exact Or.inr (Or.inl ⟨c, adA_b hk c⟩)
    · by_cases d : k = 12 ∧ i = q
      · obtain ⟨rfl, rfl⟩ := d
        have e : adA A k0 n o i b 12 i = b := adA_q (by omega)
        rcases hb with hb | hb
        · exact Or.inr (Or.inr ⟨rfl, rfl, by rw [e, hb]⟩)
        · exact Or.inl ⟨hb.1, c, by rw [e, hb.2]⟩
      · refine Or.inl ⟨hlv k i hl d c, c, adA_o d ?_⟩
        by_cases g : i = n
        · right
          unfold nwC at c
          omega
        · exact Or.inl g
  refine ⟨fun k k2 i i2 h1 h2 e => ?_, fun k i hl => ?_⟩
  · rcases key k i h1 with ⟨a1, a2, a3⟩ | ⟨a1, a2⟩ | ⟨a1, a2, a3⟩
    · rcases key k2 i2 h2 with ⟨b1, b2, b3⟩ | ⟨b1, b2⟩ | ⟨b1, b2, b3⟩
      · rw [a3, b3] at e
        exact hA k k2 i i2 (Nat.lt_succ_of_lt a1.1) (Nat.lt_succ_of_lt b1.1) a1.2.1 b1.2.1 e
      · have := hold k i a1
        rw [a3, b2] at e
        omega
      · have := hold k i a1
        rw [a3, b3] at e
        omega
    · rcases key k2 i2 h2 with ⟨b1, b2, b3⟩ | ⟨b1, b2⟩ | ⟨b1, b2, b3⟩
      · have := hold k2 i2 b1
        rw [b3, a2] at e
        omega
      · rw [a2, b2] at e
        obtain ⟨r1, r2⟩ := a1
        obtain ⟨s1, s2⟩ := b1
        refine ⟨?_, by omega⟩
        split at e <;> split at e <;> (try split at e) <;> (try split at e) <;> omega
      · rw [a2, b3] at e
        obtain ⟨r1, r2⟩ := a1
        exfalso
        split at e
        · omega
        · split at e <;> omega
    · rcases key k2 i2 h2 with ⟨b1, b2, b3⟩ | ⟨b1, b2⟩ | ⟨b1, b2, b3⟩
      · have := hold k2 i2 b1
        rw [b3, a3] at e
        omega
      · rw [a3, b2] at e
        obtain ⟨r1, r2⟩ := b1
        exfalso
        split at e
        · omega
        · split at e <;> omega
      · exact ⟨by omega, by omega⟩
  · rcases key k i hl with ⟨a1, a2, a3⟩ | ⟨a1, a2⟩ | ⟨a1, a2, a3⟩
    · exact Or.inl ⟨a3, a1⟩
    · exact Or.inr (by omega)
    · exact Or.inr (by omega)
