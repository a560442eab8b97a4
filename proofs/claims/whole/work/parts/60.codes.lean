/-! PURE LAYER: the addresses of what is not yet born are free (class) -/
def CH (A : AA) (S : SS) (K : KK) (h : Hp) : Prop := ∀ k i, live S k i → h (A k i) = some (cell A S K k i)
def AL (A : AA) (S : SS) : Prop := ∀ k k2 i i2, live S k i → live S k2 i2 → A k i = A k2 i2 → k = k2 ∧ i = i2
theorem CH_Hc {A : AA} {P : Hp} {S : SS} {K : KK} (hA : GA A) : CH A S K (Hc A P S K) := fun _ _ hl => hc_at hA hl
theorem AL_GA {A : AA} {S : SS} (hA : GA A) : AL A S := fun k k2 i i2 h1 h2 e => hA k k2 i i2 (Nat.lt_succ_of_lt h1.1) (Nat.lt_succ_of_lt h2.1) h1.2.1 h2.2.1 e
theorem capN_pos (n : Int) : capN n ≠ 0 := by
  unfold capN
  split
  · decide
  · split <;> decide
theorem ce0_no {A : AA} {S : SS} {K : KK} {k : Nat} {i : Int} : cell A S K k i ≠ ce0 := by
  unfold cell ce0
  intro z
  split at z <;> first
    | cases z; done
    | (injection z with z; injection z with z1 z; injection z with z2 z; exact capN_pos _ z2)
    | (injection z with z; injection z with z1 z; exact absurd z1 (by decide))
theorem lv1 {S : SS} {k : Nat} {i : Int} (h : k < 26) (h0 : 0 ≤ i) (h1 : i < numK S k) (h2 : k ≠ 12) : live S k i := ⟨h, h0, h1, fun e => absurd e h2⟩
theorem cell_A {A A2 : AA} {S : SS} {K : KK} (hV : VS S) (h : ∀ k i, live S k i → A2 k i = A k i) (he : A2 26 0 = A 26 0) {k : Nat} {i : Int} (hl : live S k i) : cell A2 S K k i = cell A S K k i := by
  obtain ⟨hb, hm, hv⟩ := hV
  have hm2 := hm
  unfold Bm at hm2
  obtain ⟨l0, l1, l2, l3⟩ := hl
  have h1 : ∀ k, k < 26 → numK S k = 1 → k ≠ 12 → A2 k 0 = A k 0 := fun k a b c => h k 0 (lv1 a (by decide) (by rw [b]; decide) c)
  unfold cell
  split
  · rw [h 11 0 (lv1 (by decide) (by decide) (by show (0:Int) < 4; decide) (by decide)), h1 13 (by decide) rfl (by decide), h1 14 (by decide) rfl (by decide), h1 15 (by decide) rfl (by decide), h1 16 (by decide) rfl (by decide), h1 17 (by decide) rfl (by decide), h1 18 (by decide) rfl (by decide), h1 19 (by decide) rfl (by decide)]
  · rfl
  · unfold cTea
    rw [h 3 i (lv1 (by decide) l1 l2 (by decide))]
  · rfl
  · rfl
  · have hw := hv i l1 l2
    have hbi := hb i
    unfold cLes
    have n5 : i < S 20 4 := l2
    rw [h 4 (S 9 i) (lv1 (by decide) (by omega) (by show S 9 i < S 20 3; omega) (by decide)), h 2 (S 10 i) (lv1 (by decide) (by omega) (by show S 10 i < S 20 2; omega) (by decide)), h 6 i (lv1 (by decide) l1 n5 (by decide)), h 7 i (lv1 (by decide) l1 n5 (by decide)), h 8 i (lv1 (by decide) l1 n5 (by decide)), h 9 i (lv1 (by decide) l1 n5 (by decide))]
    by_cases c : S 14 i < 0
    · simp only [if_pos c]
    · simp only [if_neg c]
      rw [h 1 (S 14 i % 8) (lv1 (by decide) (by omega) (by show S 14 i % 8 < S 20 1; exact (hw.2.2.2 (by omega)).1) (by decide))]
  · rfl
  · rw [he]
    by_cases c : lcnt S i = 0
    · rw [if_pos c, if_pos c]
    · have hp : 0 < lcnt S i := by
        have : 0 ≤ lcnt S i := by
          unfold lcnt
          split
          · omega
          · split
            · omega
            · split <;> omega
        omega
      rw [if_neg c, if_neg c, h 12 i ⟨by decide, l1, l2, fun _ => hp⟩]
  · refine congrArg (aR 4 _) (funext fun j => ?_)
    by_cases c : (j : Int) < lcnt S i
    · rw [if_pos c, if_pos c]
      refine congrArg some (h _ _ ?_)
      have l4 : i < 4 := l2
      unfold lcnt at c
      unfold okind
      rcases (show i = 0 ∨ i = 1 ∨ i = 2 ∨ i = 3 by omega) with rfl | rfl | rfl | rfl
      · exact lv1 (by decide) (by omega) c (by decide)
      · exact lv1 (by decide) (by omega) c (by decide)
      · exact lv1 (by decide) (by omega) c (by decide)
      · exact lv1 (by decide) (by omega) c (by decide)
    · rw [if_neg c, if_neg c]
  · rw [h 11 1 (lv1 (by decide) (by decide) (by show (1:Int) < 4; decide) (by decide)), h 11 2 (lv1 (by decide) (by decide) (by show (2:Int) < 4; decide) (by decide)), h 11 3 (lv1 (by decide) (by decide) (by show (3:Int) < 4; decide) (by decide)), h1 20 (by decide) rfl (by decide), h1 21 (by decide) rfl (by decide)]
  · rw [h1 22 (by decide) rfl (by decide)]
  · rw [h1 23 (by decide) rfl (by decide), h1 24 (by decide) rfl (by decide)]
  · rw [h1 25 (by decide) rfl (by decide)]
  · refine congrArg (aR 5 6) (funext fun j => ?_)
    by_cases c : j < 6
    · rw [if_pos c, if_pos c, h 10 j (lv1 (by decide) (by omega) (by show ((j : Int)) < 6; omega) (by decide))]
    · rw [if_neg c, if_neg c]
  all_goals rfl
theorem re_A {A : AA} {S : SS} {K : KK} {h : Hp} {B : Nat} (hV : VS S) (ha : AL A S) (hc : CH A S K h) (he : h (A 26 0) = some ce0) (hB : Bd h B) : ∃ A2 : AA, GA A2 ∧ (∀ k i, live S k i → A2 k i = A k i) ∧ A2 26 0 = A 26 0 ∧ (∀ k i, k < 27 → 0 ≤ i → ¬ live S k i → ¬ (k = 26 ∧ i = 0) → B ≤ A2 k i) ∧ h = Hc A2 h S K := by
  let A2 : AA := fun k i => @ite _ (live S k i ∨ (k = 26 ∧ i = 0)) (Classical.propDecidable _) (A k i) (B + (27 * i.toNat + k))
  have a1 : ∀ k i, live S k i → A2 k i = A k i := fun k i hl => if_pos (Or.inl hl)
  have a2 : A2 26 0 = A 26 0 := if_pos (Or.inr ⟨rfl, rfl⟩)
  have a3 : ∀ k i, ¬ live S k i → ¬ (k = 26 ∧ i = 0) → A2 k i = B + (27 * i.toNat + k) := fun k i h1 h2 => if_neg (fun z => z.elim h1 h2)
  have b1 : ∀ k i, live S k i → A2 k i < B := fun k i hl => by rw [a1 k i hl]; exact hB _ _ (hc k i hl)
  have b2 : A2 26 0 < B := by rw [a2]; exact hB _ _ he
  have b3 : ∀ k i, live S k i → A2 k i ≠ A2 26 0 := fun k i hl e => by
    rw [a1 k i hl, a2] at e
    have := hc k i hl
    rw [e, he] at this
    injection this with this
    exact ce0_no this.symm
  have n26 : ∀ i, ¬ live S 26 i := fun i hl => absurd hl.1 (by decide)
  have hG : GA A2 := by
    intro k k2 i i2 hk hk2 h0 h2 e
    by_cases c1 : live S k i
    · by_cases c2 : live S k2 i2
      · rw [a1 k i c1, a1 k2 i2 c2] at e
        exact ha k k2 i i2 c1 c2 e
      · by_cases d2 : k2 = 26 ∧ i2 = 0
        · obtain ⟨rfl, rfl⟩ := d2
          exact absurd e (b3 k i c1)
        · have := b1 k i c1
          rw [e, a3 k2 i2 c2 d2] at this
          omega
    · by_cases d1 : k = 26 ∧ i = 0
      · obtain ⟨rfl, rfl⟩ := d1
        by_cases c2 : live S k2 i2
        · exact absurd e.symm (b3 k2 i2 c2)
        · by_cases d2 : k2 = 26 ∧ i2 = 0
          · exact ⟨d2.1.symm, d2.2.symm⟩
          · have := b2
            rw [e, a3 k2 i2 c2 d2] at this
            omega
      · by_cases c2 : live S k2 i2
        · have := b1 k2 i2 c2
          rw [← e, a3 k i c1 d1] at this
          omega
        · by_cases d2 : k2 = 26 ∧ i2 = 0
          · obtain ⟨rfl, rfl⟩ := d2
            have := b2
            rw [← e, a3 k i c1 d1] at this
            omega
          · rw [a3 k i c1 d1, a3 k2 i2 c2 d2] at e
            omega
  refine ⟨A2, hG, a1, a2, fun k i hk h0 h1 h2 => ?_, ?_⟩
  · rw [a3 k i h1 h2]
    omega
  · refine hc_ext (fun k i hl => ?_) (fun q _ => rfl) hG
    rw [a1 k i hl, hc k i hl, cell_A hV a1 a2 hl]
