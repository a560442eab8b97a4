/-! PURE LAYER: the writes of the school itself (class) -/
theorem cell_S4 {A : AA} {S : SS} {K : KK} {t : Int} {x : Int} {k : Nat} {i : Int} (h : ¬ (k = 2 ∧ i = t)) : cell A (upS S 4 t x) K k i = cell A S K k i := by
  have e : ∀ g, g ≠ 4 → upS S 4 t x g = S g := fun g hg => upS_g hg
  have el : ∀ i, lcnt (upS S 4 t x) i = lcnt S i := fun i => by
    unfold lcnt
    rw [e 20 (by decide)]
  unfold cell
  split <;> (try simp only [cRoom, cTea, cLes, el, e 0 (by decide), e 1 (by decide), e 2 (by decide), e 3 (by decide), e 5 (by decide), e 6 (by decide), e 7 (by decide), e 8 (by decide), e 9 (by decide), e 10 (by decide), e 11 (by decide), e 12 (by decide), e 13 (by decide), e 14 (by decide), e 15 (by decide), e 16 (by decide), e 20 (by decide)])
  rw [upS_i (fun q => h ⟨rfl, q⟩)]
theorem cell_S3 {A : AA} {S : SS} {K : KK} {t : Int} {x : Int} {k : Nat} {i : Int} (h : ¬ (k = 2 ∧ i = t)) : cell A (upS S 3 t x) K k i = cell A S K k i := by
  have e : ∀ g, g ≠ 3 → upS S 3 t x g = S g := fun g hg => upS_g hg
  have el : ∀ i, lcnt (upS S 3 t x) i = lcnt S i := fun i => by
    unfold lcnt
    rw [e 20 (by decide)]
  unfold cell
  split <;> (try simp only [cRoom, cTea, cLes, el, e 0 (by decide), e 1 (by decide), e 2 (by decide), e 4 (by decide), e 5 (by decide), e 6 (by decide), e 7 (by decide), e 8 (by decide), e 9 (by decide), e 10 (by decide), e 11 (by decide), e 12 (by decide), e 13 (by decide), e 14 (by decide), e 15 (by decide), e 16 (by decide), e 20 (by decide)])
  rw [upS_i (fun q => h ⟨rfl, q⟩)]
theorem cell_S7 {A : AA} {S : SS} {K : KK} {t : Int} {x : Int} {k : Nat} {i : Int} (h : ¬ (k = 1 ∧ i = t)) : cell A (upS S 7 t x) K k i = cell A S K k i := by
  have e : ∀ g, g ≠ 7 → upS S 7 t x g = S g := fun g hg => upS_g hg
  have el : ∀ i, lcnt (upS S 7 t x) i = lcnt S i := fun i => by
    unfold lcnt
    rw [e 20 (by decide)]
  unfold cell
  split <;> (try simp only [cRoom, cTea, cLes, el, e 0 (by decide), e 1 (by decide), e 2 (by decide), e 3 (by decide), e 4 (by decide), e 5 (by decide), e 6 (by decide), e 8 (by decide), e 9 (by decide), e 10 (by decide), e 11 (by decide), e 12 (by decide), e 13 (by decide), e 14 (by decide), e 15 (by decide), e 16 (by decide), e 20 (by decide)])
  rw [upS_i (fun q => h ⟨rfl, q⟩)]
theorem cell_S8 {A : AA} {S : SS} {K : KK} {t : Int} {x : Int} {k : Nat} {i : Int} (h : ¬ (k = 5 ∧ i = t)) : cell A (upS S 8 t x) K k i = cell A S K k i := by
  have e : ∀ g, g ≠ 8 → upS S 8 t x g = S g := fun g hg => upS_g hg
  have el : ∀ i, lcnt (upS S 8 t x) i = lcnt S i := fun i => by
    unfold lcnt
    rw [e 20 (by decide)]
  unfold cell
  split <;> (try simp only [cRoom, cTea, cLes, el, e 0 (by decide), e 1 (by decide), e 2 (by decide), e 3 (by decide), e 4 (by decide), e 5 (by decide), e 6 (by decide), e 7 (by decide), e 9 (by decide), e 10 (by decide), e 11 (by decide), e 12 (by decide), e 13 (by decide), e 14 (by decide), e 15 (by decide), e 16 (by decide), e 20 (by decide)])
  rw [upS_i (fun q => h ⟨rfl, q⟩)]
theorem cell_S6 {A : AA} {S : SS} {K : KK} {t j : Int} (j0 : 0 ≤ j) (j1 : j < 30) {x : Int} {k : Nat} {i : Int} (h : ¬ (k = 3 ∧ i = t)) : cell A (upS S 6 (30 * t + j) x) K k i = cell A S K k i := by
  have e : ∀ g, g ≠ 6 → upS S 6 (30 * t + j) x g = S g := fun g hg => upS_g hg
  have el : ∀ i, lcnt (upS S 6 (30 * t + j) x) i = lcnt S i := fun i => by
    unfold lcnt
    rw [e 20 (by decide)]
  unfold cell
  split <;> (try simp only [cRoom, cTea, cLes, el, e 0 (by decide), e 1 (by decide), e 2 (by decide), e 3 (by decide), e 4 (by decide), e 5 (by decide), e 7 (by decide), e 8 (by decide), e 9 (by decide), e 10 (by decide), e 11 (by decide), e 12 (by decide), e 13 (by decide), e 14 (by decide), e 15 (by decide), e 16 (by decide), e 20 (by decide)])
  congr 4
  funext q
  by_cases c : (q : Int) < 30
  · rw [if_pos c, if_pos c, upS_i (fun z => h ⟨rfl, by omega⟩)]
  · rw [if_neg c, if_neg c]
theorem cell_S16 {A : AA} {S : SS} {K : KK} {t j : Int} (j0 : 0 ≤ j) (j1 : j < 16) {x : Int} {k : Nat} {i : Int} (h : ¬ (k = 10 ∧ i = t)) : cell A (upS S 16 (16 * t + j) x) K k i = cell A S K k i := by
  have e : ∀ g, g ≠ 16 → upS S 16 (16 * t + j) x g = S g := fun g hg => upS_g hg
  have el : ∀ i, lcnt (upS S 16 (16 * t + j) x) i = lcnt S i := fun i => by
    unfold lcnt
    rw [e 20 (by decide)]
  unfold cell
  split <;> (try simp only [cRoom, cTea, cLes, el, e 0 (by decide), e 1 (by decide), e 2 (by decide), e 3 (by decide), e 4 (by decide), e 5 (by decide), e 6 (by decide), e 7 (by decide), e 8 (by decide), e 9 (by decide), e 10 (by decide), e 11 (by decide), e 12 (by decide), e 13 (by decide), e 14 (by decide), e 15 (by decide), e 20 (by decide)])
  congr 4
  funext q
  by_cases c : (q : Int) < 16
  · rw [if_pos c, if_pos c, upS_i (fun z => h ⟨rfl, by omega⟩)]
  · rw [if_neg c, if_neg c]
theorem cell_S15 {A : AA} {S : SS} {K : KK} {t x : Int} {k : Nat} {i : Int} (h : ¬ (k = 20 ∧ i = 0)) (hi : k = 20 → i = 0) : cell A (upS S 15 t x) K k i = cell A S K k i := by
  have e : ∀ g, g ≠ 15 → upS S 15 t x g = S g := fun g hg => upS_g hg
  have el : ∀ i, lcnt (upS S 15 t x) i = lcnt S i := fun i => by
    unfold lcnt
    rw [e 20 (by decide)]
  have h20 : k ≠ 20 := fun q => h ⟨q, hi q⟩
  unfold cell
  split <;> first | exact absurd rfl h20 | rfl | simp only [cRoom, cTea, cLes, el, e 0 (by decide), e 1 (by decide), e 2 (by decide), e 3 (by decide), e 4 (by decide), e 5 (by decide), e 6 (by decide), e 7 (by decide), e 8 (by decide), e 9 (by decide), e 10 (by decide), e 11 (by decide), e 12 (by decide), e 13 (by decide), e 14 (by decide), e 16 (by decide), e 20 (by decide)]
theorem cell_S20_6 {A : AA} {S : SS} {K : KK} {x : Int} {k : Nat} {i : Int} (h : k ≠ 13) : cell A (upS S 20 6 x) K k i = cell A S K k i := by
  have e : ∀ g, g ≠ 20 → upS S 20 6 x g = S g := fun g hg => upS_g hg
  have f : ∀ g : Int, g ≠ 6 → upS S 20 6 x 20 g = S 20 g := fun g hg => upS_i hg
  have el : ∀ i, lcnt (upS S 20 6 x) i = lcnt S i := fun i => by
    unfold lcnt
    rw [f 1 (by decide), f 2 (by decide), f 3 (by decide), f 4 (by decide)]
  unfold cell
  split <;> first | exact absurd rfl h | rfl | simp only [cRoom, cTea, cLes, el, e 0 (by decide), e 1 (by decide), e 2 (by decide), e 3 (by decide), e 4 (by decide), e 5 (by decide), e 6 (by decide), e 7 (by decide), e 8 (by decide), e 9 (by decide), e 10 (by decide), e 11 (by decide), e 12 (by decide), e 13 (by decide), e 14 (by decide), e 15 (by decide), e 16 (by decide), f 1 (by decide), f 2 (by decide), f 3 (by decide), f 4 (by decide), f 5 (by decide), f 7 (by decide)]
theorem live_S20_6 {S : SS} {x : Int} (k : Nat) (i : Int) : live (upS S 20 6 x) k i ↔ live S k i := by
  have f : ∀ g : Int, g ≠ 6 → upS S 20 6 x 20 g = S 20 g := fun g hg => upS_i hg
  have el : ∀ i, lcnt (upS S 20 6 x) i = lcnt S i := fun i => by
    unfold lcnt
    rw [f 1 (by decide), f 2 (by decide), f 3 (by decide), f 4 (by decide)]
  have en : numK (upS S 20 6 x) k = numK S k := by
    unfold numK
    split <;> first | rfl | exact f _ (by decide)
  unfold live
  rw [en, el]
theorem cell_S20_5 {A : AA} {S : SS} {K : KK} {x : Int} {k : Nat} {i : Int} (h : k ≠ 0) : cell A (upS S 20 5 x) K k i = cell A S K k i := by
  have e : ∀ g, g ≠ 20 → upS S 20 5 x g = S g := fun g hg => upS_g hg
  have f : ∀ g : Int, g ≠ 5 → upS S 20 5 x 20 g = S 20 g := fun g hg => upS_i hg
  have el : ∀ i, lcnt (upS S 20 5 x) i = lcnt S i := fun i => by
    unfold lcnt
    rw [f 1 (by decide), f 2 (by decide), f 3 (by decide), f 4 (by decide)]
  unfold cell
  split <;> first | exact absurd rfl h | rfl | simp only [cRoom, cTea, cLes, el, e 0 (by decide), e 1 (by decide), e 2 (by decide), e 3 (by decide), e 4 (by decide), e 5 (by decide), e 6 (by decide), e 7 (by decide), e 8 (by decide), e 9 (by decide), e 10 (by decide), e 11 (by decide), e 12 (by decide), e 13 (by decide), e 14 (by decide), e 15 (by decide), e 16 (by decide), f 1 (by decide), f 2 (by decide), f 3 (by decide), f 4 (by decide), f 6 (by decide), f 7 (by decide)]
theorem live_S20_5 {S : SS} {x : Int} (k : Nat) (i : Int) : live (upS S 20 5 x) k i ↔ live S k i := by
  have f : ∀ g : Int, g ≠ 5 → upS S 20 5 x 20 g = S 20 g := fun g hg => upS_i hg
  have el : ∀ i, lcnt (upS S 20 5 x) i = lcnt S i := fun i => by
    unfold lcnt
    rw [f 1 (by decide), f 2 (by decide), f 3 (by decide), f 4 (by decide)]
  have en : numK (upS S 20 5 x) k = numK S k := by
    unfold numK
    split <;> first | rfl | exact f _ (by decide)
  unfold live
  rw [en, el]
theorem cell_S20_7 {A : AA} {S : SS} {K : KK} {x : Int} {k : Nat} {i : Int} (h : k ≠ 0) : cell A (upS S 20 7 x) K k i = cell A S K k i := by
  have e : ∀ g, g ≠ 20 → upS S 20 7 x g = S g := fun g hg => upS_g hg
  have f : ∀ g : Int, g ≠ 7 → upS S 20 7 x 20 g = S 20 g := fun g hg => upS_i hg
  have el : ∀ i, lcnt (upS S 20 7 x) i = lcnt S i := fun i => by
    unfold lcnt
    rw [f 1 (by decide), f 2 (by decide), f 3 (by decide), f 4 (by decide)]
  unfold cell
  split <;> first | exact absurd rfl h | rfl | simp only [cRoom, cTea, cLes, el, e 0 (by decide), e 1 (by decide), e 2 (by decide), e 3 (by decide), e 4 (by decide), e 5 (by decide), e 6 (by decide), e 7 (by decide), e 8 (by decide), e 9 (by decide), e 10 (by decide), e 11 (by decide), e 12 (by decide), e 13 (by decide), e 14 (by decide), e 15 (by decide), e 16 (by decide), f 1 (by decide), f 2 (by decide), f 3 (by decide), f 4 (by decide), f 5 (by decide), f 6 (by decide)]
theorem live_S20_7 {S : SS} {x : Int} (k : Nat) (i : Int) : live (upS S 20 7 x) k i ↔ live S k i := by
  have f : ∀ g : Int, g ≠ 7 → upS S 20 7 x 20 g = S 20 g := fun g hg => upS_i hg
  have el : ∀ i, lcnt (upS S 20 7 x) i = lcnt S i := fun i => by
    unfold lcnt
    rw [f 1 (by decide), f 2 (by decide), f 3 (by decide), f 4 (by decide)]
  have en : numK (upS S 20 7 x) k = numK S k := by
    unfold numK
    split <;> first | rfl | exact f _ (by decide)
  unfold live
  rw [en, el]
theorem w_acc {A : AA} {P : Hp} {S : SS} {K : KK} {z : Nat × Nat} {R : Type} (hA : GA A) {t : Int} (h0 : 0 ≤ t) (h1 : t < S 20 2) {x : Int} {Kc : OO R} : pI (some (A 2 t)) 10 2 (iI x) Kc (Hc A P S K, z) = Kc (Hc A P (upS S 4 t x) K, z) := by
  have hl : live S 2 t := ⟨by decide, h0, h1, fun h => absurd h (by decide)⟩
  unfold pI
  rw [x_pV (hc_at hA hl) (show 2 < 3 by decide)]
  congr 2
  refine hc_set hA hl (live_S (upS_g (by decide))) (fun k2 i2 _ _ hn => cell_S4 hn) ?_
  have e : ∀ g, g ≠ 4 → upS S 4 t x g = S g := fun g hg => upS_g hg
  show aO 10 _ = aO 10 (cTea A (upS S 4 t x) t)
  congr 2
  simp only [cTea, upS_s, List.set_cons_zero, List.set_cons_succ, List.set, e 3 (by decide)]
theorem w_off {A : AA} {P : Hp} {S : SS} {K : KK} {z : Nat × Nat} {R : Type} (hA : GA A) {t : Int} (h0 : 0 ≤ t) (h1 : t < S 20 2) {x : Int} {Kc : OO R} : pI (some (A 2 t)) 10 1 (offM x) Kc (Hc A P S K, z) = Kc (Hc A P (upS S 3 t x) K, z) := by
  have hl : live S 2 t := ⟨by decide, h0, h1, fun h => absurd h (by decide)⟩
  unfold pI
  rw [x_pV (hc_at hA hl) (show 1 < 3 by decide)]
  congr 2
  refine hc_set hA hl (live_S (upS_g (by decide))) (fun k2 i2 _ _ hn => cell_S3 hn) ?_
  have e : ∀ g, g ≠ 3 → upS S 3 t x g = S g := fun g hg => upS_g hg
  show aO 10 _ = aO 10 (cTea A (upS S 3 t x) t)
  congr 2
  simp only [cTea, upS_s, List.set_cons_zero, List.set_cons_succ, List.set, e 4 (by decide)]
theorem w_open {A : AA} {P : Hp} {S : SS} {K : KK} {z : Nat × Nat} {R : Type} (hA : GA A) {t : Int} (h0 : 0 ≤ t) (h1 : t < S 20 1) {x : Int} (hx : x = 0 ∨ x = 1) {Kc : OO R} : pZ (some (A 1 t)) 8 4 (iI x) Kc (Hc A P S K, z) = Kc (Hc A P (upS S 7 t (1 - x)) K, z) := by
  have hl : live S 1 t := ⟨by decide, h0, h1, fun h => absurd h (by decide)⟩
  unfold pZ
  rw [if_pos (by rcases hx with rfl | rfl; exact Or.inl li_0.symm; exact Or.inr li_1.symm)]
  rw [x_pV (hc_at hA hl) (show 4 < 5 by decide)]
  congr 2
  refine hc_set hA hl (live_S (upS_g (by decide))) (fun k2 i2 _ _ hn => cell_S7 hn) ?_
  have e : ∀ g, g ≠ 7 → upS S 7 t (1 - x) g = S g := fun g hg => upS_g hg
  show aO 8 _ = aO 8 (cRoom (upS S 7 t (1 - x)) t)
  congr 2
  simp only [cRoom, upS_s, List.set_cons_zero, List.set_cons_succ, List.set, e 0 (by decide), e 1 (by decide), e 2 (by decide)]
  rw [show 1 - (1 - x) = x by omega]
theorem w_lock {A : AA} {P : Hp} {S : SS} {K : KK} {z : Nat × Nat} {R : Type} (hA : GA A) {t : Int} (h0 : 0 ≤ t) (h1 : t < S 20 4) {x : Int} (hx : x = 0 ∨ x = 1) {Kc : OO R} : pZ (some (A 5 t)) 7 8 (iI x) Kc (Hc A P S K, z) = Kc (Hc A P (upS S 8 t x) K, z) := by
  have hl : live S 5 t := ⟨by decide, h0, h1, fun h => absurd h (by decide)⟩
  unfold pZ
  rw [if_pos (by rcases hx with rfl | rfl; exact Or.inl li_0.symm; exact Or.inr li_1.symm)]
  rw [x_pV (hc_at hA hl) (show 8 < 18 by decide)]
  congr 2
  refine hc_set hA hl (live_S (upS_g (by decide))) (fun k2 i2 _ _ hn => cell_S8 hn) ?_
  have e : ∀ g, g ≠ 8 → upS S 8 t x g = S g := fun g hg => upS_g hg
  show aO 7 _ = aO 7 (cLes A (upS S 8 t x) K t)
  congr 2
  simp only [cLes, upS_s, List.set_cons_zero, List.set_cons_succ, List.set, e 9 (by decide), e 10 (by decide), e 11 (by decide), e 12 (by decide), e 13 (by decide), e 14 (by decide)]
theorem w_today {A : AA} {P : Hp} {S : SS} {K : KK} {z : Nat × Nat} {R : Type} (hA : GA A) {x : Int} {Kc : OO R} : pI (some (A 13 0)) 9 5 (iI x) Kc (Hc A P S K, z) = Kc (Hc A P (upS S 20 6 x) K, z) := by
  have hl : live S 13 0 := ⟨by decide, by decide, by show (0 : Int) < 1; decide, fun h => absurd h (by decide)⟩
  unfold pI
  rw [x_pV (hc_at hA hl) (show 5 < 6 by decide)]
  congr 2
  refine hc_set hA hl live_S20_6 (fun k2 i2 _ h2 hn => cell_S20_6 (fun q => hn ⟨q, by have h3 := h2.2; rw [q] at h3; have h4 : numK S 13 = 1 := rfl; rw [h4] at h3; omega⟩)) ?_
  have f : ∀ g : Int, g ≠ 6 → upS S 20 6 x 20 g = S 20 g := fun g hg => upS_i hg
  show aO 9 _ = aO 9 _
  congr 2 <;> simp only [upS_s, List.set_cons_zero, List.set_cons_succ, List.set, f 1 (by decide), f 2 (by decide), f 3 (by decide), f 4 (by decide), f 5 (by decide), f 7 (by decide)]
theorem w_vcount {A : AA} {P : Hp} {S : SS} {K : KK} {z : Nat × Nat} {R : Type} (hA : GA A) {x : Int} {Kc : OO R} : pI (some (A 0 0)) 11 8 (iI x) Kc (Hc A P S K, z) = Kc (Hc A P (upS S 20 5 x) K, z) := by
  have hl : live S 0 0 := ⟨by decide, by decide, by show (0 : Int) < 1; decide, fun h => absurd h (by decide)⟩
  unfold pI
  rw [x_pV (hc_at hA hl) (show 8 < 10 by decide)]
  congr 2
  refine hc_set hA hl live_S20_5 (fun k2 i2 _ h2 hn => cell_S20_5 (fun q => hn ⟨q, by have h3 := h2.2; rw [q] at h3; have h4 : numK S 0 = 1 := rfl; rw [h4] at h3; omega⟩)) ?_
  have f : ∀ g : Int, g ≠ 5 → upS S 20 5 x 20 g = S 20 g := fun g hg => upS_i hg
  show aO 11 _ = aO 11 _
  congr 2 <;> simp only [upS_s, List.set_cons_zero, List.set_cons_succ, List.set, f 1 (by decide), f 2 (by decide), f 3 (by decide), f 4 (by decide), f 6 (by decide), f 7 (by decide)]
theorem w_weeks {A : AA} {P : Hp} {S : SS} {K : KK} {z : Nat × Nat} {R : Type} (hA : GA A) {x : Int} {Kc : OO R} : pI (some (A 0 0)) 11 9 (iI x) Kc (Hc A P S K, z) = Kc (Hc A P (upS S 20 7 x) K, z) := by
  have hl : live S 0 0 := ⟨by decide, by decide, by show (0 : Int) < 1; decide, fun h => absurd h (by decide)⟩
  unfold pI
  rw [x_pV (hc_at hA hl) (show 9 < 10 by decide)]
  congr 2
  refine hc_set hA hl live_S20_7 (fun k2 i2 _ h2 hn => cell_S20_7 (fun q => hn ⟨q, by have h3 := h2.2; rw [q] at h3; have h4 : numK S 0 = 1 := rfl; rw [h4] at h3; omega⟩)) ?_
  have f : ∀ g : Int, g ≠ 7 → upS S 20 7 x 20 g = S 20 g := fun g hg => upS_i hg
  show aO 11 _ = aO 11 _
  congr 2 <;> simp only [upS_s, List.set_cons_zero, List.set_cons_succ, List.set, f 1 (by decide), f 2 (by decide), f 3 (by decide), f 4 (by decide), f 5 (by decide), f 6 (by decide)]
theorem w_wish {A : AA} {P : Hp} {S : SS} {K : KK} {z : Nat × Nat} {R : Type} (hA : GA A) {t : Int} (h0 : 0 ≤ t) (h1 : t < S 20 2) {j : Int} (j0 : 0 ≤ j) (j1 : j < 30) {x : Int} {Kc : OO R} : stI (some (A 3 t)) (iI j) (iI x) Kc (Hc A P S K, z) = Kc (Hc A P (upS S 6 (30 * t + j) x) K, z) := by
  have hl : live S 3 t := ⟨by decide, h0, h1, fun h => absurd h (by decide)⟩
  rw [x_stI (hc_at hA hl) (iI_in j0 j1 (by omega))]
  congr 2
  refine hc_set hA hl (live_S (upS_g (by decide))) (fun k2 i2 _ _ hn => cell_S6 j0 j1 hn) ?_
  show _ = aI 0 30 _
  congr 4
  funext q
  have hj := toNat_i j0 (show j < 2147483648 by omega)
  simp only [upd]
  by_cases c : (q : Int) < 30
  · rw [if_pos c]
    by_cases hq : q = (iI j).toNatClampNeg
    · rw [if_pos hq, show (q : Int) = j by omega, upS_s, if_pos j1]
    · rw [if_neg hq, if_pos c, upS_i (by omega)]
  · rw [if_neg c, if_neg (by omega), if_neg c]
theorem w_kept {A : AA} {P : Hp} {S : SS} {K : KK} {z : Nat × Nat} {R : Type} (hA : GA A) {t : Int} (h0 : 0 ≤ t) (h1 : t < 6) {j : Int} (j0 : 0 ≤ j) (j1 : j < 16) {x : Int} {Kc : OO R} : stI (some (A 10 t)) (iI j) (iI x) Kc (Hc A P S K, z) = Kc (Hc A P (upS S 16 (16 * t + j) x) K, z) := by
  have hl : live S 10 t := ⟨by decide, h0, h1, fun h => absurd h (by decide)⟩
  rw [x_stI (hc_at hA hl) (iI_in j0 j1 (by omega))]
  congr 2
  refine hc_set hA hl (live_S (upS_g (by decide))) (fun k2 i2 _ _ hn => cell_S16 j0 j1 hn) ?_
  show _ = aI 0 16 _
  congr 4
  funext q
  have hj := toNat_i j0 (show j < 2147483648 by omega)
  simp only [upd]
  by_cases c : (q : Int) < 16
  · rw [if_pos c]
    by_cases hq : q = (iI j).toNatClampNeg
    · rw [if_pos hq, show (q : Int) = j by omega, upS_s, if_pos j1]
    · rw [if_neg hq, if_pos c, upS_i (by omega)]
  · rw [if_neg c, if_neg (by omega), if_neg c]
theorem w_weight {A : AA} {P : Hp} {S : SS} {K : KK} {z : Nat × Nat} {R : Type} (hA : GA A) {j : Int} (j0 : 0 ≤ j) (j1 : j < 4) {x : Int} {Kc : OO R} : stI (some (A 20 0)) (iI j) (iI x) Kc (Hc A P S K, z) = Kc (Hc A P (upS S 15 j x) K, z) := by
  have hl : live S 20 0 := ⟨by decide, by decide, by show (0 : Int) < 1; decide, fun h => absurd h (by decide)⟩
  rw [x_stI (hc_at hA hl) (iI_in j0 j1 (by omega))]
  congr 2
  refine hc_set hA hl (live_S (upS_g (by decide))) (fun k2 i2 _ h2 hn => cell_S15 hn (fun q => by have h3 := h2.2; rw [q] at h3; have h4 : numK S 20 = 1 := rfl; rw [h4] at h3; omega)) ?_
  show _ = aI 0 4 _
  congr 4
  funext q
  have hj := toNat_i j0 (show j < 2147483648 by omega)
  simp only [upd]
  by_cases hq : q = (iI j).toNatClampNeg
  · rw [if_pos hq, show (q : Int) = j by omega, upS_s]
  · rw [if_neg hq, upS_i (by omega)]
