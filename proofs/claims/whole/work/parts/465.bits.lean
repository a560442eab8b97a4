/-! PURE LAYER: the letters, in both -/
def mtP (S : SS) (l k s : Int) : Prop := S 14 k / 8 < sEnd S l s ∧ s < S 14 k / 8 + S 12 k
def tcP (S : SS) (l k s : Int) : Prop := S 14 k / 8 / 6 = s / 6 ∧ (S 14 k / 8 + S 12 k = s ∨ S 14 k / 8 = sEnd S l s)
theorem enF_i {S : SS} {l : Int} {s : Nat} (h0 : 0 ≤ S 12 l) : (enF (S 12 l).toNat s : Int) = sEnd S l s := by
  unfold enF sEnd
  split <;> split <;> omega
theorem meM_has {S : SS} (hV : VS S) {l k : Int} (l0 : 0 ≤ l) (l1 : l < S 20 4) (k0 : 0 ≤ k) (k1 : k < S 20 4) (kp : 0 ≤ S 14 k) {s : Nat} (hs : s < 30) : (bHas (meM S l k) (iI (s : Int)) = true) ↔ mtP S l k s := by
  have hl := hV.2.2 l l0 l1
  have hk := hV.2.2 k k0 k1
  have hk3 := hV.1 k
  have h := mt_has ⟨(S 12 l - 1).toNat, by omega⟩ ⟨(S 12 k - 1).toNat, by omega⟩ ⟨(S 14 k / 8).toNat, by omega⟩ ⟨s, hs⟩ (by simp only; omega)
  simp only at h
  rw [show (S 12 l - 1).toNat + 1 = (S 12 l).toNat by omega, show (S 12 k - 1).toNat + 1 = (S 12 k).toNat by omega, ← hrM_hrs (by omega) (by omega), li_0] at h
  unfold meM mtP
  rw [h, Bool.and_eq_true, decide_eq_true_eq, decide_eq_true_eq]
  have h2 := enF_i (S := S) (l := l) (s := s) (by omega)
  omega
theorem tcM_tch {S : SS} {l k : Int} (h0 : 0 ≤ S 12 l) (h1 : 0 ≤ S 12 k) (h2 : 0 ≤ S 14 k) : tcM S l k = tch (S 12 l).toNat (S 14 k / 8).toNat (S 12 k).toNat := by
  unfold tcM tch
  rw [li_0, li_1, li_31]
  congr 1
  · by_cases c : 6 ≤ S 14 k / 8 % 6 + S 12 k
    · rw [if_pos c, if_neg (by omega)]
    · rw [if_neg c, if_pos (by omega), show (((S 14 k / 8).toNat + (S 12 k).toNat : Nat) : Int) = S 14 k / 8 + S 12 k by omega]
  · by_cases c : S 14 k / 8 % 6 < S 12 l
    · rw [if_pos c, if_neg (by omega)]
    · rw [if_neg c, if_pos (by omega), show (((S 14 k / 8).toNat - (S 12 l).toNat : Nat) : Int) = S 14 k / 8 - S 12 l by omega]
theorem tcM_has {S : SS} (hV : VS S) {l k : Int} (l0 : 0 ≤ l) (l1 : l < S 20 4) (k0 : 0 ≤ k) (k1 : k < S 20 4) (kp : 0 ≤ S 14 k) {s : Nat} (hs : s < 30) : (bHas (tcM S l k) (iI (s : Int)) = true) ↔ tcP S l k s := by
  have hl := hV.2.2 l l0 l1
  have hk := hV.2.2 k k0 k1
  have hk3 := hV.1 k
  have h := tc_has ⟨(S 12 l - 1).toNat, by omega⟩ ⟨(S 12 k - 1).toNat, by omega⟩ ⟨(S 14 k / 8).toNat, by omega⟩ ⟨s, hs⟩ (by simp only; omega)
  simp only at h
  rw [show (S 12 l - 1).toNat + 1 = (S 12 l).toNat by omega, show (S 12 k - 1).toNat + 1 = (S 12 k).toNat by omega, ← tcM_tch (by omega) (by omega) (by omega)] at h
  unfold tcP
  rw [h, Bool.and_eq_true, Bool.or_eq_true, decide_eq_true_eq, decide_eq_true_eq, decide_eq_true_eq]
  have h2 := enF_i (S := S) (l := l) (s := s) (by omega)
  omega
/-- a letter bars -/
def brP (S : SS) (l r s : Int) (b : Nat) : Prop :=
  if b = 0 then 6 < s % 6 + S 12 l else if b = 1 then s / 6 < S 20 6 else if b = 2 then offB (S 3 (S 10 l)) (s / 6) = 1 else if b = 3 then S 1 r ≠ S 11 l else if b = 4 then ¬ S 5 (S 9 l) ≤ S 2 r else if b = 5 then S 7 r ≠ 0
  else if b = 6 then ∃ k : Nat, k < (S 20 4).toNat ∧ (k : Int) ≠ l ∧ 0 ≤ S 14 k ∧ mtP S l k s ∧ S 14 k % 8 = r
  else if b = 7 then ∃ k : Nat, k < (S 20 4).toNat ∧ (k : Int) ≠ l ∧ 0 ≤ S 14 k ∧ mtP S l k s ∧ S 10 k = S 10 l
  else if b = 8 then ∃ k : Nat, k < (S 20 4).toNat ∧ (k : Int) ≠ l ∧ 0 ≤ S 14 k ∧ mtP S l k s ∧ S 9 k = S 9 l
  else if b = 9 then ∃ k : Nat, k < (S 20 4).toNat ∧ (k : Int) ≠ l ∧ 0 ≤ S 14 k ∧ (S 10 k = S 10 l ∨ S 9 k = S 9 l) ∧ S 0 (S 14 k % 8) ≠ S 0 r ∧ tcP S l k s
  else False
theorem all_has : ∀ s : Fin 30, bHas (1073741823 : Int32) (iI (s.val : Int)) = true := by decide +kernel
set_option maxRecDepth 100000 in
theorem off_has : ∀ x : Fin 32, ∀ s : Fin 30, bHas (offM (x.val : Int)) (iI (s.val : Int)) = decide (x.val / 2 ^ (s.val / 6) % 2 = 1) := by decide +kernel
theorem pa_hasI {t : Int} (t0 : 0 ≤ t) (t1 : t < 5) {s : Nat} (hs : s < 30) : bHas (paM t) (iI (s : Int)) = decide ((s : Int) / 6 < t) := by
  have h := pa_has ⟨t.toNat, by omega⟩ ⟨s, hs⟩
  simp only at h
  unfold paM
  rw [show ((t.toNat : Nat) : Int) = t by omega, li_1, li_31, li_6, iI_mul] at h
  rw [h]
  apply decide_eq_decide.mpr
  omega
theorem baM_has {S : SS} (hV : VS S) {l r : Int} (l0 : 0 ≤ l) (l1 : l < S 20 4) (r0 : 0 ≤ r) (r1 : r < S 20 1) {s : Nat} (hs : s < 30) (b : Nat) (hb10 : b < 10) : (bHas (baM S l r b) (iI (s : Int)) = true) ↔ brP S l r s b := by
  have hl := hV.2.2 l l0 l1
  have ht := hV.1 (S 10 l)
  have hm := hV.2.1
  unfold Bm at hm
  have h0 := bHas_00 s (by omega)
  have h1 := all_has ⟨s, hs⟩
  simp only at h1
  rcases (show b = 0 ∨ b = 1 ∨ b = 2 ∨ b = 3 ∨ b = 4 ∨ b = 5 ∨ b = 6 ∨ b = 7 ∨ b = 8 ∨ b = 9 by omega) with rfl | rfl | rfl | rfl | rfl | rfl | rfl | rfl | rfl | rfl
  · rw [show ((0 : Nat) : Int) = 0 from rfl, baM_0 hs (by omega) (by omega), decide_eq_true_eq]
    rfl
  · show (bHas (paM (S 20 6)) _ = true) ↔ _
    rw [pa_hasI (by omega) (by omega) hs, decide_eq_true_eq]
    rfl
  · show (bHas (offM (S 3 (S 10 l))) _ = true) ↔ offB (S 3 (S 10 l)) ((s : Int) / 6) = 1
    have h2 := off_has ⟨(S 3 (S 10 l)).toNat, by omega⟩ ⟨s, hs⟩
    simp only at h2
    rw [show (((S 3 (S 10 l)).toNat : Nat) : Int) = S 3 (S 10 l) by omega] at h2
    rw [h2, decide_eq_true_eq]
    unfold offB
    rw [show ((s : Int) / 6).toNat = s / 6 by omega]
    omega
  · show (bHas (if S 1 r = S 11 l then iI 0 else (1073741823 : Int32)) _ = true) ↔ S 1 r ≠ S 11 l
    by_cases c : S 1 r = S 11 l
    · rw [if_pos c, h0]; simp [c]
    · rw [if_neg c, h1]; simp [c]
  · show (bHas (if S 5 (S 9 l) ≤ S 2 r then iI 0 else (1073741823 : Int32)) _ = true) ↔ ¬ S 5 (S 9 l) ≤ S 2 r
    by_cases c : S 5 (S 9 l) ≤ S 2 r
    · rw [if_pos c, h0]; simp [c]
    · rw [if_neg c, h1]; simp [c]
  · show (bHas (if S 7 r = 0 then iI 0 else (1073741823 : Int32)) _ = true) ↔ S 7 r ≠ 0
    by_cases c : S 7 r = 0
    · rw [if_pos c, h0]; simp [c]
    · rw [if_neg c, h1]; simp [c]
  · show (bHas (roM S l r (S 20 4).toNat) _ = true) ↔ ∃ k : Nat, k < (S 20 4).toNat ∧ (k : Int) ≠ l ∧ 0 ≤ S 14 k ∧ mtP S l k s ∧ S 14 k % 8 = r
    unfold roM
    rw [bHas_orN _ (by omega)]
    constructor
    · rintro ⟨k, hk, h⟩
      by_cases c : (k : Int) ≠ l ∧ 0 ≤ S 14 k ∧ S 14 k % 8 = r
      · rw [if_pos c, meM_has hV l0 l1 (by omega) (by omega) c.2.1 hs] at h
        exact ⟨k, hk, c.1, c.2.1, h, c.2.2⟩
      · rw [if_neg c, h0] at h
        exact absurd h (by decide)
    · rintro ⟨k, hk, h1, h2, h3, h4⟩
      refine ⟨k, hk, ?_⟩
      rw [if_pos ⟨h1, h2, h4⟩]
      exact (meM_has hV l0 l1 (by omega) (by omega) h2 hs).mpr h3
  · show (bHas (teM S l (S 20 4).toNat) _ = true) ↔ ∃ k : Nat, k < (S 20 4).toNat ∧ (k : Int) ≠ l ∧ 0 ≤ S 14 k ∧ mtP S l k s ∧ S 10 k = S 10 l
    unfold teM
    rw [bHas_orN _ (by omega)]
    constructor
    · rintro ⟨k, hk, h⟩
      by_cases c : (k : Int) ≠ l ∧ 0 ≤ S 14 k ∧ S 10 k = S 10 l
      · rw [if_pos c, meM_has hV l0 l1 (by omega) (by omega) c.2.1 hs] at h
        exact ⟨k, hk, c.1, c.2.1, h, c.2.2⟩
      · rw [if_neg c, h0] at h
        exact absurd h (by decide)
    · rintro ⟨k, hk, h1, h2, h3, h4⟩
      refine ⟨k, hk, ?_⟩
      rw [if_pos ⟨h1, h2, h4⟩]
      exact (meM_has hV l0 l1 (by omega) (by omega) h2 hs).mpr h3
  · show (bHas (grM S l (S 20 4).toNat) _ = true) ↔ ∃ k : Nat, k < (S 20 4).toNat ∧ (k : Int) ≠ l ∧ 0 ≤ S 14 k ∧ mtP S l k s ∧ S 9 k = S 9 l
    unfold grM
    rw [bHas_orN _ (by omega)]
    constructor
    · rintro ⟨k, hk, h⟩
      by_cases c : (k : Int) ≠ l ∧ 0 ≤ S 14 k ∧ S 9 k = S 9 l
      · rw [if_pos c, meM_has hV l0 l1 (by omega) (by omega) c.2.1 hs] at h
        exact ⟨k, hk, c.1, c.2.1, h, c.2.2⟩
      · rw [if_neg c, h0] at h
        exact absurd h (by decide)
    · rintro ⟨k, hk, h1, h2, h3, h4⟩
      refine ⟨k, hk, ?_⟩
      rw [if_pos ⟨h1, h2, h4⟩]
      exact (meM_has hV l0 l1 (by omega) (by omega) h2 hs).mpr h3
  · show (bHas (waM S l (S 0 r) (S 20 4).toNat) _ = true) ↔ ∃ k : Nat, k < (S 20 4).toNat ∧ (k : Int) ≠ l ∧ 0 ≤ S 14 k ∧ (S 10 k = S 10 l ∨ S 9 k = S 9 l) ∧ S 0 (S 14 k % 8) ≠ S 0 r ∧ tcP S l k s
    unfold waM
    rw [bHas_orN _ (by omega)]
    constructor
    · rintro ⟨k, hk, h⟩
      by_cases c : (k : Int) ≠ l ∧ 0 ≤ S 14 k ∧ (S 10 k = S 10 l ∨ S 9 k = S 9 l) ∧ S 0 (S 14 k % 8) ≠ S 0 r
      · rw [if_pos c, tcM_has hV l0 l1 (by omega) (by omega) c.2.1 hs] at h
        exact ⟨k, hk, c.1, c.2.1, c.2.2.1, c.2.2.2, h⟩
      · rw [if_neg c, h0] at h
        exact absurd h (by decide)
    · rintro ⟨k, hk, h1, h2, h3, h4, h5⟩
      refine ⟨k, hk, ?_⟩
      rw [if_pos ⟨h1, h2, h3, h4⟩]
      exact (tcM_has hV l0 l1 (by omega) (by omega) h2 hs).mpr h5
/-! the reference's letters -/
set_option maxRecDepth 100000 in
theorem small_has : ∀ x : Fin 1024, ∀ b : Fin 32, bHas (iI (x.val : Int)) (iI (b.val : Int)) = decide (x.val / 2 ^ b.val % 2 = 1) := by decide +kernel
theorem small_hasI {x : Int} (x0 : 0 ≤ x) (x1 : x < 1024) {b : Nat} (hb : b < 32) : (bHas (iI x) (iI (b : Int)) = true) ↔ x.toNat / 2 ^ b % 2 = 1 := by
  have h := small_has ⟨x.toNat, by omega⟩ ⟨b, hb⟩
  simp only at h
  rw [show ((x.toNat : Nat) : Int) = x by omega] at h
  rw [h, decide_eq_true_eq]
theorem lF_has (S : SS) (l s r : Int) {b : Nat} (hb : b < 32) : ∀ (n : Nat) (k : Int) (acc : Int32), (bHas (lF S l s r n k acc) (iI (b : Int)) = true) ↔ (bHas acc (iI (b : Int)) = true ∨ ∃ j : Nat, j < n ∧ bHas (iI (sLb S (k + j) l s r)) (iI (b : Int)) = true) := by
  intro n
  induction n with
  | zero => intro k acc; exact ⟨Or.inl, fun h => h.elim id (fun ⟨j, hj, _⟩ => absurd hj (by omega))⟩
  | succ n ih =>
    intro k acc
    unfold lF
    rw [ih, bHas_or _ _ hb, Bool.or_eq_true]
    constructor
    · rintro ((h | h) | ⟨j, hj, h⟩)
      · exact Or.inl h
      · exact Or.inr ⟨0, by omega, by simpa using h⟩
      · refine Or.inr ⟨j + 1, by omega, ?_⟩
        rw [show k + ((j + 1 : Nat) : Int) = k + 1 + (j : Int) by omega]
        exact h
    · rintro (h | ⟨j, hj, h⟩)
      · exact Or.inl (Or.inl h)
      · by_cases c : j = 0
        · subst c
          exact Or.inl (Or.inr (by simpa using h))
        · refine Or.inr ⟨j - 1, by omega, ?_⟩
          rw [show k + 1 + ((j - 1 : Nat) : Int) = k + (j : Int) by omega]
          exact h
