/-! PURE LAYER: a lesson is made (class) -/
theorem e_X4_init {A : AA} {P : Hp} {S : SS} {K : KK} (hA : GA A) {o e0 g t : Nat} {n k c : Int32} {m : Int} (m1 : 1 ≤ m) (m3 : m ≤ 3) (hf : ∀ j, j < 5 → ∀ (k : Nat) (i : Int), k < 27 → 0 ≤ i → A k i ≠ o + j) : ∃ P2, f_X4_init o n (some g) (some t) k (iI m) c (Hc A (hset P o (aO 7 [.int 0, .null, .null, .int 0, .int 0, .int 0, .null, .int 0, .int 0, .int 0, .null, .int 0, .int 0, .int 0, .null, .null, .int 0, .null])) S K, (o + 1, e0)) = some (.ok (), (Hc A P2 S K, (o + 5, e0))) ∧ P2 o = some (aO 7 [.int n, .ref g, .ref t, .int k, .int (iI m), .int c, .null, .int (-1), .int 0, .int (tlM m), .ref (o + 1), .int 0, .int 0, .int 0, .ref (o + 2), .ref (o + 3), .int 0, .ref (o + 4)]) ∧ P2 (o + 1) = some (aI 0 8 (fun _ => 0)) ∧ P2 (o + 2) = some (aI 0 8 (fun _ => 0)) ∧ P2 (o + 3) = some (aI 0 3 (fun _ => 0)) ∧ P2 (o + 4) = some (aI 0 5 (fun _ => 0)) ∧ ∀ x, x < o ∨ o + 5 ≤ x → P2 x = P x := by
  have ho : ∀ (k : Nat) (i : Int), k < 27 → 0 ≤ i → A k i ≠ o := hf 0 (by decide)
  have h1 := hf 1 (by decide)
  have h2 := hf 2 (by decide)
  have h3 := hf 3 (by decide)
  have h4 := hf 4 (by decide)
  refine ⟨fun x => if x = o then some (aO 7 [.int n, .ref g, .ref t, .int k, .int (iI m), .int c, .null, .int (-1), .int 0, .int (tlM m), .ref (o + 1), .int 0, .int 0, .int 0, .ref (o + 2), .ref (o + 3), .int 0, .ref (o + 4)]) else if x = o + 1 then some (aI 0 8 (fun _ => 0)) else if x = o + 2 then some (aI 0 8 (fun _ => 0)) else if x = o + 3 then some (aI 0 3 (fun _ => 0)) else if x = o + 4 then some (aI 0 5 (fun _ => 0)) else P x, ?_, if_pos rfl, ?_⟩
  · unfold f_X4_init
    show pV (some o) 7 7 (.int (-1)) _ _ = _
    rw [w_P hA ho hset_s (by show 7 < 18; decide), hset2]
    rw [w_nwI hA (z := (o + 1, e0)) (by decide +kernel) h1]
    show pV (some o) 7 10 (.ref (o + 1)) _ _ = _
    rw [w_P hA ho ((hset_n (by show o ≠ o + 1; omega)).trans hset_s) (by show 10 < 18; decide)]
    rw [w_nwI hA (z := (o + 1 + 1, e0)) (by decide +kernel) h2]
    show pV (some o) 7 14 (.ref (o + 1 + 1)) _ _ = _
    rw [w_P hA ho ((hset_n (by show o ≠ o + 1 + 1; omega)).trans hset_s) (by show 14 < 18; decide)]
    rw [w_nwI hA (z := (o + 1 + 1 + 1, e0)) (by decide +kernel) h3]
    show pV (some o) 7 15 (.ref (o + 1 + 1 + 1)) _ _ = _
    rw [w_P hA ho ((hset_n (by show o ≠ o + 1 + 1 + 1; omega)).trans hset_s) (by show 15 < 18; decide)]
    rw [w_nwI hA (z := (o + 1 + 1 + 1 + 1, e0)) (by decide +kernel) h4]
    show pV (some o) 7 17 (.ref (o + 1 + 1 + 1 + 1)) (pV (some o) 7 0 (.int n) (pV (some o) 7 1 (.ref g) (pV (some o) 7 2 (.ref t) (pV (some o) 7 3 (.int k) (pV (some o) 7 4 (.int (iI m)) (pV (some o) 7 5 (.int c) _)))))) _ = _
    rw [w_P hA ho ((hset_n (by show o ≠ o + 1 + 1 + 1 + 1; omega)).trans hset_s) (by show 17 < 18; decide)]
    rw [w_P hA ho hset_s (by show 0 < 18; decide), hset2, w_P hA ho hset_s (by show 1 < 18; decide), hset2, w_P hA ho hset_s (by show 2 < 18; decide), hset2, w_P hA ho hset_s (by show 3 < 18; decide), hset2, w_P hA ho hset_s (by show 4 < 18; decide), hset2, w_P hA ho hset_s (by show 5 < 18; decide), hset2]
    rw [show iI m - (1 : Int32) = iI (m - 1) by rw [li_1, iI_sub]]
    show call (f_X8_slotsThatMeet lastH (iI (m - 1))) (fun v5 => pV (some o) 7 9 (.int v5) (rtn ())) nox _ = _
    rw [e_call (e_meet lastH _ (by omega) (by omega)), w_P hA ho hset_s (by show 9 < 18; decide), hset2]
    refine congrArg (fun h => some (Except.ok (), (Hc A h S K, (o + 5, e0)))) (funext fun x => ?_)
    unfold hset
    by_cases c0 : x = o
    · rw [if_pos c0, if_pos c0]
      rfl
    · by_cases c1 : x = o + 1
      · subst c1
        simp
      · by_cases c2 : x = o + 2
        · subst c2
          simp
        · by_cases c3 : x = o + 3
          · subst c3
            simp
          · by_cases c4 : x = o + 4
            · subst c4
              simp
            · have c2' : x ≠ o + 1 + 1 := c2
              have c3' : x ≠ o + 1 + 1 + 1 := c3
              have c4' : x ≠ o + 1 + 1 + 1 + 1 := c4
              simp only [c0, c1, c2, c3, c4, c2', c3', c4', if_false]
  · refine ⟨?_, ?_, ?_, ?_, fun x hx => ?_⟩
    · simp
    · simp
    · simp
    · simp
    · have d0 : x ≠ o := by omega
      have d1 : x ≠ o + 1 := by omega
      have d2 : x ≠ o + 2 := by omega
      have d3 : x ≠ o + 3 := by omega
      have d4 : x ≠ o + 4 := by omega
      simp only [d0, d1, d2, d3, d4, if_false]
