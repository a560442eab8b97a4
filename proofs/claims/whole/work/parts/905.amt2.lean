/-! PURE LAYER: how the amounts change, the rest -/
theorem sm_cnt {f g : Nat → Int} {q : Nat → Bool} {d : Int} : ∀ n, (∀ k, k < n → g k = f k + (if q k = true then d else 0)) → sumN g n = sumN f n + cntN q n * d := by
  intro n
  induction n with
  | zero => intro _; show (0 : Int) = 0 + 0 * d; rw [Int.zero_mul]; rfl
  | succ n ih =>
    intro h
    have h1 := ih (fun k hk => h k (by omega))
    have h2 := h n (by omega)
    show sumN g n + g n = sumN f n + f n + (cntN q n + (if q n = true then 1 else 0)) * d
    rw [Int.add_mul]
    by_cases c : q n = true
    · rw [if_pos c] at h2 ⊢
      rw [Int.one_mul]
      omega
    · rw [if_neg c] at h2 ⊢
      rw [Int.zero_mul]
      omega
theorem wsI_wish {S : SS} (hV : VS S) {t j w k : Int} (t0 : 0 ≤ t) (j0 : 0 ≤ j) (j1 : j < 30) (k0 : 0 ≤ k) (k1 : k < S 20 4) : wsI (upS S 6 (30 * t + j) w) k = wsI S k + (if htB S t j k = true then w - S 6 (30 * t + j) else 0) := by
  have hl := hV.2.2 k k0 k1
  have hb := hV.1 k
  have e : wsI (upS S 6 (30 * t + j) w) k = if 0 ≤ S 14 k then sumN (fun n => upS S 6 (30 * t + j) w 6 (30 * S 10 k + S 14 k / 8 + (n : Int))) (S 12 k).toNat else 0 := rfl
  have hh : htB S t j k = true ↔ S 10 k = t ∧ 0 ≤ S 14 k ∧ S 14 k / 8 ≤ j ∧ j < S 14 k / 8 + S 12 k := by
    unfold htB
    rw [Bool.and_eq_true, decide_eq_true_eq, decide_eq_true_eq]
  rw [e]
  unfold wsI
  by_cases c : 0 ≤ S 14 k
  · rw [if_pos c, if_pos c]
    by_cases d : S 10 k = t ∧ 0 ≤ S 14 k ∧ S 14 k / 8 ≤ j ∧ j < S 14 k / 8 + S 12 k
    · rw [if_pos (hh.mpr d)]
      refine sm_pt (i := (j - S 14 k / 8).toNat) _ (by omega) (fun n hn hni => upS_i (by omega)) ?_
      show upS S 6 (30 * t + j) w 6 (30 * S 10 k + S 14 k / 8 + (((j - S 14 k / 8).toNat : Nat) : Int)) = S 6 (30 * S 10 k + S 14 k / 8 + (((j - S 14 k / 8).toNat : Nat) : Int)) + _
      rw [show 30 * S 10 k + S 14 k / 8 + (((j - S 14 k / 8).toNat : Nat) : Int) = 30 * t + j by omega, upS_s]
      omega
    · rw [if_neg (fun q => d (hh.mp q)), Int.add_zero]
      refine sumN_c _ (fun n hn => upS_i (fun q => ?_))
      have c1 : S 10 k = t ∨ ¬ S 10 k = t := Decidable.em _
      rcases c1 with c1 | c1
      · exact d ⟨c1, c, by omega, by omega⟩
      · omega
  · rw [if_neg c, if_neg c, if_neg (fun q => c (hh.mp q).2.1)]
    rfl
theorem amt_wishT {S : SS} (hV : VS S) {t j w p : Int} (t0 : 0 ≤ t) (j0 : 0 ≤ j) (j1 : j < 30) : amt (upS S 6 (30 * t + j) w) p = amt S p + (if p ≠ 0 ∧ p ≠ 1 ∧ p = 2 then cntN (fun k => htB S t j k) (S 20 4).toNat * (w - S 6 (30 * t + j)) else 0) := by
  by_cases c : p = 2
  · rw [if_pos ⟨by omega, by omega, c⟩]
    subst c
    have e1 : amt (upS S 6 (30 * t + j) w) 2 = sumN (fun k => wsI (upS S 6 (30 * t + j) w) k) (S 20 4).toNat := rfl
    have e2 : amt S 2 = sumN (fun k => wsI S k) (S 20 4).toNat := rfl
    rw [e1, e2]
    exact sm_cnt _ (fun k hk => wsI_wish hV t0 j0 j1 (by omega) (by omega))
  · rw [if_neg (fun w => c w.2.2), Int.add_zero]
    unfold amt
    have e0 : ∀ k : Int, gapK (upS S 6 (30 * t + j) w) k = gapK S k := fun k => by
      unfold gapK
      rw [gpF_c (S := S) (S2 := upS S 6 (30 * t + j) w) (upS_g (by decide)) (upS_g (by decide)) (upS_g (by decide)) (by rw [upS_g (by decide)])]
    by_cases c0 : p = 0
    · rw [if_pos c0, if_pos c0]
      simp only [e0]
      rfl
    · rw [if_neg c0, if_neg c0, if_neg c, if_neg c]
      rfl
theorem amt_accT {S : SS} {t x p : Int} : amt (upS S 4 t x) p = amt S p + (if p = 1 then cntN (fun k => ltB S t k) (S 20 4).toNat * (x - S 4 t) else 0) := by
  by_cases c : p = 1
  · rw [if_pos c]
    subst c
    have e1 : amt (upS S 4 t x) 1 = sumN (fun k => lateK (upS S 4 t x) k) (S 20 4).toNat := rfl
    have e2 : amt S 1 = sumN (fun k => lateK S k) (S 20 4).toNat := rfl
    rw [e1, e2]
    refine sm_cnt _ (fun k hk => ?_)
    have hh : ltB S t (k : Int) = true ↔ S 10 (k : Int) = t ∧ 0 ≤ S 14 (k : Int) ∧ (S 14 (k : Int) / 8 + S 12 (k : Int)) % 6 = 0 := by
      unfold ltB
      rw [Bool.and_eq_true, decide_eq_true_eq, decide_eq_true_eq]
    show (if 0 ≤ S 14 (k : Int) ∧ (S 14 (k : Int) / 8 + S 12 (k : Int)) % 6 = 0 then 1 + upS S 4 t x 4 (S 10 (k : Int)) else 0) = (if 0 ≤ S 14 (k : Int) ∧ (S 14 (k : Int) / 8 + S 12 (k : Int)) % 6 = 0 then 1 + S 4 (S 10 (k : Int)) else 0) + _
    by_cases d : 0 ≤ S 14 (k : Int) ∧ (S 14 (k : Int) / 8 + S 12 (k : Int)) % 6 = 0
    · rw [if_pos d, if_pos d]
      by_cases q : S 10 (k : Int) = t
      · rw [if_pos (hh.mpr ⟨q, d⟩), q, upS_s]
        omega
      · rw [if_neg (fun w => q (hh.mp w).1), upS_i q]
        omega
    · rw [if_neg d, if_neg d, if_neg (fun w => d (hh.mp w).2)]
      rfl
  · rw [if_neg c, Int.add_zero]
    unfold amt
    have e0 : ∀ k : Int, gapK (upS S 4 t x) k = gapK S k := fun k => by
      unfold gapK
      rw [gpF_c (S := S) (S2 := upS S 4 t x) (upS_g (by decide)) (upS_g (by decide)) (upS_g (by decide)) (by rw [upS_g (by decide)])]
    by_cases c0 : p = 0
    · rw [if_pos c0, if_pos c0]
      simp only [e0]
      rfl
    · rw [if_neg c0, if_neg c0, if_neg c, if_neg c]
      rfl
theorem gpF_0 {S : SS} {g : Int} (h : ∀ t, busyP S g t = false) : ∀ (n : Nat) (s : Int), gpF S g n s 0 (-1) = 0 := by
  intro n
  induction n with
  | zero => intro s; rfl
  | succ n ih =>
    intro s
    show (if _ then _ else _) = _
    rw [if_neg (by rw [h]; decide)]
    exact ih (s + 1)
theorem busy_no {S : SS} (hv : Vl S) {g : Int} (h : g < 0 ∨ S 20 3 ≤ g) (t : Int) : busyP S g t = false := by
  cases q : busyP S g t
  · rfl
  · obtain ⟨j, j1, j9, _⟩ := (busy_iff S g t).mp q
    have := (hv j (by omega) (by omega)).2.1
    omega
theorem amt_addG {S : SS} {a : Int} (hV : VS S) (p : Int) : amt (upS (upS S 5 (S 20 3) a) 20 3 (S 20 3 + 1)) p = amt S p := by
  have hm := hV.2.1
  unfold Bm at hm
  have e0 : ∀ k : Int, gapK (upS (upS S 5 (S 20 3) a) 20 3 (S 20 3 + 1)) k = gapK S k := fun k => by
    unfold gapK
    rw [gpF_c (S := S) (S2 := upS (upS S 5 (S 20 3) a) 20 3 (S 20 3 + 1)) (by rw [upS_g (by decide), upS_g (by decide)]) (by rw [upS_g (by decide), upS_g (by decide)]) (by rw [upS_g (by decide), upS_g (by decide)]) rfl]
  by_cases c0 : p = 0
  · subst c0
    have e1 : amt (upS (upS S 5 (S 20 3) a) 20 3 (S 20 3 + 1)) 0 = sumN (fun k => gapK (upS (upS S 5 (S 20 3) a) 20 3 (S 20 3 + 1)) k) ((S 20 3 + 1) * 5).toNat := rfl
    have e2 : amt S 0 = sumN (fun k => gapK S k) (S 20 3 * 5).toNat := rfl
    rw [e1, e2, show ((S 20 3 + 1) * 5).toNat = (S 20 3 * 5).toNat + 5 by omega, sm_add, sm_z 5 (fun k hk => by
      show gapK _ (((S 20 3 * 5).toNat + k : Nat) : Int) = 0
      rw [e0]
      exact gpF_0 (busy_no hV.2.2 (Or.inr (by omega))) 6 _), Int.add_zero]
    simp only [e0]
  · unfold amt
    rw [if_neg c0, if_neg c0]
    rfl
theorem CI_addGT {S : SS} {K : KK} {a : Int} (hV : VS S) (hC : CI S K) : CI (upS (upS S 5 (S 20 3) a) 20 3 (S 20 3 + 1)) K := fun p p0 p1 => by
  rw [hC p p0 p1, amt_addG hV]
section
variable {S U : SS} {n : Nat}
theorem busy_L (h20 : U 20 4 = (n : Int) + 1) (h2 : S 20 4 = (n : Int)) (h : ∀ k : Int, k ≠ (n : Int) → U 9 k = S 9 k ∧ U 10 k = S 10 k ∧ U 12 k = S 12 k ∧ U 13 k = S 13 k) (h14 : U 14 = S 14) (hn : S 14 (n : Int) = -1) (g t : Int) : busyP U g t = busyP S g t := by
  refine eq_tt ?_
  rw [busy_iff, busy_iff, h20, h2, h14]
  constructor
  · rintro ⟨j, j1, j9, j0, j2, j3⟩
    have c : j ≠ n := fun c => by
      rw [c, hn] at j0
      exact absurd j0 (by decide)
    have hj := h (j : Int) (by omega)
    rw [hj.1] at j9
    rw [hj.2.2.1] at j3
    exact ⟨j, by omega, j9, j0, j2, j3⟩
  · rintro ⟨j, j1, j9, j0, j2, j3⟩
    have hj := h (j : Int) (by omega)
    rw [← hj.1] at j9
    rw [← hj.2.2.1] at j3
    exact ⟨j, by omega, j9, j0, j2, j3⟩
theorem amt_addL (h20 : U 20 4 = (n : Int) + 1) (h2 : S 20 4 = (n : Int)) (h3 : U 20 3 = S 20 3) (h : ∀ k : Int, k ≠ (n : Int) → U 9 k = S 9 k ∧ U 10 k = S 10 k ∧ U 12 k = S 12 k ∧ U 13 k = S 13 k) (h14 : U 14 = S 14) (h4 : U 4 = S 4) (h6 : U 6 = S 6) (hn : S 14 (n : Int) = -1) (p : Int) : amt U p = amt S p := by
  have e0 : ∀ k : Int, gapK U k = gapK S k := fun k => gpF_eq 6 _ _ _ (fun t _ _ => busy_L h20 h2 h h14 hn _ t)
  have eS : ∀ f g : Nat → Int, (∀ k, k < n → f k = g k) → f n = 0 → sumN f (U 20 4).toNat = sumN g (S 20 4).toNat := fun f g hk h0 => by
    rw [h20, h2, show ((n : Int) + 1).toNat = n + 1 by omega, show ((n : Nat) : Int).toNat = n by omega]
    show sumN f n + f n = _
    rw [h0, Int.add_zero]
    exact sumN_c n hk
  have nn : ¬ (0 : Int) ≤ -1 := by decide
  unfold amt
  rw [h3]
  by_cases c0 : p = 0
  · rw [if_pos c0, if_pos c0]
    simp only [e0]
  · rw [if_neg c0, if_neg c0]
    by_cases c1 : p = 1
    · rw [if_pos c1, if_pos c1]
      refine eS _ _ (fun k hk => ?_) ?_
      · have hj := h (k : Int) (by omega)
        show lateK U (k : Int) = lateK S (k : Int)
        unfold lateK
        rw [h14, hj.2.2.1, h4, hj.2.1]
      · show lateK U (n : Int) = 0
        unfold lateK
        rw [h14, hn]
        exact if_neg (fun w => nn w.1)
    · rw [if_neg c1, if_neg c1]
      by_cases c2 : p = 2
      · rw [if_pos c2, if_pos c2]
        refine eS _ _ (fun k hk => ?_) ?_
        · have hj := h (k : Int) (by omega)
          show wsI U (k : Int) = wsI S (k : Int)
          unfold wsI
          rw [h14, hj.2.2.1, h6, hj.2.1]
        · show wsI U (n : Int) = 0
          unfold wsI
          rw [h14, hn]
          exact if_neg nn
      · rw [if_neg c2, if_neg c2]
        refine eS _ _ (fun k hk => sumN_c k (fun j hj2 => ?_)) (sm_z n (fun j _ => ?_))
        · have hj := h (k : Int) (by omega)
          have hi := h (j : Int) (by omega)
          show crI U (k : Int) (j : Int) = crI S (k : Int) (j : Int)
          unfold crI
          rw [h14, hj.1, hi.1, hj.2.2.2, hi.2.2.2]
        · show crI U (n : Int) (j : Int) = 0
          unfold crI
          rw [h14, hn]
          exact if_neg (fun w => nn w.1)
end
theorem aL_f2 {S : SS} {a b c d e n m l : Int} (hl : l ≠ n) : (upS (upS (upS (upS (upS (upS S 9 n a) 10 n b) 11 n c) 12 n d) 13 n e) 20 4 m) 9 l = S 9 l ∧ (upS (upS (upS (upS (upS (upS S 9 n a) 10 n b) 11 n c) 12 n d) 13 n e) 20 4 m) 10 l = S 10 l ∧ (upS (upS (upS (upS (upS (upS S 9 n a) 10 n b) 11 n c) 12 n d) 13 n e) 20 4 m) 12 l = S 12 l ∧ (upS (upS (upS (upS (upS (upS S 9 n a) 10 n b) 11 n c) 12 n d) 13 n e) 20 4 m) 13 l = S 13 l := by
  refine ⟨?_, ?_, ?_, ?_⟩
  · rw [upS_g (by decide), upS_g (by decide), upS_g (by decide), upS_g (by decide), upS_g (by decide), upS_i hl]
  · rw [upS_g (by decide), upS_g (by decide), upS_g (by decide), upS_g (by decide), upS_i hl, upS_g (by decide)]
  · rw [upS_g (by decide), upS_g (by decide), upS_i hl, upS_g (by decide), upS_g (by decide), upS_g (by decide)]
  · rw [upS_g (by decide), upS_i hl, upS_g (by decide), upS_g (by decide), upS_g (by decide), upS_g (by decide)]
theorem CI_addLT {S : SS} {K : KK} {a b c d e : Int} (hV : VS S) (hC : CI S K) (h14 : S 14 (S 20 4) = -1) : CI (upS (upS (upS (upS (upS (upS S 9 (S 20 4) a) 10 (S 20 4) b) 11 (S 20 4) c) 12 (S 20 4) d) 13 (S 20 4) e) 20 4 ((S 20 4) + 1)) (zrK K (S 20 4)) := fun p p0 p1 => by
  have hm := hV.2.1
  unfold Bm at hm
  have hn : (((S 20 4).toNat : Nat) : Int) = S 20 4 := by omega
  have e1 : zrK K (S 20 4) 21 0 p = K 21 0 p := if_neg (fun w => absurd w.1.2 (by decide))
  have e2 := amt_addL (S := S) (U := upS (upS (upS (upS (upS (upS S 9 (S 20 4) a) 10 (S 20 4) b) 11 (S 20 4) c) 12 (S 20 4) d) 13 (S 20 4) e) 20 4 ((S 20 4) + 1)) (n := (S 20 4).toNat) (by rw [hn]; rfl) hn.symm rfl (fun k hk => aL_f2 (by omega)) (by rw [upS_g (by decide), upS_g (by decide), upS_g (by decide), upS_g (by decide), upS_g (by decide), upS_g (by decide)]) (by rw [upS_g (by decide), upS_g (by decide), upS_g (by decide), upS_g (by decide), upS_g (by decide), upS_g (by decide)]) (by rw [upS_g (by decide), upS_g (by decide), upS_g (by decide), upS_g (by decide), upS_g (by decide), upS_g (by decide)]) (by rw [hn]; exact h14) p
  rw [e1, e2]
  exact hC p p0 p1
