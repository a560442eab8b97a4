/-! PURE LAYER: wishes, accounts, free lessons (class) -/
theorem Bn_u3 {S : SS} {i x : Int} (hb : Bn S) (h0 : 0 ≤ x) (h1 : x < 32) : Bn (upS S 3 i x) := by
  have e : ∀ g, g ≠ 3 → upS S 3 i x g = S g := fun g hg => upS_g hg
  intro k
  have h := hb k
  rw [e 0 (by decide), e 1 (by decide), e 2 (by decide), e 4 (by decide), e 5 (by decide), e 6 (by decide), e 7 (by decide), e 8 (by decide), e 9 (by decide), e 10 (by decide), e 11 (by decide), e 12 (by decide), e 13 (by decide), e 14 (by decide), e 15 (by decide), e 16 (by decide)]
  by_cases c : k = i
  · subst c
    rw [upS_s]
    omega
  · rw [upS_i c]
    omega
theorem Bn_u4 {S : SS} {i x : Int} (hb : Bn S) (h0 : 0 ≤ x) (h1 : x < 10) : Bn (upS S 4 i x) := by
  have e : ∀ g, g ≠ 4 → upS S 4 i x g = S g := fun g hg => upS_g hg
  intro k
  have h := hb k
  rw [e 0 (by decide), e 1 (by decide), e 2 (by decide), e 3 (by decide), e 5 (by decide), e 6 (by decide), e 7 (by decide), e 8 (by decide), e 9 (by decide), e 10 (by decide), e 11 (by decide), e 12 (by decide), e 13 (by decide), e 14 (by decide), e 15 (by decide), e 16 (by decide)]
  by_cases c : k = i
  · subst c
    rw [upS_s]
    omega
  · rw [upS_i c]
    omega
theorem Bn_u6 {S : SS} {i x : Int} (hb : Bn S) (h0 : 0 ≤ x) (h1 : x < 10) : Bn (upS S 6 i x) := by
  have e : ∀ g, g ≠ 6 → upS S 6 i x g = S g := fun g hg => upS_g hg
  intro k
  have h := hb k
  rw [e 0 (by decide), e 1 (by decide), e 2 (by decide), e 3 (by decide), e 4 (by decide), e 5 (by decide), e 7 (by decide), e 8 (by decide), e 9 (by decide), e 10 (by decide), e 11 (by decide), e 12 (by decide), e 13 (by decide), e 14 (by decide), e 15 (by decide), e 16 (by decide)]
  by_cases c : k = i
  · subst c
    rw [upS_s]
    omega
  · rw [upS_i c]
    omega
theorem Bn_u7 {S : SS} {i x : Int} (hb : Bn S) (h0 : 0 ≤ x) (h1 : x < 2) : Bn (upS S 7 i x) := by
  have e : ∀ g, g ≠ 7 → upS S 7 i x g = S g := fun g hg => upS_g hg
  intro k
  have h := hb k
  rw [e 0 (by decide), e 1 (by decide), e 2 (by decide), e 3 (by decide), e 4 (by decide), e 5 (by decide), e 6 (by decide), e 8 (by decide), e 9 (by decide), e 10 (by decide), e 11 (by decide), e 12 (by decide), e 13 (by decide), e 14 (by decide), e 15 (by decide), e 16 (by decide)]
  by_cases c : k = i
  · subst c
    rw [upS_s]
    omega
  · rw [upS_i c]
    omega
theorem Bn_u8 {S : SS} {i x : Int} (hb : Bn S) (h0 : 0 ≤ x) (h1 : x < 2) : Bn (upS S 8 i x) := by
  have e : ∀ g, g ≠ 8 → upS S 8 i x g = S g := fun g hg => upS_g hg
  intro k
  have h := hb k
  rw [e 0 (by decide), e 1 (by decide), e 2 (by decide), e 3 (by decide), e 4 (by decide), e 5 (by decide), e 6 (by decide), e 7 (by decide), e 9 (by decide), e 10 (by decide), e 11 (by decide), e 12 (by decide), e 13 (by decide), e 14 (by decide), e 15 (by decide), e 16 (by decide)]
  by_cases c : k = i
  · subst c
    rw [upS_s]
    omega
  · rw [upS_i c]
    omega
theorem Bn_u15 {S : SS} {i x : Int} (hb : Bn S) (h0 : 0 ≤ x) (h1 : x < 10) : Bn (upS S 15 i x) := by
  have e : ∀ g, g ≠ 15 → upS S 15 i x g = S g := fun g hg => upS_g hg
  intro k
  have h := hb k
  rw [e 0 (by decide), e 1 (by decide), e 2 (by decide), e 3 (by decide), e 4 (by decide), e 5 (by decide), e 6 (by decide), e 7 (by decide), e 8 (by decide), e 9 (by decide), e 10 (by decide), e 11 (by decide), e 12 (by decide), e 13 (by decide), e 14 (by decide), e 16 (by decide)]
  by_cases c : k = i
  · subst c
    rw [upS_s]
    omega
  · rw [upS_i c]
    omega
theorem Bn_u16 {S : SS} {i x : Int} (hb : Bn S) (h0 : -1 ≤ x) (h1 : x < 240) : Bn (upS S 16 i x) := by
  have e : ∀ g, g ≠ 16 → upS S 16 i x g = S g := fun g hg => upS_g hg
  intro k
  have h := hb k
  rw [e 0 (by decide), e 1 (by decide), e 2 (by decide), e 3 (by decide), e 4 (by decide), e 5 (by decide), e 6 (by decide), e 7 (by decide), e 8 (by decide), e 9 (by decide), e 10 (by decide), e 11 (by decide), e 12 (by decide), e 13 (by decide), e 14 (by decide), e 15 (by decide)]
  by_cases c : k = i
  · subst c
    rw [upS_s]
    omega
  · rw [upS_i c]
    omega
theorem Bn_c {S S2 : SS} (h : ∀ f, f < 17 → S2 f = S f) (hb : Bn S) : Bn S2 := by
  intro k
  rw [h 0 (by decide), h 1 (by decide), h 2 (by decide), h 3 (by decide), h 4 (by decide), h 5 (by decide), h 6 (by decide), h 7 (by decide), h 8 (by decide), h 9 (by decide), h 10 (by decide), h 11 (by decide), h 12 (by decide), h 13 (by decide), h 14 (by decide), h 15 (by decide), h 16 (by decide)]
  exact hb k
theorem Vl_c {S S2 : SS} (h9 : S2 9 = S 9) (h10 : S2 10 = S 10) (h12 : S2 12 = S 12) (h14 : S2 14 = S 14) (h20 : ∀ j : Int, 1 ≤ j → j < 5 → S2 20 j = S 20 j) (hv : Vl S) : Vl S2 := by
  intro l l0 l1
  rw [h20 4 (by decide) (by decide)] at l1
  rw [h9, h10, h12, h14, h20 1 (by decide) (by decide), h20 2 (by decide) (by decide), h20 3 (by decide) (by decide)]
  exact hv l l0 l1
theorem VS_u3 {S : SS} {i x : Int} (h : VS S) (h0 : 0 ≤ x) (h1 : x < 32) : VS (upS S 3 i x) := ⟨Bn_u3 h.1 h0 h1, Bm_S (upS_g (by decide)) h.2.1, Vl_c (upS_g (by decide)) (upS_g (by decide)) (upS_g (by decide)) (upS_g (by decide)) (fun j _ _ => by rw [upS_g (by decide)]) h.2.2⟩
theorem VS_u4 {S : SS} {i x : Int} (h : VS S) (h0 : 0 ≤ x) (h1 : x < 10) : VS (upS S 4 i x) := ⟨Bn_u4 h.1 h0 h1, Bm_S (upS_g (by decide)) h.2.1, Vl_c (upS_g (by decide)) (upS_g (by decide)) (upS_g (by decide)) (upS_g (by decide)) (fun j _ _ => by rw [upS_g (by decide)]) h.2.2⟩
theorem VS_u6 {S : SS} {i x : Int} (h : VS S) (h0 : 0 ≤ x) (h1 : x < 10) : VS (upS S 6 i x) := ⟨Bn_u6 h.1 h0 h1, Bm_S (upS_g (by decide)) h.2.1, Vl_c (upS_g (by decide)) (upS_g (by decide)) (upS_g (by decide)) (upS_g (by decide)) (fun j _ _ => by rw [upS_g (by decide)]) h.2.2⟩
theorem VS_u7 {S : SS} {i x : Int} (h : VS S) (h0 : 0 ≤ x) (h1 : x < 2) : VS (upS S 7 i x) := ⟨Bn_u7 h.1 h0 h1, Bm_S (upS_g (by decide)) h.2.1, Vl_c (upS_g (by decide)) (upS_g (by decide)) (upS_g (by decide)) (upS_g (by decide)) (fun j _ _ => by rw [upS_g (by decide)]) h.2.2⟩
theorem VS_u8 {S : SS} {i x : Int} (h : VS S) (h0 : 0 ≤ x) (h1 : x < 2) : VS (upS S 8 i x) := ⟨Bn_u8 h.1 h0 h1, Bm_S (upS_g (by decide)) h.2.1, Vl_c (upS_g (by decide)) (upS_g (by decide)) (upS_g (by decide)) (upS_g (by decide)) (fun j _ _ => by rw [upS_g (by decide)]) h.2.2⟩
theorem VS_u15 {S : SS} {i x : Int} (h : VS S) (h0 : 0 ≤ x) (h1 : x < 10) : VS (upS S 15 i x) := ⟨Bn_u15 h.1 h0 h1, Bm_S (upS_g (by decide)) h.2.1, Vl_c (upS_g (by decide)) (upS_g (by decide)) (upS_g (by decide)) (upS_g (by decide)) (fun j _ _ => by rw [upS_g (by decide)]) h.2.2⟩
theorem VS_u16 {S : SS} {i x : Int} (h : VS S) (h0 : -1 ≤ x) (h1 : x < 240) : VS (upS S 16 i x) := ⟨Bn_u16 h.1 h0 h1, Bm_S (upS_g (by decide)) h.2.1, Vl_c (upS_g (by decide)) (upS_g (by decide)) (upS_g (by decide)) (upS_g (by decide)) (fun j _ _ => by rw [upS_g (by decide)]) h.2.2⟩
theorem VS_today {S : SS} {x : Int} (h : VS S) (h0 : 0 ≤ x) (h1 : x ≤ 4) : VS (upS S 20 6 x) := by
  have f : ∀ g : Int, g ≠ 6 → upS S 20 6 x 20 g = S 20 g := fun g hg => upS_i hg
  refine ⟨Bn_c (fun f hf => upS_g (by omega)) h.1, ?_, Vl_c (upS_g (by decide)) (upS_g (by decide)) (upS_g (by decide)) (upS_g (by decide)) (fun j h1 h2 => f j (by omega)) h.2.2⟩
  have hm := h.2.1
  unfold Bm at *
  rw [f 1 (by decide), f 2 (by decide), f 3 (by decide), f 4 (by decide), f 5 (by decide), upS_s]
  omega
theorem VS_weeks {S : SS} {x : Int} (h : VS S) : VS (upS S 20 7 x) := by
  have f : ∀ g : Int, g ≠ 7 → upS S 20 7 x 20 g = S 20 g := fun g hg => upS_i hg
  refine ⟨Bn_c (fun f hf => upS_g (by omega)) h.1, ?_, Vl_c (upS_g (by decide)) (upS_g (by decide)) (upS_g (by decide)) (upS_g (by decide)) (fun j h1 h2 => f j (by omega)) h.2.2⟩
  have hm := h.2.1
  unfold Bm at *
  rw [f 1 (by decide), f 2 (by decide), f 3 (by decide), f 4 (by decide), f 5 (by decide), f 6 (by decide)]
  exact hm
theorem VS_vcount {S : SS} {x : Int} (h : VS S) (h0 : 0 ≤ x) (h1 : x ≤ 6) : VS (upS S 20 5 x) := by
  have f : ∀ g : Int, g ≠ 5 → upS S 20 5 x 20 g = S 20 g := fun g hg => upS_i hg
  refine ⟨Bn_c (fun f hf => upS_g (by omega)) h.1, ?_, Vl_c (upS_g (by decide)) (upS_g (by decide)) (upS_g (by decide)) (upS_g (by decide)) (fun j h1 h2 => f j (by omega)) h.2.2⟩
  have hm := h.2.1
  unfold Bm at *
  rw [f 1 (by decide), f 2 (by decide), f 3 (by decide), f 4 (by decide), f 6 (by decide), upS_s]
  omega
theorem bz_c {S S2 : SS} (h9 : S2 9 = S 9) (h12 : S2 12 = S 12) (h14 : S2 14 = S 14) (g s : Int) : ∀ n k, bz S2 g s n k = bz S g s n k := by
  intro n
  induction n with
  | zero => intro k; rfl
  | succ n ih =>
    intro k
    unfold bz
    rw [ih (k + 1), h9, h12, h14]
theorem gpF_c {S S2 : SS} (h9 : S2 9 = S 9) (h12 : S2 12 = S 12) (h14 : S2 14 = S 14) (h20 : S2 20 4 = S 20 4) (g : Int) : ∀ n s a w, gpF S2 g n s a w = gpF S g n s a w := by
  intro n
  induction n with
  | zero => intro s a w; rfl
  | succ n ih =>
    intro s a w
    unfold gpF
    have e : busyP S2 g s = busyP S g s := by
      unfold busyP
      rw [h20, bz_c h9 h12 h14]
    rw [e, ih, ih]
/-- the amounts look at some fields alone -/
theorem amt_c {S S2 : SS} (h4 : S2 4 = S 4) (h6 : S2 6 = S 6) (h9 : S2 9 = S 9) (h10 : S2 10 = S 10) (h12 : S2 12 = S 12) (h13 : S2 13 = S 13) (h14 : S2 14 = S 14) (h3 : S2 20 3 = S 20 3) (h20 : S2 20 4 = S 20 4) (p : Int) : amt S2 p = amt S p := by
  unfold amt
  rw [h3, h20]
  have e0 : ∀ k : Int, gapK S2 k = gapK S k := fun k => by
    unfold gapK
    rw [gpF_c h9 h12 h14 h20]
  have e1 : ∀ k : Int, lateK S2 k = lateK S k := fun k => by
    unfold lateK
    rw [h14, h12, h4, h10]
  have e2 : ∀ k : Int, wsI S2 k = wsI S k := fun k => by
    unfold wsI
    rw [h14, h12, h6, h10]
  have e3 : ∀ k j : Int, crI S2 k j = crI S k j := fun k j => by
    unfold crI
    rw [h14, h9, h13]
  simp only [e0, e1, e2, e3]
def htB (S : SS) (t j k : Int) : Bool := decide (S 10 k = t) && decide (0 ≤ S 14 k ∧ S 14 k / 8 ≤ j ∧ j < S 14 k / 8 + S 12 k)
def ltB (S : SS) (t k : Int) : Bool := decide (S 10 k = t) && decide (0 ≤ S 14 k ∧ (S 14 k / 8 + S 12 k) % 6 = 0)
theorem sm_cnt {f g : Nat → Int} {q : Nat → Bool} {d : Int} : ∀ n, (∀ k, k < n → g k = f k + (if q k = true then d else 0)) → sumN g n = sumN f n + cntN q n * d := by
  intro n
  induction n with
  | zero => intro _; show (0 : Int) = 0 + 0 * d; rw [Int.zero_mul]; rfl
  | succ n ih =>
    intro h
    have h1 := ih (fun k hk => h k (by omega))
    have h2 := h n (by omega)
    show sumN g n + g n = sumN f n + f n + (cntN q n + (if q n = true then 1 else 0)) * d
    rw [Int.add_mul]
    by_cases c : q n = true
    · rw [if_pos c] at h2 ⊢
      rw [Int.one_mul]
      omega
    · rw [if_neg c] at h2 ⊢
      rw [Int.zero_mul]
      omega
theorem wsI_wish {S : SS} (hV : VS S) {t j w k : Int} (t0 : 0 ≤ t) (j0 : 0 ≤ j) (j1 : j < 30) (k0 : 0 ≤ k) (k1 : k < S 20 4) : wsI (upS S 6 (30 * t + j) w) k = wsI S k + (if htB S t j k = true then w - S 6 (30 * t + j) else 0) := by
  have hl := hV.2.2 k k0 k1
  have hb := hV.1 k
  have e : wsI (upS S 6 (30 * t + j) w) k = if 0 ≤ S 14 k then sumN (fun n => upS S 6 (30 * t + j) w 6 (30 * S 10 k + S 14 k / 8 + (n : Int))) (S 12 k).toNat else 0 := rfl
  have hh : htB S t j k = true ↔ S 10 k = t ∧ 0 ≤ S 14 k ∧ S 14 k / 8 ≤ j ∧ j < S 14 k / 8 + S 12 k := by
    unfold htB
    rw [Bool.and_eq_true, decide_eq_true_eq, decide_eq_true_eq]
  rw [e]
  unfold wsI
  by_cases c : 0 ≤ S 14 k
  · rw [if_pos c, if_pos c]
    by_cases d : S 10 k = t ∧ 0 ≤ S 14 k ∧ S 14 k / 8 ≤ j ∧ j < S 14 k / 8 + S 12 k
    · rw [if_pos (hh.mpr d)]
      refine sm_pt (i := (j - S 14 k / 8).toNat) _ (by omega) (fun n hn hni => upS_i (by omega)) ?_
      show upS S 6 (30 * t + j) w 6 (30 * S 10 k + S 14 k / 8 + (((j - S 14 k / 8).toNat : Nat) : Int)) = S 6 (30 * S 10 k + S 14 k / 8 + (((j - S 14 k / 8).toNat : Nat) : Int)) + _
      rw [show 30 * S 10 k + S 14 k / 8 + (((j - S 14 k / 8).toNat : Nat) : Int) = 30 * t + j by omega, upS_s]
      omega
    · rw [if_neg (fun q => d (hh.mp q)), Int.add_zero]
      refine sumN_c _ (fun n hn => upS_i (fun q => ?_))
      have c1 : S 10 k = t ∨ ¬ S 10 k = t := Decidable.em _
      rcases c1 with c1 | c1
      · exact d ⟨c1, c, by omega, by omega⟩
      · omega
  · rw [if_neg c, if_neg c, if_neg (fun q => c (hh.mp q).2.1)]
    rfl
theorem amt_wishT {S : SS} (hV : VS S) {t j w p : Int} (t0 : 0 ≤ t) (j0 : 0 ≤ j) (j1 : j < 30) : amt (upS S 6 (30 * t + j) w) p = amt S p + (if p ≠ 0 ∧ p ≠ 1 ∧ p = 2 then cntN (fun k => htB S t j k) (S 20 4).toNat * (w - S 6 (30 * t + j)) else 0) := by
  by_cases c : p = 2
  · rw [if_pos ⟨by omega, by omega, c⟩]
    subst c
    have e1 : amt (upS S 6 (30 * t + j) w) 2 = sumN (fun k => wsI (upS S 6 (30 * t + j) w) k) (S 20 4).toNat := rfl
    have e2 : amt S 2 = sumN (fun k => wsI S k) (S 20 4).toNat := rfl
    rw [e1, e2]
    exact sm_cnt _ (fun k hk => wsI_wish hV t0 j0 j1 (by omega) (by omega))
  · rw [if_neg (fun w => c w.2.2), Int.add_zero]
    unfold amt
    have e0 : ∀ k : Int, gapK (upS S 6 (30 * t + j) w) k = gapK S k := fun k => by
      unfold gapK
      rw [gpF_c (S := S) (S2 := upS S 6 (30 * t + j) w) (upS_g (by decide)) (upS_g (by decide)) (upS_g (by decide)) (by rw [upS_g (by decide)])]
    by_cases c0 : p = 0
    · rw [if_pos c0, if_pos c0]
      simp only [e0]
      rfl
    · rw [if_neg c0, if_neg c0, if_neg c, if_neg c]
      rfl
theorem amt_accT {S : SS} {t x p : Int} : amt (upS S 4 t x) p = amt S p + (if p = 1 then cntN (fun k => ltB S t k) (S 20 4).toNat * (x - S 4 t) else 0) := by
  by_cases c : p = 1
  · rw [if_pos c]
    subst c
    have e1 : amt (upS S 4 t x) 1 = sumN (fun k => lateK (upS S 4 t x) k) (S 20 4).toNat := rfl
    have e2 : amt S 1 = sumN (fun k => lateK S k) (S 20 4).toNat := rfl
    rw [e1, e2]
    refine sm_cnt _ (fun k hk => ?_)
    have hh : ltB S t (k : Int) = true ↔ S 10 (k : Int) = t ∧ 0 ≤ S 14 (k : Int) ∧ (S 14 (k : Int) / 8 + S 12 (k : Int)) % 6 = 0 := by
      unfold ltB
      rw [Bool.and_eq_true, decide_eq_true_eq, decide_eq_true_eq]
    show (if 0 ≤ S 14 (k : Int) ∧ (S 14 (k : Int) / 8 + S 12 (k : Int)) % 6 = 0 then 1 + upS S 4 t x 4 (S 10 (k : Int)) else 0) = (if 0 ≤ S 14 (k : Int) ∧ (S 14 (k : Int) / 8 + S 12 (k : Int)) % 6 = 0 then 1 + S 4 (S 10 (k : Int)) else 0) + _
    by_cases d : 0 ≤ S 14 (k : Int) ∧ (S 14 (k : Int) / 8 + S 12 (k : Int)) % 6 = 0
    · rw [if_pos d, if_pos d]
      by_cases q : S 10 (k : Int) = t
      · rw [if_pos (hh.mpr ⟨q, d⟩), q, upS_s]
        omega
      · rw [if_neg (fun w => q (hh.mp w).1), upS_i q]
        omega
    · rw [if_neg d, if_neg d, if_neg (fun w => d (hh.mp w).2)]
      rfl
  · rw [if_neg c, Int.add_zero]
    unfold amt
    have e0 : ∀ k : Int, gapK (upS S 4 t x) k = gapK S k := fun k => by
      unfold gapK
      rw [gpF_c (S := S) (S2 := upS S 4 t x) (upS_g (by decide)) (upS_g (by decide)) (upS_g (by decide)) (by rw [upS_g (by decide)])]
    by_cases c0 : p = 0
    · rw [if_pos c0, if_pos c0]
      simp only [e0]
      rfl
    · rw [if_neg c0, if_neg c0, if_neg c, if_neg c]
      rfl
theorem amt_wish {S : SS} (hV : VS S) {t j w p : Int} (t0 : 0 ≤ t) (j0 : 0 ≤ j) (j1 : j < 30) : amt (upS S 6 (30 * t + j) w) p = amt S p + (if p ≠ 0 ∧ p ≠ 1 ∧ p = 2 then cntN (fun k => htB S t j k) (S 20 4).toNat * (w - S 6 (30 * t + j)) else 0) := amt_wishT hV t0 j0 j1
theorem amt_acc {S : SS} {t x p : Int} : amt (upS S 4 t x) p = amt S p + (if p = 1 then cntN (fun k => ltB S t k) (S 20 4).toNat * (x - S 4 t) else 0) := amt_accT
theorem e_changeWeight {A : AA} {P : Hp} {S : SS} {K : KK} {z : Nat × Nat} (hA : GA A) (hb : Bn S) (hm : Bm S) (hv : Vl S) {q w : Int} (q0 : 0 ≤ q) (q1 : q < 4) (w0 : 0 ≤ w) (w1 : w < 10) : f_X6_changeWeight (A 13 0) (iI q) (iI w) (Hc A P S K, z) = some (.ok (iI (S 15 q)), (Hc A P (upS S 15 q w) K, z)) := by
  have hm2 := hm
  unfold Bm at hm2
  unfold f_X6_changeWeight
  simp -implicitDefEqProofs (disch := omega) only [↓reduceIte, ↓e_lets, ↓e_ite, ↓e_cal, e_cal2, e_cal3, e_thr, e_nthrow, e_rtn, e_r0, e_r1, e_dv, iI_add, iI_sub, iI_mul, iI_neg, iI_div, iI_rem, iI_lt, iI_le, iI_eq, b_eq0, b_eq1, Int.reduceAdd, Int.reduceMul, Int.reduceSub, Int.reduceNeg, Int.reduceDiv, Int.reduceMod, Nat.reduceAdd, Bool.false_eq_true, eq_self, ltT, ltF, leT, leF, eqT, eqF, true_and, and_true, false_and, and_false, and_self, or_true, true_or, or_false, false_or, ne_eq, not_true_eq_false, not_false_eq_true, if_true, if_false, ite_true, ite_false, ite_not, some_none, some_some, none_some, none_none, A_eq hA, li_0, li_1, li_2, li_3, li_4, li_5, li_6, li_7, li_8, li_9, li_10, li_11, li_12, li_13, li_14, li_15, li_16, li_17, li_18, li_19, li_20, li_21, li_22, li_23, li_24, li_25, li_26, li_27, li_28, li_29, li_30, li_31, li_32, li_63, li_64, li_99, li_100, li_128, li_240, li_256, li_512, li_960, li_1000, li_1022, li_1023, li_100000, li_m1, li_m1000, ↓r_v0 hA, ↓r_c0 hA, ↓r_0_0 hA, ↓r_0_1 hA, ↓r_0_2 hA, ↓r_0_3 hA, ↓r_0_4 hA, ↓r_0_5 hA, ↓r_0_6 hA, ↓r_0_7 hA, ↓r_0_8 hA, ↓r_0_9 hA, ↓r_v1 hA, ↓r_c1 hA, ↓r_1_0 hA, ↓r_1_1 hA, ↓r_1_2 hA, ↓r_1_3 hA, ↓r_1_4 hA, ↓r_v2 hA, ↓r_c2 hA, ↓r_2_0 hA, ↓r_2_1 hA, ↓r_2_2 hA, ↓r_v4 hA, ↓r_c4 hA, ↓r_4_0 hA, ↓r_v5 hA, ↓r_c5 hA, ↓r_5_0 hA, ↓r_5_1 hA, ↓r_5_2 hA, ↓r_5_3 hA, ↓r_5_4 hA, ↓r_5_5 hA, ↓r_5_6p hA, ↓r_5_6n hA, ↓r_5_7p hA, ↓r_5_7n hA, ↓r_5_8 hA, ↓r_5_9 hA, ↓r_5_10 hA, ↓r_5_11 hA, ↓r_5_12 hA, ↓r_5_13 hA, ↓r_5_14 hA, ↓r_5_15 hA, ↓r_5_16 hA, ↓r_5_17 hA, ↓r_v11 hA, ↓r_c11 hA, ↓r_11_0 hA, ↓r_11_1p hA, ↓r_11_2 hA, ↓r_v13 hA, ↓r_c13 hA, ↓r_13_0 hA, ↓r_13_1 hA, ↓r_13_2 hA, ↓r_13_3 hA, ↓r_13_4 hA, ↓r_13_5 hA, ↓r_v14 hA, ↓r_c14 hA, ↓r_14_0 hA, ↓r_v15 hA, ↓r_c15 hA, ↓r_15_0 hA, ↓r_15_1 hA, ↓r_v16 hA, ↓r_c16 hA, ↓r_16_0 hA, r_l3 hA, ↓r_l3 hA, ↓r_n3 hA, r_a3 hA, r_l10 hA, ↓r_l10 hA, ↓r_n10 hA, r_a10 hA, r_l20 hA, ↓r_l20 hA, ↓r_n20 hA, r_a20 hA, r_l6 hA, ↓r_l6 hA, ↓r_n6 hA, r_a6 hA, r_l7 hA, ↓r_l7 hA, ↓r_n7 hA, r_a7 hA, r_l8 hA, ↓r_l8 hA, ↓r_n8 hA, r_a8 hA, r_l9 hA, ↓r_l9 hA, ↓r_n9 hA, r_a9 hA, r_l18 hA, ↓r_l18 hA, ↓r_n18 hA, r_a18 hA, r_l19 hA, ↓r_l19 hA, ↓r_n19 hA, r_a19 hA, r_l21 hA, ↓r_l21 hA, ↓r_n21 hA, r_a21 hA, r_l22 hA, ↓r_l22 hA, ↓r_n22 hA, r_a22 hA, r_l23 hA, ↓r_l23 hA, ↓r_n23 hA, r_a23 hA, r_l24 hA, ↓r_l24 hA, ↓r_n24 hA, r_a24 hA, r_l25 hA, ↓r_l25 hA, ↓r_n25 hA, r_a25 hA, r_l17 hA, ↓r_l17 hA, ↓r_n17 hA, r_sz0 hA, r_gt0 hA, r_sz1 hA, r_gt1 hA, r_sz2 hA, r_gt2 hA, r_sz3 hA, r_gt3 hA, w_s6 hA, w_s7 hA, w_s8 hA, w_s9 hA, w_s18 hA, w_s19 hA, w_s21 hA, w_s22 hA, w_s23 hA, w_s24 hA, w_s25 hA, w_f11 hA, w_f12 hA, w_f13 hA, w_f16 hA, ↓w_weight hA]
theorem e_changeWish {A : AA} {P : Hp} {S : SS} {K : KK} {z : Nat × Nat} (hA : GA A) (hV : VS S) (hC : CI S K) {t : Int} (t0 : 0 ≤ t) (t1 : t < S 20 2) {j w : Int} (j0 : 0 ≤ j) (j1 : j < 30) (w0 : 0 ≤ w) (w1 : w < 10) : ∃ K2, f_X6_changeWish (A 13 0) (some (A 2 t)) (iI j) (iI w) (Hc A P S K, z) = some (.ok (iI (S 6 (30 * t + j))), (Hc A P (upS S 6 (30 * t + j) w) K2, z)) ∧ KX K K2 ∧ CI (upS S 6 (30 * t + j) w) K2 := by
  obtain ⟨hb, hm, hv⟩ := hV
  have hm2 := hm
  unfold Bm at hm2
  have h9 : (((S 20 4).toNat : Nat) : Int) = S 20 4 := by omega
  generalize hd : w - S 6 (30 * t + j) = d
  have hL := loopDE (fun f (q : Int32) (T : KK) => L_X6_changeWish_13 (some (A 13 0)) (some (A 2 t)) (iI j) (iI w) (iI (S 6 (30 * t + j))) ((if (iI j) < 0 then rtn (iI (S 6 (30 * t + j))) else gR (some (A 2 t)) 10 0 fun v19 => alen v19 fun v20 => (if v20 ≤ (iI j) then rtn (iI (S 6 (30 * t + j))) else gR (some (A 2 t)) 10 0 fun v21 => stI v21 (iI j) (iI w) (rtn (iI (S 6 (30 * t + j))))))) f q (Hc A P S T, z)) (fun m => iI (m : Int)) (fun m T => KX K T ∧ AmI T (fun p => amt S p + (if p = 2 then cntN (fun k => htB S t j k) m * d else 0))) (S 20 4).toNat (fun T => some (.ok (iI (S 6 (30 * t + j))), (Hc A P (upS S 6 (30 * t + j) w) T, z))) (fun k f T hk hI => ?_) (fun f T hI => ?_) 100000 K (by omega) ⟨KX.rfl, fun p p0 p1 => by rw [hC p p0 p1]; congr 1; show _ = _ + (if p = 2 then 0 * d else 0); split <;> omega⟩
  · obtain ⟨K2, ⟨h1, h2⟩, h3⟩ := hL
    refine ⟨K2, ?_, h1, fun p p0 p1 => ?_⟩
    · rw [← h3]
      unfold f_X6_changeWish
      simp -implicitDefEqProofs (disch := omega) only [↓reduceIte, ↓e_lets, ↓e_ite, ↓e_cal, e_cal2, e_cal3, e_thr, e_nthrow, e_rtn, e_r0, e_r1, e_dv, iI_add, iI_sub, iI_mul, iI_neg, iI_div, iI_rem, iI_lt, iI_le, iI_eq, b_eq0, b_eq1, Int.reduceAdd, Int.reduceMul, Int.reduceSub, Int.reduceNeg, Int.reduceDiv, Int.reduceMod, Nat.reduceAdd, Bool.false_eq_true, eq_self, ltT, ltF, leT, leF, eqT, eqF, true_and, and_true, false_and, and_false, and_self, or_true, true_or, or_false, false_or, ne_eq, not_true_eq_false, not_false_eq_true, if_true, if_false, ite_true, ite_false, ite_not, some_none, some_some, none_some, none_none, A_eq hA, ↓r_v0 hA, ↓r_c0 hA, ↓r_0_0 hA, ↓r_0_1 hA, ↓r_0_2 hA, ↓r_0_3 hA, ↓r_0_4 hA, ↓r_0_5 hA, ↓r_0_6 hA, ↓r_0_7 hA, ↓r_0_8 hA, ↓r_0_9 hA, ↓r_v1 hA, ↓r_c1 hA, ↓r_1_0 hA, ↓r_1_1 hA, ↓r_1_2 hA, ↓r_1_3 hA, ↓r_1_4 hA, ↓r_v2 hA, ↓r_c2 hA, ↓r_2_0 hA, ↓r_2_1 hA, ↓r_2_2 hA, ↓r_v4 hA, ↓r_c4 hA, ↓r_4_0 hA, ↓r_v5 hA, ↓r_c5 hA, ↓r_5_0 hA, ↓r_5_1 hA, ↓r_5_2 hA, ↓r_5_3 hA, ↓r_5_4 hA, ↓r_5_5 hA, ↓r_5_6p hA, ↓r_5_6n hA, ↓r_5_7p hA, ↓r_5_7n hA, ↓r_5_8 hA, ↓r_5_9 hA, ↓r_5_10 hA, ↓r_5_11 hA, ↓r_5_12 hA, ↓r_5_13 hA, ↓r_5_14 hA, ↓r_5_15 hA, ↓r_5_16 hA, ↓r_5_17 hA, ↓r_v11 hA, ↓r_c11 hA, ↓r_11_0 hA, ↓r_11_1p hA, ↓r_11_2 hA, ↓r_v13 hA, ↓r_c13 hA, ↓r_13_0 hA, ↓r_13_1 hA, ↓r_13_2 hA, ↓r_13_3 hA, ↓r_13_4 hA, ↓r_13_5 hA, ↓r_v14 hA, ↓r_c14 hA, ↓r_14_0 hA, ↓r_v15 hA, ↓r_c15 hA, ↓r_15_0 hA, ↓r_15_1 hA, ↓r_v16 hA, ↓r_c16 hA, ↓r_16_0 hA, r_l3 hA, ↓r_l3 hA, ↓r_n3 hA, r_a3 hA, r_l10 hA, ↓r_l10 hA, ↓r_n10 hA, r_a10 hA, r_l20 hA, ↓r_l20 hA, ↓r_n20 hA, r_a20 hA, r_l6 hA, ↓r_l6 hA, ↓r_n6 hA, r_a6 hA, r_l7 hA, ↓r_l7 hA, ↓r_n7 hA, r_a7 hA, r_l8 hA, ↓r_l8 hA, ↓r_n8 hA, r_a8 hA, r_l9 hA, ↓r_l9 hA, ↓r_n9 hA, r_a9 hA, r_l18 hA, ↓r_l18 hA, ↓r_n18 hA, r_a18 hA, r_l19 hA, ↓r_l19 hA, ↓r_n19 hA, r_a19 hA, r_l21 hA, ↓r_l21 hA, ↓r_n21 hA, r_a21 hA, r_l22 hA, ↓r_l22 hA, ↓r_n22 hA, r_a22 hA, r_l23 hA, ↓r_l23 hA, ↓r_n23 hA, r_a23 hA, r_l24 hA, ↓r_l24 hA, ↓r_n24 hA, r_a24 hA, r_l25 hA, ↓r_l25 hA, ↓r_n25 hA, r_a25 hA, r_l17 hA, ↓r_l17 hA, ↓r_n17 hA, r_sz0 hA, r_gt0 hA, r_sz1 hA, r_gt1 hA, r_sz2 hA, r_gt2 hA, r_sz3 hA, r_gt3 hA, w_s6 hA, w_s7 hA, w_s8 hA, w_s9 hA, w_s18 hA, w_s19 hA, w_s21 hA, w_s22 hA, w_s23 hA, w_s24 hA, w_s25 hA, w_f11 hA, w_f12 hA, w_f13 hA, w_f16 hA]
      rfl
    · rw [h2 p p0 p1, amt_wish ⟨hb, hm, hv⟩ t0 j0 j1, hd]
      dsimp only
      congr 2
      by_cases c : p = 2
      · rw [if_pos c, if_pos (by omega)]
      · rw [if_neg c, if_neg (by omega)]
  · have k1 : (k : Int) < S 20 4 := by omega
    have hk2 := hv k (by omega) k1
    have e1 := fun T => e_hoursNow (P := P) (K := T) (z := z) hA hb hm hv (l := (k : Int)) (by omega) k1
    have e2 := hnM_has hb hv (k := (k : Int)) (by omega) k1 (j := j.toNat) (by omega)
    rw [show ((j.toNat : Nat) : Int) = j by omega] at e2
    have hs : cntN (fun k => htB S t j k) (k + 1) = cntN (fun k => htB S t j k) k + (if htB S t j k = true then 1 else 0) := rfl
    by_cases c : S 10 (k : Int) = t
    · by_cases c2 : 0 ≤ S 14 (k : Int) ∧ S 14 (k : Int) / 8 ≤ j ∧ j < S 14 (k : Int) / 8 + S 12 (k : Int)
      · have hh : htB S t j k = true := by unfold htB; rw [decide_eq_true c, decide_eq_true c2]; rfl
        rw [decide_eq_true c2] at e2
        have e3 := hI.2 2 (by decide) (by decide)
        refine ⟨up3 T 21 0 2 (T 21 0 2 + iI d), ⟨fun a b c h1 h2 => (up3_k h2).trans (hI.1 a b c h1 h2), fun p p0 p1 => ?_⟩, ?_⟩
        · by_cases c3 : p = 2
          · subst c3
            rw [up3_s, e3, iI_add, hs, if_pos hh]
            dsimp only
            rw [if_pos rfl, if_pos rfl, Int.add_mul, Int.one_mul, Int.add_assoc]
          · rw [up3_j c3, hI.2 p p0 p1]
            dsimp only
            rw [if_neg c3, if_neg c3]
        · show L_X6_changeWish_13 _ _ _ _ _ _ (f + 1) (iI (k : Int)) (Hc A P S T, z) = L_X6_changeWish_13 _ _ _ _ _ _ f (iI ((k + 1 : Nat) : Int)) (Hc A P S (up3 T 21 0 2 (T 21 0 2 + iI d)), z)
          rw [u_L_X6_changeWish_13, nat1]
          simp -implicitDefEqProofs (disch := omega) only [↓reduceIte, ↓e_lets, ↓e_ite, ↓e_cal, e_cal2, e_cal3, e_thr, e_nthrow, e_rtn, e_r0, e_r1, e_dv, iI_add, iI_sub, iI_mul, iI_neg, iI_div, iI_rem, iI_lt, iI_le, iI_eq, b_eq0, b_eq1, Int.reduceAdd, Int.reduceMul, Int.reduceSub, Int.reduceNeg, Int.reduceDiv, Int.reduceMod, Nat.reduceAdd, Bool.false_eq_true, eq_self, ltT, ltF, leT, leF, eqT, eqF, true_and, and_true, false_and, and_false, and_self, or_true, true_or, or_false, false_or, ne_eq, not_true_eq_false, not_false_eq_true, if_true, if_false, ite_true, ite_false, ite_not, some_none, some_some, none_some, none_none, A_eq hA, li_0, li_1, li_2, li_3, li_4, li_5, li_6, li_7, li_8, li_9, li_10, li_11, li_12, li_13, li_14, li_15, li_16, li_17, li_18, li_19, li_20, li_21, li_22, li_23, li_24, li_25, li_26, li_27, li_28, li_29, li_30, li_31, li_32, li_63, li_64, li_99, li_100, li_128, li_240, li_256, li_512, li_960, li_1000, li_1022, li_1023, li_100000, li_m1, li_m1000, ↓r_v0 hA, ↓r_c0 hA, ↓r_0_0 hA, ↓r_0_1 hA, ↓r_0_2 hA, ↓r_0_3 hA, ↓r_0_4 hA, ↓r_0_5 hA, ↓r_0_6 hA, ↓r_0_7 hA, ↓r_0_8 hA, ↓r_0_9 hA, ↓r_v1 hA, ↓r_c1 hA, ↓r_1_0 hA, ↓r_1_1 hA, ↓r_1_2 hA, ↓r_1_3 hA, ↓r_1_4 hA, ↓r_v2 hA, ↓r_c2 hA, ↓r_2_0 hA, ↓r_2_1 hA, ↓r_2_2 hA, ↓r_v4 hA, ↓r_c4 hA, ↓r_4_0 hA, ↓r_v5 hA, ↓r_c5 hA, ↓r_5_0 hA, ↓r_5_1 hA, ↓r_5_2 hA, ↓r_5_3 hA, ↓r_5_4 hA, ↓r_5_5 hA, ↓r_5_6p hA, ↓r_5_6n hA, ↓r_5_7p hA, ↓r_5_7n hA, ↓r_5_8 hA, ↓r_5_9 hA, ↓r_5_10 hA, ↓r_5_11 hA, ↓r_5_12 hA, ↓r_5_13 hA, ↓r_5_14 hA, ↓r_5_15 hA, ↓r_5_16 hA, ↓r_5_17 hA, ↓r_v11 hA, ↓r_c11 hA, ↓r_11_0 hA, ↓r_11_1p hA, ↓r_11_2 hA, ↓r_v13 hA, ↓r_c13 hA, ↓r_13_0 hA, ↓r_13_1 hA, ↓r_13_2 hA, ↓r_13_3 hA, ↓r_13_4 hA, ↓r_13_5 hA, ↓r_v14 hA, ↓r_c14 hA, ↓r_14_0 hA, ↓r_v15 hA, ↓r_c15 hA, ↓r_15_0 hA, ↓r_15_1 hA, ↓r_v16 hA, ↓r_c16 hA, ↓r_16_0 hA, r_l3 hA, ↓r_l3 hA, ↓r_n3 hA, r_a3 hA, r_l10 hA, ↓r_l10 hA, ↓r_n10 hA, r_a10 hA, r_l20 hA, ↓r_l20 hA, ↓r_n20 hA, r_a20 hA, r_l6 hA, ↓r_l6 hA, ↓r_n6 hA, r_a6 hA, r_l7 hA, ↓r_l7 hA, ↓r_n7 hA, r_a7 hA, r_l8 hA, ↓r_l8 hA, ↓r_n8 hA, r_a8 hA, r_l9 hA, ↓r_l9 hA, ↓r_n9 hA, r_a9 hA, r_l18 hA, ↓r_l18 hA, ↓r_n18 hA, r_a18 hA, r_l19 hA, ↓r_l19 hA, ↓r_n19 hA, r_a19 hA, r_l21 hA, ↓r_l21 hA, ↓r_n21 hA, r_a21 hA, r_l22 hA, ↓r_l22 hA, ↓r_n22 hA, r_a22 hA, r_l23 hA, ↓r_l23 hA, ↓r_n23 hA, r_a23 hA, r_l24 hA, ↓r_l24 hA, ↓r_n24 hA, r_a24 hA, r_l25 hA, ↓r_l25 hA, ↓r_n25 hA, r_a25 hA, r_l17 hA, ↓r_l17 hA, ↓r_n17 hA, r_sz0 hA, r_gt0 hA, r_sz1 hA, r_gt1 hA, r_sz2 hA, r_gt2 hA, r_sz3 hA, r_gt3 hA, w_s6 hA, w_s7 hA, w_s8 hA, w_s9 hA, w_s18 hA, w_s19 hA, w_s21 hA, w_s22 hA, w_s23 hA, w_s24 hA, w_s25 hA, w_f11 hA, w_f12 hA, w_f13 hA, w_f16 hA, e1, e2, e_hasI, hd, ↓u_j_X6_changeWish_73]
      · have hh : htB S t j k = false := by unfold htB; rw [decide_eq_false c2, Bool.and_false]
        rw [decide_eq_false c2] at e2
        refine ⟨T, ⟨hI.1, by rw [hs, hh]; simpa using hI.2⟩, ?_⟩
        show L_X6_changeWish_13 _ _ _ _ _ _ (f + 1) (iI (k : Int)) (Hc A P S T, z) = L_X6_changeWish_13 _ _ _ _ _ _ f (iI ((k + 1 : Nat) : Int)) (Hc A P S T, z)
        rw [u_L_X6_changeWish_13, nat1]
        simp -implicitDefEqProofs (disch := omega) only [↓reduceIte, ↓e_lets, ↓e_ite, ↓e_cal, e_cal2, e_cal3, e_thr, e_nthrow, e_rtn, e_r0, e_r1, e_dv, iI_add, iI_sub, iI_mul, iI_neg, iI_div, iI_rem, iI_lt, iI_le, iI_eq, b_eq0, b_eq1, Int.reduceAdd, Int.reduceMul, Int.reduceSub, Int.reduceNeg, Int.reduceDiv, Int.reduceMod, Nat.reduceAdd, Bool.false_eq_true, eq_self, ltT, ltF, leT, leF, eqT, eqF, true_and, and_true, false_and, and_false, and_self, or_true, true_or, or_false, false_or, ne_eq, not_true_eq_false, not_false_eq_true, if_true, if_false, ite_true, ite_false, ite_not, some_none, some_some, none_some, none_none, A_eq hA, li_0, li_1, li_2, li_3, li_4, li_5, li_6, li_7, li_8, li_9, li_10, li_11, li_12, li_13, li_14, li_15, li_16, li_17, li_18, li_19, li_20, li_21, li_22, li_23, li_24, li_25, li_26, li_27, li_28, li_29, li_30, li_31, li_32, li_63, li_64, li_99, li_100, li_128, li_240, li_256, li_512, li_960, li_1000, li_1022, li_1023, li_100000, li_m1, li_m1000, ↓r_v0 hA, ↓r_c0 hA, ↓r_0_0 hA, ↓r_0_1 hA, ↓r_0_2 hA, ↓r_0_3 hA, ↓r_0_4 hA, ↓r_0_5 hA, ↓r_0_6 hA, ↓r_0_7 hA, ↓r_0_8 hA, ↓r_0_9 hA, ↓r_v1 hA, ↓r_c1 hA, ↓r_1_0 hA, ↓r_1_1 hA, ↓r_1_2 hA, ↓r_1_3 hA, ↓r_1_4 hA, ↓r_v2 hA, ↓r_c2 hA, ↓r_2_0 hA, ↓r_2_1 hA, ↓r_2_2 hA, ↓r_v4 hA, ↓r_c4 hA, ↓r_4_0 hA, ↓r_v5 hA, ↓r_c5 hA, ↓r_5_0 hA, ↓r_5_1 hA, ↓r_5_2 hA, ↓r_5_3 hA, ↓r_5_4 hA, ↓r_5_5 hA, ↓r_5_6p hA, ↓r_5_6n hA, ↓r_5_7p hA, ↓r_5_7n hA, ↓r_5_8 hA, ↓r_5_9 hA, ↓r_5_10 hA, ↓r_5_11 hA, ↓r_5_12 hA, ↓r_5_13 hA, ↓r_5_14 hA, ↓r_5_15 hA, ↓r_5_16 hA, ↓r_5_17 hA, ↓r_v11 hA, ↓r_c11 hA, ↓r_11_0 hA, ↓r_11_1p hA, ↓r_11_2 hA, ↓r_v13 hA, ↓r_c13 hA, ↓r_13_0 hA, ↓r_13_1 hA, ↓r_13_2 hA, ↓r_13_3 hA, ↓r_13_4 hA, ↓r_13_5 hA, ↓r_v14 hA, ↓r_c14 hA, ↓r_14_0 hA, ↓r_v15 hA, ↓r_c15 hA, ↓r_15_0 hA, ↓r_15_1 hA, ↓r_v16 hA, ↓r_c16 hA, ↓r_16_0 hA, r_l3 hA, ↓r_l3 hA, ↓r_n3 hA, r_a3 hA, r_l10 hA, ↓r_l10 hA, ↓r_n10 hA, r_a10 hA, r_l20 hA, ↓r_l20 hA, ↓r_n20 hA, r_a20 hA, r_l6 hA, ↓r_l6 hA, ↓r_n6 hA, r_a6 hA, r_l7 hA, ↓r_l7 hA, ↓r_n7 hA, r_a7 hA, r_l8 hA, ↓r_l8 hA, ↓r_n8 hA, r_a8 hA, r_l9 hA, ↓r_l9 hA, ↓r_n9 hA, r_a9 hA, r_l18 hA, ↓r_l18 hA, ↓r_n18 hA, r_a18 hA, r_l19 hA, ↓r_l19 hA, ↓r_n19 hA, r_a19 hA, r_l21 hA, ↓r_l21 hA, ↓r_n21 hA, r_a21 hA, r_l22 hA, ↓r_l22 hA, ↓r_n22 hA, r_a22 hA, r_l23 hA, ↓r_l23 hA, ↓r_n23 hA, r_a23 hA, r_l24 hA, ↓r_l24 hA, ↓r_n24 hA, r_a24 hA, r_l25 hA, ↓r_l25 hA, ↓r_n25 hA, r_a25 hA, r_l17 hA, ↓r_l17 hA, ↓r_n17 hA, r_sz0 hA, r_gt0 hA, r_sz1 hA, r_gt1 hA, r_sz2 hA, r_gt2 hA, r_sz3 hA, r_gt3 hA, w_s6 hA, w_s7 hA, w_s8 hA, w_s9 hA, w_s18 hA, w_s19 hA, w_s21 hA, w_s22 hA, w_s23 hA, w_s24 hA, w_s25 hA, w_f11 hA, w_f12 hA, w_f13 hA, w_f16 hA, e1, e2, e_hasI, hd, ↓u_j_X6_changeWish_73]
    · have hh : htB S t j k = false := by unfold htB; rw [decide_eq_false c, Bool.false_and]
      refine ⟨T, ⟨hI.1, by rw [hs, hh]; simpa using hI.2⟩, ?_⟩
      show L_X6_changeWish_13 _ _ _ _ _ _ (f + 1) (iI (k : Int)) (Hc A P S T, z) = L_X6_changeWish_13 _ _ _ _ _ _ f (iI ((k + 1 : Nat) : Int)) (Hc A P S T, z)
      rw [u_L_X6_changeWish_13, nat1]
      simp -implicitDefEqProofs (disch := omega) only [↓reduceIte, ↓e_lets, ↓e_ite, ↓e_cal, e_cal2, e_cal3, e_thr, e_nthrow, e_rtn, e_r0, e_r1, e_dv, iI_add, iI_sub, iI_mul, iI_neg, iI_div, iI_rem, iI_lt, iI_le, iI_eq, b_eq0, b_eq1, Int.reduceAdd, Int.reduceMul, Int.reduceSub, Int.reduceNeg, Int.reduceDiv, Int.reduceMod, Nat.reduceAdd, Bool.false_eq_true, eq_self, ltT, ltF, leT, leF, eqT, eqF, true_and, and_true, false_and, and_false, and_self, or_true, true_or, or_false, false_or, ne_eq, not_true_eq_false, not_false_eq_true, if_true, if_false, ite_true, ite_false, ite_not, some_none, some_some, none_some, none_none, A_eq hA, li_0, li_1, li_2, li_3, li_4, li_5, li_6, li_7, li_8, li_9, li_10, li_11, li_12, li_13, li_14, li_15, li_16, li_17, li_18, li_19, li_20, li_21, li_22, li_23, li_24, li_25, li_26, li_27, li_28, li_29, li_30, li_31, li_32, li_63, li_64, li_99, li_100, li_128, li_240, li_256, li_512, li_960, li_1000, li_1022, li_1023, li_100000, li_m1, li_m1000, ↓r_v0 hA, ↓r_c0 hA, ↓r_0_0 hA, ↓r_0_1 hA, ↓r_0_2 hA, ↓r_0_3 hA, ↓r_0_4 hA, ↓r_0_5 hA, ↓r_0_6 hA, ↓r_0_7 hA, ↓r_0_8 hA, ↓r_0_9 hA, ↓r_v1 hA, ↓r_c1 hA, ↓r_1_0 hA, ↓r_1_1 hA, ↓r_1_2 hA, ↓r_1_3 hA, ↓r_1_4 hA, ↓r_v2 hA, ↓r_c2 hA, ↓r_2_0 hA, ↓r_2_1 hA, ↓r_2_2 hA, ↓r_v4 hA, ↓r_c4 hA, ↓r_4_0 hA, ↓r_v5 hA, ↓r_c5 hA, ↓r_5_0 hA, ↓r_5_1 hA, ↓r_5_2 hA, ↓r_5_3 hA, ↓r_5_4 hA, ↓r_5_5 hA, ↓r_5_6p hA, ↓r_5_6n hA, ↓r_5_7p hA, ↓r_5_7n hA, ↓r_5_8 hA, ↓r_5_9 hA, ↓r_5_10 hA, ↓r_5_11 hA, ↓r_5_12 hA, ↓r_5_13 hA, ↓r_5_14 hA, ↓r_5_15 hA, ↓r_5_16 hA, ↓r_5_17 hA, ↓r_v11 hA, ↓r_c11 hA, ↓r_11_0 hA, ↓r_11_1p hA, ↓r_11_2 hA, ↓r_v13 hA, ↓r_c13 hA, ↓r_13_0 hA, ↓r_13_1 hA, ↓r_13_2 hA, ↓r_13_3 hA, ↓r_13_4 hA, ↓r_13_5 hA, ↓r_v14 hA, ↓r_c14 hA, ↓r_14_0 hA, ↓r_v15 hA, ↓r_c15 hA, ↓r_15_0 hA, ↓r_15_1 hA, ↓r_v16 hA, ↓r_c16 hA, ↓r_16_0 hA, r_l3 hA, ↓r_l3 hA, ↓r_n3 hA, r_a3 hA, r_l10 hA, ↓r_l10 hA, ↓r_n10 hA, r_a10 hA, r_l20 hA, ↓r_l20 hA, ↓r_n20 hA, r_a20 hA, r_l6 hA, ↓r_l6 hA, ↓r_n6 hA, r_a6 hA, r_l7 hA, ↓r_l7 hA, ↓r_n7 hA, r_a7 hA, r_l8 hA, ↓r_l8 hA, ↓r_n8 hA, r_a8 hA, r_l9 hA, ↓r_l9 hA, ↓r_n9 hA, r_a9 hA, r_l18 hA, ↓r_l18 hA, ↓r_n18 hA, r_a18 hA, r_l19 hA, ↓r_l19 hA, ↓r_n19 hA, r_a19 hA, r_l21 hA, ↓r_l21 hA, ↓r_n21 hA, r_a21 hA, r_l22 hA, ↓r_l22 hA, ↓r_n22 hA, r_a22 hA, r_l23 hA, ↓r_l23 hA, ↓r_n23 hA, r_a23 hA, r_l24 hA, ↓r_l24 hA, ↓r_n24 hA, r_a24 hA, r_l25 hA, ↓r_l25 hA, ↓r_n25 hA, r_a25 hA, r_l17 hA, ↓r_l17 hA, ↓r_n17 hA, r_sz0 hA, r_gt0 hA, r_sz1 hA, r_gt1 hA, r_sz2 hA, r_gt2 hA, r_sz3 hA, r_gt3 hA, w_s6 hA, w_s7 hA, w_s8 hA, w_s9 hA, w_s18 hA, w_s19 hA, w_s21 hA, w_s22 hA, w_s23 hA, w_s24 hA, w_s25 hA, w_f11 hA, w_f12 hA, w_f13 hA, w_f16 hA, e1, e2, e_hasI, hd, ↓u_j_X6_changeWish_73]
  · show L_X6_changeWish_13 _ _ _ _ _ _ (f + 1) (iI (((S 20 4).toNat : Nat) : Int)) (Hc A P S T, z) = _
    rw [h9, u_L_X6_changeWish_13]
    simp -implicitDefEqProofs (disch := omega) only [↓reduceIte, ↓e_lets, ↓e_ite, ↓e_cal, e_cal2, e_cal3, e_thr, e_nthrow, e_rtn, e_r0, e_r1, e_dv, iI_add, iI_sub, iI_mul, iI_neg, iI_div, iI_rem, iI_lt, iI_le, iI_eq, b_eq0, b_eq1, Int.reduceAdd, Int.reduceMul, Int.reduceSub, Int.reduceNeg, Int.reduceDiv, Int.reduceMod, Nat.reduceAdd, Bool.false_eq_true, eq_self, ltT, ltF, leT, leF, eqT, eqF, true_and, and_true, false_and, and_false, and_self, or_true, true_or, or_false, false_or, ne_eq, not_true_eq_false, not_false_eq_true, if_true, if_false, ite_true, ite_false, ite_not, some_none, some_some, none_some, none_none, A_eq hA, li_0, li_1, li_2, li_3, li_4, li_5, li_6, li_7, li_8, li_9, li_10, li_11, li_12, li_13, li_14, li_15, li_16, li_17, li_18, li_19, li_20, li_21, li_22, li_23, li_24, li_25, li_26, li_27, li_28, li_29, li_30, li_31, li_32, li_63, li_64, li_99, li_100, li_128, li_240, li_256, li_512, li_960, li_1000, li_1022, li_1023, li_100000, li_m1, li_m1000, ↓r_v0 hA, ↓r_c0 hA, ↓r_0_0 hA, ↓r_0_1 hA, ↓r_0_2 hA, ↓r_0_3 hA, ↓r_0_4 hA, ↓r_0_5 hA, ↓r_0_6 hA, ↓r_0_7 hA, ↓r_0_8 hA, ↓r_0_9 hA, ↓r_v1 hA, ↓r_c1 hA, ↓r_1_0 hA, ↓r_1_1 hA, ↓r_1_2 hA, ↓r_1_3 hA, ↓r_1_4 hA, ↓r_v2 hA, ↓r_c2 hA, ↓r_2_0 hA, ↓r_2_1 hA, ↓r_2_2 hA, ↓r_v4 hA, ↓r_c4 hA, ↓r_4_0 hA, ↓r_v5 hA, ↓r_c5 hA, ↓r_5_0 hA, ↓r_5_1 hA, ↓r_5_2 hA, ↓r_5_3 hA, ↓r_5_4 hA, ↓r_5_5 hA, ↓r_5_6p hA, ↓r_5_6n hA, ↓r_5_7p hA, ↓r_5_7n hA, ↓r_5_8 hA, ↓r_5_9 hA, ↓r_5_10 hA, ↓r_5_11 hA, ↓r_5_12 hA, ↓r_5_13 hA, ↓r_5_14 hA, ↓r_5_15 hA, ↓r_5_16 hA, ↓r_5_17 hA, ↓r_v11 hA, ↓r_c11 hA, ↓r_11_0 hA, ↓r_11_1p hA, ↓r_11_2 hA, ↓r_v13 hA, ↓r_c13 hA, ↓r_13_0 hA, ↓r_13_1 hA, ↓r_13_2 hA, ↓r_13_3 hA, ↓r_13_4 hA, ↓r_13_5 hA, ↓r_v14 hA, ↓r_c14 hA, ↓r_14_0 hA, ↓r_v15 hA, ↓r_c15 hA, ↓r_15_0 hA, ↓r_15_1 hA, ↓r_v16 hA, ↓r_c16 hA, ↓r_16_0 hA, r_l3 hA, ↓r_l3 hA, ↓r_n3 hA, r_a3 hA, r_l10 hA, ↓r_l10 hA, ↓r_n10 hA, r_a10 hA, r_l20 hA, ↓r_l20 hA, ↓r_n20 hA, r_a20 hA, r_l6 hA, ↓r_l6 hA, ↓r_n6 hA, r_a6 hA, r_l7 hA, ↓r_l7 hA, ↓r_n7 hA, r_a7 hA, r_l8 hA, ↓r_l8 hA, ↓r_n8 hA, r_a8 hA, r_l9 hA, ↓r_l9 hA, ↓r_n9 hA, r_a9 hA, r_l18 hA, ↓r_l18 hA, ↓r_n18 hA, r_a18 hA, r_l19 hA, ↓r_l19 hA, ↓r_n19 hA, r_a19 hA, r_l21 hA, ↓r_l21 hA, ↓r_n21 hA, r_a21 hA, r_l22 hA, ↓r_l22 hA, ↓r_n22 hA, r_a22 hA, r_l23 hA, ↓r_l23 hA, ↓r_n23 hA, r_a23 hA, r_l24 hA, ↓r_l24 hA, ↓r_n24 hA, r_a24 hA, r_l25 hA, ↓r_l25 hA, ↓r_n25 hA, r_a25 hA, r_l17 hA, ↓r_l17 hA, ↓r_n17 hA, r_sz0 hA, r_gt0 hA, r_sz1 hA, r_gt1 hA, r_sz2 hA, r_gt2 hA, r_sz3 hA, r_gt3 hA, w_s6 hA, w_s7 hA, w_s8 hA, w_s9 hA, w_s18 hA, w_s19 hA, w_s21 hA, w_s22 hA, w_s23 hA, w_s24 hA, w_s25 hA, w_f11 hA, w_f12 hA, w_f13 hA, w_f16 hA, ↓w_wish hA]
theorem e_lateOf {A : AA} {P : Hp} {S : SS} {K : KK} {z : Nat × Nat} (hA : GA A) (hb : Bn S) (hm : Bm S) (hv : Vl S) {t : Int} (t0 : 0 ≤ t) (t1 : t < S 20 2)  : f_X6_lateLessonsOf (A 13 0) (some (A 2 t)) (Hc A P S K, z) = some (.ok (iI (cntN (fun k => ltB S t k) (S 20 4).toNat)), (Hc A P S K, z)) := by
  have hm2 := hm
  unfold Bm at hm2
  unfold f_X6_lateLessonsOf
  rw [e_lets, e_lets, li_0]
  have h9 : (((S 20 4).toNat : Nat) : Int) = S 20 4 := by omega
  refine loopD (fun f (qq : Int32 × Int32) => L_X6_lateLessonsOf_4 (some (A 13 0)) (some (A 2 t)) (fun v => rtn v) f qq.1 qq.2 (Hc A P S K, z)) (fun m => (iI (cntN (fun k => ltB S t k) m), iI (m : Int))) (S 20 4).toNat _ (fun k f hk => ?_) (fun f => ?_) 100000 (by omega)
  · show L_X6_lateLessonsOf_4 _ _ _ (f + 1) (iI (cntN (fun k => ltB S t k) k)) (iI (k : Int)) (Hc A P S K, z) = L_X6_lateLessonsOf_4 _ _ _ f (iI (cntN (fun k => ltB S t k) (k + 1))) (iI ((k + 1) : Int)) (Hc A P S K, z)
    have hs : cntN (fun k => ltB S t k) (k + 1) = cntN (fun k => ltB S t k) k + (if ltB S t k = true then 1 else 0) := rfl
    have k1 : (k : Int) < S 20 4 := by omega
    have hk2 := hv k (by omega) k1
    have e1 := e_isLate (P := P) (K := K) (z := z) hA hb hm hv (l := (k : Int)) (by omega) k1
    rw [hs, u_L_X6_lateLessonsOf_4]
    by_cases c : S 10 (k : Int) = t
    · by_cases c2 : 0 ≤ S 14 (k : Int) ∧ (S 14 (k : Int) / 8 + S 12 (k : Int)) % 6 = 0
      · have hh : ltB S t k = true := by unfold ltB; rw [decide_eq_true c, decide_eq_true c2]; rfl
        rw [if_pos c2] at e1
        rw [hh, if_pos rfl]
        simp -implicitDefEqProofs (disch := omega) only [↓reduceIte, ↓e_lets, ↓e_ite, ↓e_cal, e_cal2, e_cal3, e_thr, e_nthrow, e_rtn, e_r0, e_r1, e_dv, iI_add, iI_sub, iI_mul, iI_neg, iI_div, iI_rem, iI_lt, iI_le, iI_eq, b_eq0, b_eq1, Int.reduceAdd, Int.reduceMul, Int.reduceSub, Int.reduceNeg, Int.reduceDiv, Int.reduceMod, Nat.reduceAdd, Bool.false_eq_true, eq_self, ltT, ltF, leT, leF, eqT, eqF, true_and, and_true, false_and, and_false, and_self, or_true, true_or, or_false, false_or, ne_eq, not_true_eq_false, not_false_eq_true, if_true, if_false, ite_true, ite_false, ite_not, some_none, some_some, none_some, none_none, A_eq hA, li_0, li_1, li_2, li_3, li_4, li_5, li_6, li_7, li_8, li_9, li_10, li_11, li_12, li_13, li_14, li_15, li_16, li_17, li_18, li_19, li_20, li_21, li_22, li_23, li_24, li_25, li_26, li_27, li_28, li_29, li_30, li_31, li_32, li_63, li_64, li_99, li_100, li_128, li_240, li_256, li_512, li_960, li_1000, li_1022, li_1023, li_100000, li_m1, li_m1000, ↓r_v0 hA, ↓r_c0 hA, ↓r_0_0 hA, ↓r_0_1 hA, ↓r_0_2 hA, ↓r_0_3 hA, ↓r_0_4 hA, ↓r_0_5 hA, ↓r_0_6 hA, ↓r_0_7 hA, ↓r_0_8 hA, ↓r_0_9 hA, ↓r_v1 hA, ↓r_c1 hA, ↓r_1_0 hA, ↓r_1_1 hA, ↓r_1_2 hA, ↓r_1_3 hA, ↓r_1_4 hA, ↓r_v2 hA, ↓r_c2 hA, ↓r_2_0 hA, ↓r_2_1 hA, ↓r_2_2 hA, ↓r_v4 hA, ↓r_c4 hA, ↓r_4_0 hA, ↓r_v5 hA, ↓r_c5 hA, ↓r_5_0 hA, ↓r_5_1 hA, ↓r_5_2 hA, ↓r_5_3 hA, ↓r_5_4 hA, ↓r_5_5 hA, ↓r_5_6p hA, ↓r_5_6n hA, ↓r_5_7p hA, ↓r_5_7n hA, ↓r_5_8 hA, ↓r_5_9 hA, ↓r_5_10 hA, ↓r_5_11 hA, ↓r_5_12 hA, ↓r_5_13 hA, ↓r_5_14 hA, ↓r_5_15 hA, ↓r_5_16 hA, ↓r_5_17 hA, ↓r_v11 hA, ↓r_c11 hA, ↓r_11_0 hA, ↓r_11_1p hA, ↓r_11_2 hA, ↓r_v13 hA, ↓r_c13 hA, ↓r_13_0 hA, ↓r_13_1 hA, ↓r_13_2 hA, ↓r_13_3 hA, ↓r_13_4 hA, ↓r_13_5 hA, ↓r_v14 hA, ↓r_c14 hA, ↓r_14_0 hA, ↓r_v15 hA, ↓r_c15 hA, ↓r_15_0 hA, ↓r_15_1 hA, ↓r_v16 hA, ↓r_c16 hA, ↓r_16_0 hA, r_l3 hA, ↓r_l3 hA, ↓r_n3 hA, r_a3 hA, r_l10 hA, ↓r_l10 hA, ↓r_n10 hA, r_a10 hA, r_l20 hA, ↓r_l20 hA, ↓r_n20 hA, r_a20 hA, r_l6 hA, ↓r_l6 hA, ↓r_n6 hA, r_a6 hA, r_l7 hA, ↓r_l7 hA, ↓r_n7 hA, r_a7 hA, r_l8 hA, ↓r_l8 hA, ↓r_n8 hA, r_a8 hA, r_l9 hA, ↓r_l9 hA, ↓r_n9 hA, r_a9 hA, r_l18 hA, ↓r_l18 hA, ↓r_n18 hA, r_a18 hA, r_l19 hA, ↓r_l19 hA, ↓r_n19 hA, r_a19 hA, r_l21 hA, ↓r_l21 hA, ↓r_n21 hA, r_a21 hA, r_l22 hA, ↓r_l22 hA, ↓r_n22 hA, r_a22 hA, r_l23 hA, ↓r_l23 hA, ↓r_n23 hA, r_a23 hA, r_l24 hA, ↓r_l24 hA, ↓r_n24 hA, r_a24 hA, r_l25 hA, ↓r_l25 hA, ↓r_n25 hA, r_a25 hA, r_l17 hA, ↓r_l17 hA, ↓r_n17 hA, r_sz0 hA, r_gt0 hA, r_sz1 hA, r_gt1 hA, r_sz2 hA, r_gt2 hA, r_sz3 hA, r_gt3 hA, w_s6 hA, w_s7 hA, w_s8 hA, w_s9 hA, w_s18 hA, w_s19 hA, w_s21 hA, w_s22 hA, w_s23 hA, w_s24 hA, w_s25 hA, w_f11 hA, w_f12 hA, w_f13 hA, w_f16 hA, e1, Int.add_zero, ↓u_j_X6_lateLessonsOf_53]
      · have hh : ltB S t k = false := by unfold ltB; rw [decide_eq_false c2, Bool.and_false]
        rw [if_neg c2] at e1
        rw [hh]
        simp -implicitDefEqProofs (disch := omega) only [↓reduceIte, ↓e_lets, ↓e_ite, ↓e_cal, e_cal2, e_cal3, e_thr, e_nthrow, e_rtn, e_r0, e_r1, e_dv, iI_add, iI_sub, iI_mul, iI_neg, iI_div, iI_rem, iI_lt, iI_le, iI_eq, b_eq0, b_eq1, Int.reduceAdd, Int.reduceMul, Int.reduceSub, Int.reduceNeg, Int.reduceDiv, Int.reduceMod, Nat.reduceAdd, Bool.false_eq_true, eq_self, ltT, ltF, leT, leF, eqT, eqF, true_and, and_true, false_and, and_false, and_self, or_true, true_or, or_false, false_or, ne_eq, not_true_eq_false, not_false_eq_true, if_true, if_false, ite_true, ite_false, ite_not, some_none, some_some, none_some, none_none, A_eq hA, li_0, li_1, li_2, li_3, li_4, li_5, li_6, li_7, li_8, li_9, li_10, li_11, li_12, li_13, li_14, li_15, li_16, li_17, li_18, li_19, li_20, li_21, li_22, li_23, li_24, li_25, li_26, li_27, li_28, li_29, li_30, li_31, li_32, li_63, li_64, li_99, li_100, li_128, li_240, li_256, li_512, li_960, li_1000, li_1022, li_1023, li_100000, li_m1, li_m1000, ↓r_v0 hA, ↓r_c0 hA, ↓r_0_0 hA, ↓r_0_1 hA, ↓r_0_2 hA, ↓r_0_3 hA, ↓r_0_4 hA, ↓r_0_5 hA, ↓r_0_6 hA, ↓r_0_7 hA, ↓r_0_8 hA, ↓r_0_9 hA, ↓r_v1 hA, ↓r_c1 hA, ↓r_1_0 hA, ↓r_1_1 hA, ↓r_1_2 hA, ↓r_1_3 hA, ↓r_1_4 hA, ↓r_v2 hA, ↓r_c2 hA, ↓r_2_0 hA, ↓r_2_1 hA, ↓r_2_2 hA, ↓r_v4 hA, ↓r_c4 hA, ↓r_4_0 hA, ↓r_v5 hA, ↓r_c5 hA, ↓r_5_0 hA, ↓r_5_1 hA, ↓r_5_2 hA, ↓r_5_3 hA, ↓r_5_4 hA, ↓r_5_5 hA, ↓r_5_6p hA, ↓r_5_6n hA, ↓r_5_7p hA, ↓r_5_7n hA, ↓r_5_8 hA, ↓r_5_9 hA, ↓r_5_10 hA, ↓r_5_11 hA, ↓r_5_12 hA, ↓r_5_13 hA, ↓r_5_14 hA, ↓r_5_15 hA, ↓r_5_16 hA, ↓r_5_17 hA, ↓r_v11 hA, ↓r_c11 hA, ↓r_11_0 hA, ↓r_11_1p hA, ↓r_11_2 hA, ↓r_v13 hA, ↓r_c13 hA, ↓r_13_0 hA, ↓r_13_1 hA, ↓r_13_2 hA, ↓r_13_3 hA, ↓r_13_4 hA, ↓r_13_5 hA, ↓r_v14 hA, ↓r_c14 hA, ↓r_14_0 hA, ↓r_v15 hA, ↓r_c15 hA, ↓r_15_0 hA, ↓r_15_1 hA, ↓r_v16 hA, ↓r_c16 hA, ↓r_16_0 hA, r_l3 hA, ↓r_l3 hA, ↓r_n3 hA, r_a3 hA, r_l10 hA, ↓r_l10 hA, ↓r_n10 hA, r_a10 hA, r_l20 hA, ↓r_l20 hA, ↓r_n20 hA, r_a20 hA, r_l6 hA, ↓r_l6 hA, ↓r_n6 hA, r_a6 hA, r_l7 hA, ↓r_l7 hA, ↓r_n7 hA, r_a7 hA, r_l8 hA, ↓r_l8 hA, ↓r_n8 hA, r_a8 hA, r_l9 hA, ↓r_l9 hA, ↓r_n9 hA, r_a9 hA, r_l18 hA, ↓r_l18 hA, ↓r_n18 hA, r_a18 hA, r_l19 hA, ↓r_l19 hA, ↓r_n19 hA, r_a19 hA, r_l21 hA, ↓r_l21 hA, ↓r_n21 hA, r_a21 hA, r_l22 hA, ↓r_l22 hA, ↓r_n22 hA, r_a22 hA, r_l23 hA, ↓r_l23 hA, ↓r_n23 hA, r_a23 hA, r_l24 hA, ↓r_l24 hA, ↓r_n24 hA, r_a24 hA, r_l25 hA, ↓r_l25 hA, ↓r_n25 hA, r_a25 hA, r_l17 hA, ↓r_l17 hA, ↓r_n17 hA, r_sz0 hA, r_gt0 hA, r_sz1 hA, r_gt1 hA, r_sz2 hA, r_gt2 hA, r_sz3 hA, r_gt3 hA, w_s6 hA, w_s7 hA, w_s8 hA, w_s9 hA, w_s18 hA, w_s19 hA, w_s21 hA, w_s22 hA, w_s23 hA, w_s24 hA, w_s25 hA, w_f11 hA, w_f12 hA, w_f13 hA, w_f16 hA, e1, Int.add_zero, ↓u_j_X6_lateLessonsOf_53]
    · have hh : ltB S t k = false := by unfold ltB; rw [decide_eq_false c, Bool.false_and]
      rw [hh]
      simp -implicitDefEqProofs (disch := omega) only [↓reduceIte, ↓e_lets, ↓e_ite, ↓e_cal, e_cal2, e_cal3, e_thr, e_nthrow, e_rtn, e_r0, e_r1, e_dv, iI_add, iI_sub, iI_mul, iI_neg, iI_div, iI_rem, iI_lt, iI_le, iI_eq, b_eq0, b_eq1, Int.reduceAdd, Int.reduceMul, Int.reduceSub, Int.reduceNeg, Int.reduceDiv, Int.reduceMod, Nat.reduceAdd, Bool.false_eq_true, eq_self, ltT, ltF, leT, leF, eqT, eqF, true_and, and_true, false_and, and_false, and_self, or_true, true_or, or_false, false_or, ne_eq, not_true_eq_false, not_false_eq_true, if_true, if_false, ite_true, ite_false, ite_not, some_none, some_some, none_some, none_none, A_eq hA, li_0, li_1, li_2, li_3, li_4, li_5, li_6, li_7, li_8, li_9, li_10, li_11, li_12, li_13, li_14, li_15, li_16, li_17, li_18, li_19, li_20, li_21, li_22, li_23, li_24, li_25, li_26, li_27, li_28, li_29, li_30, li_31, li_32, li_63, li_64, li_99, li_100, li_128, li_240, li_256, li_512, li_960, li_1000, li_1022, li_1023, li_100000, li_m1, li_m1000, ↓r_v0 hA, ↓r_c0 hA, ↓r_0_0 hA, ↓r_0_1 hA, ↓r_0_2 hA, ↓r_0_3 hA, ↓r_0_4 hA, ↓r_0_5 hA, ↓r_0_6 hA, ↓r_0_7 hA, ↓r_0_8 hA, ↓r_0_9 hA, ↓r_v1 hA, ↓r_c1 hA, ↓r_1_0 hA, ↓r_1_1 hA, ↓r_1_2 hA, ↓r_1_3 hA, ↓r_1_4 hA, ↓r_v2 hA, ↓r_c2 hA, ↓r_2_0 hA, ↓r_2_1 hA, ↓r_2_2 hA, ↓r_v4 hA, ↓r_c4 hA, ↓r_4_0 hA, ↓r_v5 hA, ↓r_c5 hA, ↓r_5_0 hA, ↓r_5_1 hA, ↓r_5_2 hA, ↓r_5_3 hA, ↓r_5_4 hA, ↓r_5_5 hA, ↓r_5_6p hA, ↓r_5_6n hA, ↓r_5_7p hA, ↓r_5_7n hA, ↓r_5_8 hA, ↓r_5_9 hA, ↓r_5_10 hA, ↓r_5_11 hA, ↓r_5_12 hA, ↓r_5_13 hA, ↓r_5_14 hA, ↓r_5_15 hA, ↓r_5_16 hA, ↓r_5_17 hA, ↓r_v11 hA, ↓r_c11 hA, ↓r_11_0 hA, ↓r_11_1p hA, ↓r_11_2 hA, ↓r_v13 hA, ↓r_c13 hA, ↓r_13_0 hA, ↓r_13_1 hA, ↓r_13_2 hA, ↓r_13_3 hA, ↓r_13_4 hA, ↓r_13_5 hA, ↓r_v14 hA, ↓r_c14 hA, ↓r_14_0 hA, ↓r_v15 hA, ↓r_c15 hA, ↓r_15_0 hA, ↓r_15_1 hA, ↓r_v16 hA, ↓r_c16 hA, ↓r_16_0 hA, r_l3 hA, ↓r_l3 hA, ↓r_n3 hA, r_a3 hA, r_l10 hA, ↓r_l10 hA, ↓r_n10 hA, r_a10 hA, r_l20 hA, ↓r_l20 hA, ↓r_n20 hA, r_a20 hA, r_l6 hA, ↓r_l6 hA, ↓r_n6 hA, r_a6 hA, r_l7 hA, ↓r_l7 hA, ↓r_n7 hA, r_a7 hA, r_l8 hA, ↓r_l8 hA, ↓r_n8 hA, r_a8 hA, r_l9 hA, ↓r_l9 hA, ↓r_n9 hA, r_a9 hA, r_l18 hA, ↓r_l18 hA, ↓r_n18 hA, r_a18 hA, r_l19 hA, ↓r_l19 hA, ↓r_n19 hA, r_a19 hA, r_l21 hA, ↓r_l21 hA, ↓r_n21 hA, r_a21 hA, r_l22 hA, ↓r_l22 hA, ↓r_n22 hA, r_a22 hA, r_l23 hA, ↓r_l23 hA, ↓r_n23 hA, r_a23 hA, r_l24 hA, ↓r_l24 hA, ↓r_n24 hA, r_a24 hA, r_l25 hA, ↓r_l25 hA, ↓r_n25 hA, r_a25 hA, r_l17 hA, ↓r_l17 hA, ↓r_n17 hA, r_sz0 hA, r_gt0 hA, r_sz1 hA, r_gt1 hA, r_sz2 hA, r_gt2 hA, r_sz3 hA, r_gt3 hA, w_s6 hA, w_s7 hA, w_s8 hA, w_s9 hA, w_s18 hA, w_s19 hA, w_s21 hA, w_s22 hA, w_s23 hA, w_s24 hA, w_s25 hA, w_f11 hA, w_f12 hA, w_f13 hA, w_f16 hA, e1, Int.add_zero, ↓u_j_X6_lateLessonsOf_53]
  · show L_X6_lateLessonsOf_4 _ _ _ (f + 1) (iI (cntN (fun k => ltB S t k) (S 20 4).toNat)) (iI ((S 20 4).toNat : Int)) (Hc A P S K, z) = _
    rw [h9, u_L_X6_lateLessonsOf_4]
    simp -implicitDefEqProofs (disch := omega) only [↓reduceIte, ↓e_lets, ↓e_ite, ↓e_cal, e_cal2, e_cal3, e_thr, e_nthrow, e_rtn, e_r0, e_r1, e_dv, iI_add, iI_sub, iI_mul, iI_neg, iI_div, iI_rem, iI_lt, iI_le, iI_eq, b_eq0, b_eq1, Int.reduceAdd, Int.reduceMul, Int.reduceSub, Int.reduceNeg, Int.reduceDiv, Int.reduceMod, Nat.reduceAdd, Bool.false_eq_true, eq_self, ltT, ltF, leT, leF, eqT, eqF, true_and, and_true, false_and, and_false, and_self, or_true, true_or, or_false, false_or, ne_eq, not_true_eq_false, not_false_eq_true, if_true, if_false, ite_true, ite_false, ite_not, some_none, some_some, none_some, none_none, A_eq hA, li_0, li_1, li_2, li_3, li_4, li_5, li_6, li_7, li_8, li_9, li_10, li_11, li_12, li_13, li_14, li_15, li_16, li_17, li_18, li_19, li_20, li_21, li_22, li_23, li_24, li_25, li_26, li_27, li_28, li_29, li_30, li_31, li_32, li_63, li_64, li_99, li_100, li_128, li_240, li_256, li_512, li_960, li_1000, li_1022, li_1023, li_100000, li_m1, li_m1000, ↓r_v0 hA, ↓r_c0 hA, ↓r_0_0 hA, ↓r_0_1 hA, ↓r_0_2 hA, ↓r_0_3 hA, ↓r_0_4 hA, ↓r_0_5 hA, ↓r_0_6 hA, ↓r_0_7 hA, ↓r_0_8 hA, ↓r_0_9 hA, ↓r_v1 hA, ↓r_c1 hA, ↓r_1_0 hA, ↓r_1_1 hA, ↓r_1_2 hA, ↓r_1_3 hA, ↓r_1_4 hA, ↓r_v2 hA, ↓r_c2 hA, ↓r_2_0 hA, ↓r_2_1 hA, ↓r_2_2 hA, ↓r_v4 hA, ↓r_c4 hA, ↓r_4_0 hA, ↓r_v5 hA, ↓r_c5 hA, ↓r_5_0 hA, ↓r_5_1 hA, ↓r_5_2 hA, ↓r_5_3 hA, ↓r_5_4 hA, ↓r_5_5 hA, ↓r_5_6p hA, ↓r_5_6n hA, ↓r_5_7p hA, ↓r_5_7n hA, ↓r_5_8 hA, ↓r_5_9 hA, ↓r_5_10 hA, ↓r_5_11 hA, ↓r_5_12 hA, ↓r_5_13 hA, ↓r_5_14 hA, ↓r_5_15 hA, ↓r_5_16 hA, ↓r_5_17 hA, ↓r_v11 hA, ↓r_c11 hA, ↓r_11_0 hA, ↓r_11_1p hA, ↓r_11_2 hA, ↓r_v13 hA, ↓r_c13 hA, ↓r_13_0 hA, ↓r_13_1 hA, ↓r_13_2 hA, ↓r_13_3 hA, ↓r_13_4 hA, ↓r_13_5 hA, ↓r_v14 hA, ↓r_c14 hA, ↓r_14_0 hA, ↓r_v15 hA, ↓r_c15 hA, ↓r_15_0 hA, ↓r_15_1 hA, ↓r_v16 hA, ↓r_c16 hA, ↓r_16_0 hA, r_l3 hA, ↓r_l3 hA, ↓r_n3 hA, r_a3 hA, r_l10 hA, ↓r_l10 hA, ↓r_n10 hA, r_a10 hA, r_l20 hA, ↓r_l20 hA, ↓r_n20 hA, r_a20 hA, r_l6 hA, ↓r_l6 hA, ↓r_n6 hA, r_a6 hA, r_l7 hA, ↓r_l7 hA, ↓r_n7 hA, r_a7 hA, r_l8 hA, ↓r_l8 hA, ↓r_n8 hA, r_a8 hA, r_l9 hA, ↓r_l9 hA, ↓r_n9 hA, r_a9 hA, r_l18 hA, ↓r_l18 hA, ↓r_n18 hA, r_a18 hA, r_l19 hA, ↓r_l19 hA, ↓r_n19 hA, r_a19 hA, r_l21 hA, ↓r_l21 hA, ↓r_n21 hA, r_a21 hA, r_l22 hA, ↓r_l22 hA, ↓r_n22 hA, r_a22 hA, r_l23 hA, ↓r_l23 hA, ↓r_n23 hA, r_a23 hA, r_l24 hA, ↓r_l24 hA, ↓r_n24 hA, r_a24 hA, r_l25 hA, ↓r_l25 hA, ↓r_n25 hA, r_a25 hA, r_l17 hA, ↓r_l17 hA, ↓r_n17 hA, r_sz0 hA, r_gt0 hA, r_sz1 hA, r_gt1 hA, r_sz2 hA, r_gt2 hA, r_sz3 hA, r_gt3 hA, w_s6 hA, w_s7 hA, w_s8 hA, w_s9 hA, w_s18 hA, w_s19 hA, w_s21 hA, w_s22 hA, w_s23 hA, w_s24 hA, w_s25 hA, w_f11 hA, w_f12 hA, w_f13 hA, w_f16 hA]
def bkS (S : SS) : Nat → SS
  | 0 => S
  | k + 1 => if (0 ≤ bkS S k 14 k ∧ (bkS S k 14 k / 8 + bkS S k 12 k) % 6 = 0) ∧ bkS S k 4 (bkS S k 10 k) < 9 then upS (bkS S k) 4 (bkS S k 10 k) (bkS S k 4 (bkS S k 10 k) + 1) else bkS S k
theorem bkS_g (S : SS) {f : Nat} (h : f ≠ 4) : ∀ n, bkS S n f = S f := by
  intro n
  induction n with
  | zero => rfl
  | succ n ih =>
    unfold bkS
    split
    · rw [upS_g h, ih]
    · exact ih
theorem VS_bk {S : SS} (h : VS S) : ∀ n, VS (bkS S n) := by
  intro n
  induction n with
  | zero => exact h
  | succ n ih =>
    unfold bkS
    split
    · have := ih.1 (bkS S n 10 n)
      exact VS_u4 ih (by omega) (by omega)
    · exact ih
theorem e_bookLate {A : AA} {P : Hp} {S : SS} {K : KK} {z : Nat × Nat} (hA : GA A) (hV : VS S) (hC : CI S K)  : ∃ K2, f_X6_bookLateHours (A 13 0) (Hc A P S K, z) = some (.ok (), (Hc A P (bkS S (S 20 4).toNat) K2, z)) ∧ KX K K2 ∧ CI (bkS S (S 20 4).toNat) K2 := by
  obtain ⟨hb, hm, hv⟩ := hV
  have hm2 := hm
  unfold Bm at hm2
  have h9 : (((S 20 4).toNat : Nat) : Int) = S 20 4 := by omega
  have hL := loopDE (fun f (t : SS × Int32) (T : KK) => L_X6_bookLateHours_2 (some (A 13 0)) (rtn ()) f t.2 (Hc A P t.1 T, z)) (fun m => (bkS S m, iI (m : Int))) (fun m T => KX K T ∧ CI (bkS S m) T) (S 20 4).toNat (fun T => some (.ok (), (Hc A P (bkS S (S 20 4).toNat) T, z))) (fun k f T hk hI => ?_) (fun f T hI => ?_) 100000 K (by omega) ⟨KX.rfl, hC⟩
  · obtain ⟨K2, h1, h2⟩ := hL
    refine ⟨K2, ?_, h1⟩
    unfold f_X6_bookLateHours
    rw [e_lets, li_0]
    exact h2
  · have e20 : bkS S k 20 = S 20 := bkS_g S (by decide) k
    have hVk := VS_bk ⟨hb, hm, hv⟩ k
    have k1 : (k : Int) < S 20 4 := by omega
    have hs : bkS S (k + 1) = if (0 ≤ bkS S k 14 k ∧ (bkS S k 14 k / 8 + bkS S k 12 k) % 6 = 0) ∧ bkS S k 4 (bkS S k 10 k) < 9 then upS (bkS S k) 4 (bkS S k 10 k) (bkS S k 4 (bkS S k 10 k) + 1) else bkS S k := rfl
    show ∃ T2, (KX K T2 ∧ CI (bkS S (k + 1)) T2) ∧ L_X6_bookLateHours_2 (some (A 13 0)) (rtn ()) (f + 1) (iI (k : Int)) (Hc A P (bkS S k) T, z) = L_X6_bookLateHours_2 (some (A 13 0)) (rtn ()) f (iI ((k + 1 : Nat) : Int)) (Hc A P (bkS S (k + 1)) T2, z)
    rw [hs]
    generalize bkS S k = U at *
    have e4 : U 20 4 = S 20 4 := by rw [e20]
    have k2 : (k : Int) < U 20 4 := by omega
    have hk2 := hVk.2.2 k (by omega) k2
    have hk3 := hVk.1 (U 10 k)
    have hmU := hVk.2.1
    unfold Bm at hmU
    have e1 := fun T => e_isLate (P := P) (K := T) (z := z) hA hVk.1 hVk.2.1 hVk.2.2 (l := (k : Int)) (by omega) k2
    by_cases c : 0 ≤ U 14 (k : Int) ∧ (U 14 (k : Int) / 8 + U 12 (k : Int)) % 6 = 0
    · simp only [if_pos c] at e1
      by_cases c2 : U 4 (U 10 (k : Int)) < 9
      · rw [if_pos ⟨c, c2⟩]
        have hV2 : VS (upS U 4 (U 10 (k : Int)) (U 4 (U 10 (k : Int)) + 1)) := VS_u4 hVk (by omega) (by omega)
        have e3 := fun T => e_lateOf (P := P) (K := T) (z := z) hA hV2.1 hV2.2.1 hV2.2.2 (t := U 10 (k : Int)) (by omega) (by rw [upS_g (by decide)]; omega)
        have e5 : (fun q : Nat => ltB (upS U 4 (U 10 (k : Int)) (U 4 (U 10 (k : Int)) + 1)) (U 10 (k : Int)) q) = fun q : Nat => ltB U (U 10 (k : Int)) q := rfl
        have e7 : upS U 4 (U 10 (k : Int)) (U 4 (U 10 (k : Int)) + 1) 20 4 = U 20 4 := by rw [upS_g (by decide)]
        have e6 := hI.2 1 (by decide) (by decide)
        simp only [e5, e7] at e3
        refine ⟨up3 T 21 0 1 (iI (amt U 1 + cntN (fun q => ltB U (U 10 (k : Int)) q) (U 20 4).toNat)), ⟨fun a b c h1 h2 => (up3_k h2).trans (hI.1 a b c h1 h2), fun p p0 p1 => ?_⟩, ?_⟩
        · rw [amt_acc]
          by_cases c3 : p = 1
          · subst c3
            rw [up3_s, if_pos rfl, show U 4 (U 10 (k : Int)) + 1 - U 4 (U 10 (k : Int)) = 1 by omega, Int.mul_one]
          · rw [up3_j c3, if_neg c3, Int.add_zero]
            exact hI.2 p p0 p1
        · have hk4 : upS U 4 (U 10 (k : Int)) (U 4 (U 10 (k : Int)) + 1) 10 = U 10 := upS_g (by decide)
          rw [u_L_X6_bookLateHours_2, nat1]
          simp -implicitDefEqProofs (disch := omega) only [↓reduceIte, ↓e_lets, ↓e_ite, ↓e_cal, e_cal2, e_cal3, e_thr, e_nthrow, e_rtn, e_r0, e_r1, e_dv, iI_add, iI_sub, iI_mul, iI_neg, iI_div, iI_rem, iI_lt, iI_le, iI_eq, b_eq0, b_eq1, Int.reduceAdd, Int.reduceMul, Int.reduceSub, Int.reduceNeg, Int.reduceDiv, Int.reduceMod, Nat.reduceAdd, Bool.false_eq_true, eq_self, ltT, ltF, leT, leF, eqT, eqF, true_and, and_true, false_and, and_false, and_self, or_true, true_or, or_false, false_or, ne_eq, not_true_eq_false, not_false_eq_true, if_true, if_false, ite_true, ite_false, ite_not, some_none, some_some, none_some, none_none, A_eq hA, li_0, li_1, li_2, li_3, li_4, li_5, li_6, li_7, li_8, li_9, li_10, li_11, li_12, li_13, li_14, li_15, li_16, li_17, li_18, li_19, li_20, li_21, li_22, li_23, li_24, li_25, li_26, li_27, li_28, li_29, li_30, li_31, li_32, li_63, li_64, li_99, li_100, li_128, li_240, li_256, li_512, li_960, li_1000, li_1022, li_1023, li_100000, li_m1, li_m1000, ↓r_v0 hA, ↓r_c0 hA, ↓r_0_0 hA, ↓r_0_1 hA, ↓r_0_2 hA, ↓r_0_3 hA, ↓r_0_4 hA, ↓r_0_5 hA, ↓r_0_6 hA, ↓r_0_7 hA, ↓r_0_8 hA, ↓r_0_9 hA, ↓r_v1 hA, ↓r_c1 hA, ↓r_1_0 hA, ↓r_1_1 hA, ↓r_1_2 hA, ↓r_1_3 hA, ↓r_1_4 hA, ↓r_v2 hA, ↓r_c2 hA, ↓r_2_0 hA, ↓r_2_1 hA, ↓r_2_2 hA, ↓r_v4 hA, ↓r_c4 hA, ↓r_4_0 hA, ↓r_v5 hA, ↓r_c5 hA, ↓r_5_0 hA, ↓r_5_1 hA, ↓r_5_2 hA, ↓r_5_3 hA, ↓r_5_4 hA, ↓r_5_5 hA, ↓r_5_6p hA, ↓r_5_6n hA, ↓r_5_7p hA, ↓r_5_7n hA, ↓r_5_8 hA, ↓r_5_9 hA, ↓r_5_10 hA, ↓r_5_11 hA, ↓r_5_12 hA, ↓r_5_13 hA, ↓r_5_14 hA, ↓r_5_15 hA, ↓r_5_16 hA, ↓r_5_17 hA, ↓r_v11 hA, ↓r_c11 hA, ↓r_11_0 hA, ↓r_11_1p hA, ↓r_11_2 hA, ↓r_v13 hA, ↓r_c13 hA, ↓r_13_0 hA, ↓r_13_1 hA, ↓r_13_2 hA, ↓r_13_3 hA, ↓r_13_4 hA, ↓r_13_5 hA, ↓r_v14 hA, ↓r_c14 hA, ↓r_14_0 hA, ↓r_v15 hA, ↓r_c15 hA, ↓r_15_0 hA, ↓r_15_1 hA, ↓r_v16 hA, ↓r_c16 hA, ↓r_16_0 hA, r_l3 hA, ↓r_l3 hA, ↓r_n3 hA, r_a3 hA, r_l10 hA, ↓r_l10 hA, ↓r_n10 hA, r_a10 hA, r_l20 hA, ↓r_l20 hA, ↓r_n20 hA, r_a20 hA, r_l6 hA, ↓r_l6 hA, ↓r_n6 hA, r_a6 hA, r_l7 hA, ↓r_l7 hA, ↓r_n7 hA, r_a7 hA, r_l8 hA, ↓r_l8 hA, ↓r_n8 hA, r_a8 hA, r_l9 hA, ↓r_l9 hA, ↓r_n9 hA, r_a9 hA, r_l18 hA, ↓r_l18 hA, ↓r_n18 hA, r_a18 hA, r_l19 hA, ↓r_l19 hA, ↓r_n19 hA, r_a19 hA, r_l21 hA, ↓r_l21 hA, ↓r_n21 hA, r_a21 hA, r_l22 hA, ↓r_l22 hA, ↓r_n22 hA, r_a22 hA, r_l23 hA, ↓r_l23 hA, ↓r_n23 hA, r_a23 hA, r_l24 hA, ↓r_l24 hA, ↓r_n24 hA, r_a24 hA, r_l25 hA, ↓r_l25 hA, ↓r_n25 hA, r_a25 hA, r_l17 hA, ↓r_l17 hA, ↓r_n17 hA, r_sz0 hA, r_gt0 hA, r_sz1 hA, r_gt1 hA, r_sz2 hA, r_gt2 hA, r_sz3 hA, r_gt3 hA, w_s6 hA, w_s7 hA, w_s8 hA, w_s9 hA, w_s18 hA, w_s19 hA, w_s21 hA, w_s22 hA, w_s23 hA, w_s24 hA, w_s25 hA, w_f11 hA, w_f12 hA, w_f13 hA, w_f16 hA, e1, e3, e6, e7, hk4, ↓w_acc hA, ↓u_j_X6_bookLateHours_74]
      · rw [if_neg (fun q => c2 q.2)]
        refine ⟨T, hI, ?_⟩
        rw [u_L_X6_bookLateHours_2, nat1]
        simp -implicitDefEqProofs (disch := omega) only [↓reduceIte, ↓e_lets, ↓e_ite, ↓e_cal, e_cal2, e_cal3, e_thr, e_nthrow, e_rtn, e_r0, e_r1, e_dv, iI_add, iI_sub, iI_mul, iI_neg, iI_div, iI_rem, iI_lt, iI_le, iI_eq, b_eq0, b_eq1, Int.reduceAdd, Int.reduceMul, Int.reduceSub, Int.reduceNeg, Int.reduceDiv, Int.reduceMod, Nat.reduceAdd, Bool.false_eq_true, eq_self, ltT, ltF, leT, leF, eqT, eqF, true_and, and_true, false_and, and_false, and_self, or_true, true_or, or_false, false_or, ne_eq, not_true_eq_false, not_false_eq_true, if_true, if_false, ite_true, ite_false, ite_not, some_none, some_some, none_some, none_none, A_eq hA, li_0, li_1, li_2, li_3, li_4, li_5, li_6, li_7, li_8, li_9, li_10, li_11, li_12, li_13, li_14, li_15, li_16, li_17, li_18, li_19, li_20, li_21, li_22, li_23, li_24, li_25, li_26, li_27, li_28, li_29, li_30, li_31, li_32, li_63, li_64, li_99, li_100, li_128, li_240, li_256, li_512, li_960, li_1000, li_1022, li_1023, li_100000, li_m1, li_m1000, ↓r_v0 hA, ↓r_c0 hA, ↓r_0_0 hA, ↓r_0_1 hA, ↓r_0_2 hA, ↓r_0_3 hA, ↓r_0_4 hA, ↓r_0_5 hA, ↓r_0_6 hA, ↓r_0_7 hA, ↓r_0_8 hA, ↓r_0_9 hA, ↓r_v1 hA, ↓r_c1 hA, ↓r_1_0 hA, ↓r_1_1 hA, ↓r_1_2 hA, ↓r_1_3 hA, ↓r_1_4 hA, ↓r_v2 hA, ↓r_c2 hA, ↓r_2_0 hA, ↓r_2_1 hA, ↓r_2_2 hA, ↓r_v4 hA, ↓r_c4 hA, ↓r_4_0 hA, ↓r_v5 hA, ↓r_c5 hA, ↓r_5_0 hA, ↓r_5_1 hA, ↓r_5_2 hA, ↓r_5_3 hA, ↓r_5_4 hA, ↓r_5_5 hA, ↓r_5_6p hA, ↓r_5_6n hA, ↓r_5_7p hA, ↓r_5_7n hA, ↓r_5_8 hA, ↓r_5_9 hA, ↓r_5_10 hA, ↓r_5_11 hA, ↓r_5_12 hA, ↓r_5_13 hA, ↓r_5_14 hA, ↓r_5_15 hA, ↓r_5_16 hA, ↓r_5_17 hA, ↓r_v11 hA, ↓r_c11 hA, ↓r_11_0 hA, ↓r_11_1p hA, ↓r_11_2 hA, ↓r_v13 hA, ↓r_c13 hA, ↓r_13_0 hA, ↓r_13_1 hA, ↓r_13_2 hA, ↓r_13_3 hA, ↓r_13_4 hA, ↓r_13_5 hA, ↓r_v14 hA, ↓r_c14 hA, ↓r_14_0 hA, ↓r_v15 hA, ↓r_c15 hA, ↓r_15_0 hA, ↓r_15_1 hA, ↓r_v16 hA, ↓r_c16 hA, ↓r_16_0 hA, r_l3 hA, ↓r_l3 hA, ↓r_n3 hA, r_a3 hA, r_l10 hA, ↓r_l10 hA, ↓r_n10 hA, r_a10 hA, r_l20 hA, ↓r_l20 hA, ↓r_n20 hA, r_a20 hA, r_l6 hA, ↓r_l6 hA, ↓r_n6 hA, r_a6 hA, r_l7 hA, ↓r_l7 hA, ↓r_n7 hA, r_a7 hA, r_l8 hA, ↓r_l8 hA, ↓r_n8 hA, r_a8 hA, r_l9 hA, ↓r_l9 hA, ↓r_n9 hA, r_a9 hA, r_l18 hA, ↓r_l18 hA, ↓r_n18 hA, r_a18 hA, r_l19 hA, ↓r_l19 hA, ↓r_n19 hA, r_a19 hA, r_l21 hA, ↓r_l21 hA, ↓r_n21 hA, r_a21 hA, r_l22 hA, ↓r_l22 hA, ↓r_n22 hA, r_a22 hA, r_l23 hA, ↓r_l23 hA, ↓r_n23 hA, r_a23 hA, r_l24 hA, ↓r_l24 hA, ↓r_n24 hA, r_a24 hA, r_l25 hA, ↓r_l25 hA, ↓r_n25 hA, r_a25 hA, r_l17 hA, ↓r_l17 hA, ↓r_n17 hA, r_sz0 hA, r_gt0 hA, r_sz1 hA, r_gt1 hA, r_sz2 hA, r_gt2 hA, r_sz3 hA, r_gt3 hA, w_s6 hA, w_s7 hA, w_s8 hA, w_s9 hA, w_s18 hA, w_s19 hA, w_s21 hA, w_s22 hA, w_s23 hA, w_s24 hA, w_s25 hA, w_f11 hA, w_f12 hA, w_f13 hA, w_f16 hA, e1, ↓u_j_X6_bookLateHours_74]
    · simp only [if_neg c] at e1
      rw [if_neg (fun q => c q.1)]
      refine ⟨T, hI, ?_⟩
      rw [u_L_X6_bookLateHours_2, nat1]
      simp -implicitDefEqProofs (disch := omega) only [↓reduceIte, ↓e_lets, ↓e_ite, ↓e_cal, e_cal2, e_cal3, e_thr, e_nthrow, e_rtn, e_r0, e_r1, e_dv, iI_add, iI_sub, iI_mul, iI_neg, iI_div, iI_rem, iI_lt, iI_le, iI_eq, b_eq0, b_eq1, Int.reduceAdd, Int.reduceMul, Int.reduceSub, Int.reduceNeg, Int.reduceDiv, Int.reduceMod, Nat.reduceAdd, Bool.false_eq_true, eq_self, ltT, ltF, leT, leF, eqT, eqF, true_and, and_true, false_and, and_false, and_self, or_true, true_or, or_false, false_or, ne_eq, not_true_eq_false, not_false_eq_true, if_true, if_false, ite_true, ite_false, ite_not, some_none, some_some, none_some, none_none, A_eq hA, li_0, li_1, li_2, li_3, li_4, li_5, li_6, li_7, li_8, li_9, li_10, li_11, li_12, li_13, li_14, li_15, li_16, li_17, li_18, li_19, li_20, li_21, li_22, li_23, li_24, li_25, li_26, li_27, li_28, li_29, li_30, li_31, li_32, li_63, li_64, li_99, li_100, li_128, li_240, li_256, li_512, li_960, li_1000, li_1022, li_1023, li_100000, li_m1, li_m1000, ↓r_v0 hA, ↓r_c0 hA, ↓r_0_0 hA, ↓r_0_1 hA, ↓r_0_2 hA, ↓r_0_3 hA, ↓r_0_4 hA, ↓r_0_5 hA, ↓r_0_6 hA, ↓r_0_7 hA, ↓r_0_8 hA, ↓r_0_9 hA, ↓r_v1 hA, ↓r_c1 hA, ↓r_1_0 hA, ↓r_1_1 hA, ↓r_1_2 hA, ↓r_1_3 hA, ↓r_1_4 hA, ↓r_v2 hA, ↓r_c2 hA, ↓r_2_0 hA, ↓r_2_1 hA, ↓r_2_2 hA, ↓r_v4 hA, ↓r_c4 hA, ↓r_4_0 hA, ↓r_v5 hA, ↓r_c5 hA, ↓r_5_0 hA, ↓r_5_1 hA, ↓r_5_2 hA, ↓r_5_3 hA, ↓r_5_4 hA, ↓r_5_5 hA, ↓r_5_6p hA, ↓r_5_6n hA, ↓r_5_7p hA, ↓r_5_7n hA, ↓r_5_8 hA, ↓r_5_9 hA, ↓r_5_10 hA, ↓r_5_11 hA, ↓r_5_12 hA, ↓r_5_13 hA, ↓r_5_14 hA, ↓r_5_15 hA, ↓r_5_16 hA, ↓r_5_17 hA, ↓r_v11 hA, ↓r_c11 hA, ↓r_11_0 hA, ↓r_11_1p hA, ↓r_11_2 hA, ↓r_v13 hA, ↓r_c13 hA, ↓r_13_0 hA, ↓r_13_1 hA, ↓r_13_2 hA, ↓r_13_3 hA, ↓r_13_4 hA, ↓r_13_5 hA, ↓r_v14 hA, ↓r_c14 hA, ↓r_14_0 hA, ↓r_v15 hA, ↓r_c15 hA, ↓r_15_0 hA, ↓r_15_1 hA, ↓r_v16 hA, ↓r_c16 hA, ↓r_16_0 hA, r_l3 hA, ↓r_l3 hA, ↓r_n3 hA, r_a3 hA, r_l10 hA, ↓r_l10 hA, ↓r_n10 hA, r_a10 hA, r_l20 hA, ↓r_l20 hA, ↓r_n20 hA, r_a20 hA, r_l6 hA, ↓r_l6 hA, ↓r_n6 hA, r_a6 hA, r_l7 hA, ↓r_l7 hA, ↓r_n7 hA, r_a7 hA, r_l8 hA, ↓r_l8 hA, ↓r_n8 hA, r_a8 hA, r_l9 hA, ↓r_l9 hA, ↓r_n9 hA, r_a9 hA, r_l18 hA, ↓r_l18 hA, ↓r_n18 hA, r_a18 hA, r_l19 hA, ↓r_l19 hA, ↓r_n19 hA, r_a19 hA, r_l21 hA, ↓r_l21 hA, ↓r_n21 hA, r_a21 hA, r_l22 hA, ↓r_l22 hA, ↓r_n22 hA, r_a22 hA, r_l23 hA, ↓r_l23 hA, ↓r_n23 hA, r_a23 hA, r_l24 hA, ↓r_l24 hA, ↓r_n24 hA, r_a24 hA, r_l25 hA, ↓r_l25 hA, ↓r_n25 hA, r_a25 hA, r_l17 hA, ↓r_l17 hA, ↓r_n17 hA, r_sz0 hA, r_gt0 hA, r_sz1 hA, r_gt1 hA, r_sz2 hA, r_gt2 hA, r_sz3 hA, r_gt3 hA, w_s6 hA, w_s7 hA, w_s8 hA, w_s9 hA, w_s18 hA, w_s19 hA, w_s21 hA, w_s22 hA, w_s23 hA, w_s24 hA, w_s25 hA, w_f11 hA, w_f12 hA, w_f13 hA, w_f16 hA, e1, ↓u_j_X6_bookLateHours_74]
  · show L_X6_bookLateHours_2 (some (A 13 0)) (rtn ()) (f + 1) (iI (((S 20 4).toNat : Nat) : Int)) (Hc A P (bkS S (S 20 4).toNat) T, z) = _
    have e20 : bkS S (S 20 4).toNat 20 = S 20 := bkS_g S (by decide) _
    have e4 : bkS S (S 20 4).toNat 20 4 = S 20 4 := by rw [e20]
    rw [u_L_X6_bookLateHours_2, h9]
    generalize bkS S (S 20 4).toNat = U at *
    simp -implicitDefEqProofs (disch := omega) only [↓reduceIte, ↓e_lets, ↓e_ite, ↓e_cal, e_cal2, e_cal3, e_thr, e_nthrow, e_rtn, e_r0, e_r1, e_dv, iI_add, iI_sub, iI_mul, iI_neg, iI_div, iI_rem, iI_lt, iI_le, iI_eq, b_eq0, b_eq1, Int.reduceAdd, Int.reduceMul, Int.reduceSub, Int.reduceNeg, Int.reduceDiv, Int.reduceMod, Nat.reduceAdd, Bool.false_eq_true, eq_self, ltT, ltF, leT, leF, eqT, eqF, true_and, and_true, false_and, and_false, and_self, or_true, true_or, or_false, false_or, ne_eq, not_true_eq_false, not_false_eq_true, if_true, if_false, ite_true, ite_false, ite_not, some_none, some_some, none_some, none_none, A_eq hA, li_0, li_1, li_2, li_3, li_4, li_5, li_6, li_7, li_8, li_9, li_10, li_11, li_12, li_13, li_14, li_15, li_16, li_17, li_18, li_19, li_20, li_21, li_22, li_23, li_24, li_25, li_26, li_27, li_28, li_29, li_30, li_31, li_32, li_63, li_64, li_99, li_100, li_128, li_240, li_256, li_512, li_960, li_1000, li_1022, li_1023, li_100000, li_m1, li_m1000, ↓r_v0 hA, ↓r_c0 hA, ↓r_0_0 hA, ↓r_0_1 hA, ↓r_0_2 hA, ↓r_0_3 hA, ↓r_0_4 hA, ↓r_0_5 hA, ↓r_0_6 hA, ↓r_0_7 hA, ↓r_0_8 hA, ↓r_0_9 hA, ↓r_v1 hA, ↓r_c1 hA, ↓r_1_0 hA, ↓r_1_1 hA, ↓r_1_2 hA, ↓r_1_3 hA, ↓r_1_4 hA, ↓r_v2 hA, ↓r_c2 hA, ↓r_2_0 hA, ↓r_2_1 hA, ↓r_2_2 hA, ↓r_v4 hA, ↓r_c4 hA, ↓r_4_0 hA, ↓r_v5 hA, ↓r_c5 hA, ↓r_5_0 hA, ↓r_5_1 hA, ↓r_5_2 hA, ↓r_5_3 hA, ↓r_5_4 hA, ↓r_5_5 hA, ↓r_5_6p hA, ↓r_5_6n hA, ↓r_5_7p hA, ↓r_5_7n hA, ↓r_5_8 hA, ↓r_5_9 hA, ↓r_5_10 hA, ↓r_5_11 hA, ↓r_5_12 hA, ↓r_5_13 hA, ↓r_5_14 hA, ↓r_5_15 hA, ↓r_5_16 hA, ↓r_5_17 hA, ↓r_v11 hA, ↓r_c11 hA, ↓r_11_0 hA, ↓r_11_1p hA, ↓r_11_2 hA, ↓r_v13 hA, ↓r_c13 hA, ↓r_13_0 hA, ↓r_13_1 hA, ↓r_13_2 hA, ↓r_13_3 hA, ↓r_13_4 hA, ↓r_13_5 hA, ↓r_v14 hA, ↓r_c14 hA, ↓r_14_0 hA, ↓r_v15 hA, ↓r_c15 hA, ↓r_15_0 hA, ↓r_15_1 hA, ↓r_v16 hA, ↓r_c16 hA, ↓r_16_0 hA, r_l3 hA, ↓r_l3 hA, ↓r_n3 hA, r_a3 hA, r_l10 hA, ↓r_l10 hA, ↓r_n10 hA, r_a10 hA, r_l20 hA, ↓r_l20 hA, ↓r_n20 hA, r_a20 hA, r_l6 hA, ↓r_l6 hA, ↓r_n6 hA, r_a6 hA, r_l7 hA, ↓r_l7 hA, ↓r_n7 hA, r_a7 hA, r_l8 hA, ↓r_l8 hA, ↓r_n8 hA, r_a8 hA, r_l9 hA, ↓r_l9 hA, ↓r_n9 hA, r_a9 hA, r_l18 hA, ↓r_l18 hA, ↓r_n18 hA, r_a18 hA, r_l19 hA, ↓r_l19 hA, ↓r_n19 hA, r_a19 hA, r_l21 hA, ↓r_l21 hA, ↓r_n21 hA, r_a21 hA, r_l22 hA, ↓r_l22 hA, ↓r_n22 hA, r_a22 hA, r_l23 hA, ↓r_l23 hA, ↓r_n23 hA, r_a23 hA, r_l24 hA, ↓r_l24 hA, ↓r_n24 hA, r_a24 hA, r_l25 hA, ↓r_l25 hA, ↓r_n25 hA, r_a25 hA, r_l17 hA, ↓r_l17 hA, ↓r_n17 hA, r_sz0 hA, r_gt0 hA, r_sz1 hA, r_gt1 hA, r_sz2 hA, r_gt2 hA, r_sz3 hA, r_gt3 hA, w_s6 hA, w_s7 hA, w_s8 hA, w_s9 hA, w_s18 hA, w_s19 hA, w_s21 hA, w_s22 hA, w_s23 hA, w_s24 hA, w_s25 hA, w_f11 hA, w_f12 hA, w_f13 hA, w_f16 hA, ]
