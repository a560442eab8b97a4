/-! PURE LAYER: the amounts, and how a place changes them -/
def crP (S : SS) (k j : Int) : Prop := 0 ≤ S 14 k ∧ 0 ≤ S 14 j ∧ S 9 k = S 9 j ∧ S 13 k = S 13 j ∧ S 14 k / 8 / 6 = S 14 j / 8 / 6
def crI (S : SS) (k j : Int) : Int := if 0 ≤ S 14 k ∧ 0 ≤ S 14 j ∧ S 9 k = S 9 j ∧ S 13 k = S 13 j ∧ S 14 k / 8 / 6 = S 14 j / 8 / 6 then 1 else 0
def wsI (S : SS) (k : Int) : Int := if 0 ≤ S 14 k then sumN (fun n => S 6 (30 * S 10 k + S 14 k / 8 + (n : Int))) (S 12 k).toNat else 0
def amt (S : SS) (p : Int) : Int := if p = 0 then sumN (fun k => gapK S k) (S 20 3 * 5).toNat else if p = 1 then sumN (fun k => lateK S k) (S 20 4).toNat else if p = 2 then sumN (fun k => wsI S k) (S 20 4).toNat else sumN (fun k => sumN (fun j => crI S k j) k) (S 20 4).toNat
theorem sm_pt {f g : Nat → Int} {i : Nat} {d : Int} : ∀ n, i < n → (∀ k, k < n → k ≠ i → g k = f k) → g i = f i + d → sumN g n = sumN f n + d := by
  intro n
  induction n with
  | zero => intro h; exact absurd h (by omega)
  | succ n ih =>
    intro h1 h2 h3
    show sumN g n + g n = sumN f n + f n + d
    by_cases c : i = n
    · subst c
      rw [sumN_c (f := g) (g := f) i (fun k hk => h2 k (by omega) (by omega)), h3]
      omega
    · rw [ih (by omega) (fun k hk hki => h2 k (by omega) hki) h3, h2 n (by omega) (Ne.symm c)]
      omega
theorem sm_z {f : Nat → Int} : ∀ n, (∀ k, k < n → f k = 0) → sumN f n = 0 := by
  intro n
  induction n with
  | zero => intro _; rfl
  | succ n ih =>
    intro h
    show sumN f n + f n = 0
    rw [ih (fun k hk => h k (by omega)), h n (by omega)]
    rfl
theorem sm_add (f : Nat → Int) (n : Nat) : ∀ m, sumN f (n + m) = sumN f n + sumN (fun k => f (n + k)) m := by
  intro m
  induction m with
  | zero => show sumN f n = sumN f n + 0; omega
  | succ m ih =>
    show sumN f (n + m) + f (n + m) = sumN f n + (sumN (fun k => f (n + k)) m + f (n + m))
    rw [ih]
    omega
theorem sm_win (f : Nat → Int) (s n N : Nat) (h : s + n ≤ N) : sumN (fun j => if s ≤ j ∧ j < s + n then f j else 0) N = sumN (fun i => f (s + i)) n := by
  rw [show N = s + n + (N - (s + n)) by omega, sm_add, sm_add, sm_z s (fun k hk => if_neg (by omega)), sm_z (N - (s + n)) (fun k hk => if_neg (by omega))]
  rw [sumN_c (g := fun i => f (s + i)) n (fun k hk => if_pos (by omega))]
  omega
theorem hrM_hrs2 {n s : Int} (n0 : 0 ≤ n) (s0 : 0 ≤ s) : hrM n s = hrs n.toNat s.toNat := by
  unfold hrM hrs
  rw [← li_1, ← li_31, ← li_63, show ((n.toNat : Nat) : Int) = n by omega, show ((s.toNat : Nat) : Int) = s by omega, show ((s.toNat - s.toNat % 6 : Nat) : Int) = s - s % 6 by omega]
theorem hrM_has2 {n s : Int} {j : Nat} (n0 : 1 ≤ n) (n1 : n ≤ 3) (s0 : 0 ≤ s) (s1 : s < 30) (hf : s % 6 + n ≤ 6) (hj : j < 30) : bHas (hrM n s) (iI (j : Int)) = (decide (s ≤ j) && decide ((j : Int) < s + n)) := by
  rw [hrM_hrs2 (by omega) s0]
  have h := hr_has ⟨(n - 1).toNat, by omega⟩ ⟨s.toNat, by omega⟩ ⟨j, hj⟩
  simp only at h
  rw [show (n - 1).toNat + 1 = n.toNat by omega] at h
  rw [h]
  congr 1
  · apply decide_eq_decide.mpr
    omega
  · apply decide_eq_decide.mpr
    unfold enF
    split <;> omega
theorem late_iff2 {n s : Int} (n0 : 1 ≤ n) (n1 : n ≤ 3) (s0 : 0 ≤ s) (s1 : s < 30) (hf : s % 6 + n ≤ 6) : (hrM n s &&& lastH = 0) ↔ ¬ (s + n) % 6 = 0 := by
  rw [hrM_hrs2 (by omega) s0]
  have h := la_has ⟨(n - 1).toNat, by omega⟩ ⟨s.toNat, by omega⟩ (by simp only; omega)
  simp only at h
  rw [show (n - 1).toNat + 1 = n.toNat by omega] at h
  by_cases c : hrs n.toNat s.toNat &&& lastH = 0
  · simp [c] at h
    exact ⟨fun _ => by omega, fun _ => c⟩
  · simp [c] at h
    exact ⟨fun q => absurd q c, fun q => absurd (show (s + n) % 6 = 0 by omega) q⟩
theorem orN_has (f : Nat → Int32) {s : Nat} (hs : s < 32) : ∀ n, bHas (orN f n) (iI (s : Int)) = true ↔ ∃ k, k < n ∧ bHas (f k) (iI (s : Int)) = true := by
  intro n
  induction n with
  | zero =>
    show bHas (iI 0) _ = true ↔ _
    rw [bHas_00 s hs]
    exact ⟨fun h => absurd h (by decide), fun ⟨k, h, _⟩ => absurd h (by omega)⟩
  | succ n ih =>
    show bHas (orN f n ||| f n) _ = true ↔ _
    rw [bHas_or _ _ hs, Bool.or_eq_true, ih]
    constructor
    · rintro (⟨k, h1, h2⟩ | h)
      · exact ⟨k, by omega, h2⟩
      · exact ⟨n, by omega, h⟩
    · rintro ⟨k, h1, h2⟩
      by_cases c : k = n
      · subst c; exact Or.inr h2
      · exact Or.inl ⟨k, by omega, h2⟩
theorem bz_iff (S : SS) (g s : Int) : ∀ (n : Nat) (k : Int), bz S g s n k = true ↔ ∃ j : Nat, j < n ∧ S 9 (k + j) = g ∧ (0 ≤ S 14 (k + j) ∧ S 14 (k + j) / 8 ≤ s ∧ s < S 14 (k + j) / 8 + S 12 (k + j)) := by
  intro n
  induction n with
  | zero => intro k; exact ⟨fun h => absurd h (by show ¬ false = true; decide), fun ⟨j, h, _⟩ => absurd h (by omega)⟩
  | succ n ih =>
    intro k
    unfold bz
    rw [Bool.or_eq_true, ih (k + 1), Bool.and_eq_true, decide_eq_true_eq, decide_eq_true_eq]
    constructor
    · rintro (h | ⟨j, h1, h2⟩)
      · exact ⟨0, by omega, by simpa using h⟩
      · refine ⟨j + 1, by omega, ?_⟩
        rw [show k + ((j + 1 : Nat) : Int) = k + 1 + (j : Int) by omega]
        exact h2
    · rintro ⟨j, h1, h2⟩
      by_cases c : j = 0
      · subst c
        exact Or.inl (by simpa using h2)
      · refine Or.inr ⟨j - 1, by omega, ?_⟩
        rw [show k + 1 + ((j - 1 : Nat) : Int) = k + (j : Int) by omega]
        exact h2
theorem busy_iff (S : SS) (g s : Int) : busyP S g s = true ↔ ∃ j : Nat, j < (S 20 4).toNat ∧ S 9 (j : Int) = g ∧ 0 ≤ S 14 (j : Int) ∧ S 14 (j : Int) / 8 ≤ s ∧ s < S 14 (j : Int) / 8 + S 12 (j : Int) := by
  unfold busyP
  rw [bz_iff]
  simp only [Int.zero_add]
/-- the gaps of a day are those of its pattern -/
def gpL : List Bool → Int → Int → Int
  | [], a, _ => a
  | b :: bs, a, w => if b = true then gpL bs (a + (if w ≤ 0 then 0 else w)) 0 else gpL bs a (if w < 0 then w else w + 1)
def blS (S : SS) (g : Int) : Nat → Int → List Bool
  | 0, _ => []
  | n + 1, s => busyP S g s :: blS S g n (s + 1)
theorem gpF_L (S : SS) (g : Int) : ∀ (n : Nat) (s a w : Int), gpF S g n s a w = gpL (blS S g n s) a w := by
  intro n
  induction n with
  | zero => intro s a w; rfl
  | succ n ih =>
    intro s a w
    show (if _ then _ else _) = (if _ then _ else _)
    rw [ih, ih]
def mkD (d : Int) (b0 b1 b2 b3 b4 b5 : Bool) : Int32 := ((((((if b0 = true then iI 1 <<< (iI (6 * d) &&& iI 31) else iI 0) ||| (if b1 = true then iI 1 <<< (iI (6 * d + 1) &&& iI 31) else iI 0)) ||| (if b2 = true then iI 1 <<< (iI (6 * d + 2) &&& iI 31) else iI 0)) ||| (if b3 = true then iI 1 <<< (iI (6 * d + 3) &&& iI 31) else iI 0)) ||| (if b4 = true then iI 1 <<< (iI (6 * d + 4) &&& iI 31) else iI 0)) ||| (if b5 = true then iI 1 <<< (iI (6 * d + 5) &&& iI 31) else iI 0))
set_option maxRecDepth 100000 in
theorem mkD_gap : ∀ d : Fin 5, ∀ b0 b1 b2 b3 b4 b5 : Bool, bcN (gaM (mkD (d.val : Int) b0 b1 b2 b3 b4 b5)) = gpL [b0, b1, b2, b3, b4, b5] 0 (-1) := by decide +kernel
set_option maxRecDepth 100000 in
theorem bit_has2 : ∀ k : Fin 32, ∀ s : Fin 32, bHas (iI 1 <<< (iI (k.val : Int) &&& iI 31)) (iI (s.val : Int)) = decide (s.val = k.val) := by decide +kernel
theorem one_if {k : Int} {s : Nat} (k0 : 0 ≤ k) (k1 : k < 32) (hs : s < 32) (b : Bool) : bHas (if b = true then iI 1 <<< (iI k &&& iI 31) else iI 0) (iI (s : Int)) = (b && decide ((s : Int) = k)) := by
  have h := bit_has2 ⟨k.toNat, by omega⟩ ⟨s, hs⟩
  simp only at h
  rw [show ((k.toNat : Nat) : Int) = k by omega] at h
  cases b
  · rw [if_neg (by decide), bHas_00 s hs]
    rfl
  · rw [if_pos rfl, h, Bool.true_and]
    apply decide_eq_decide.mpr
    omega
theorem gap_day {S : SS} {x : Int32} {g d : Int} (d0 : 0 ≤ d) (d1 : d < 5) (h : ∀ j : Nat, j < 32 → bHas x (iI (j : Int)) = (decide ((j : Int) / 6 = d) && busyP S g (j : Int))) : bcN (gaM x) = gpF S g 6 (6 * d) 0 (-1) := by
  rw [gpF_L]
  show _ = gpL [busyP S g (6 * d), busyP S g (6 * d + 1), busyP S g (6 * d + 1 + 1), busyP S g (6 * d + 1 + 1 + 1), busyP S g (6 * d + 1 + 1 + 1 + 1), busyP S g (6 * d + 1 + 1 + 1 + 1 + 1)] 0 (-1)
  rw [show 6 * d + 1 + 1 + 1 + 1 + 1 = 6 * d + 5 by omega, show 6 * d + 1 + 1 + 1 + 1 = 6 * d + 4 by omega, show 6 * d + 1 + 1 + 1 = 6 * d + 3 by omega, show 6 * d + 1 + 1 = 6 * d + 2 by omega]
  have e := mkD_gap ⟨d.toNat, by omega⟩ (busyP S g (6 * d)) (busyP S g (6 * d + 1)) (busyP S g (6 * d + 2)) (busyP S g (6 * d + 3)) (busyP S g (6 * d + 4)) (busyP S g (6 * d + 5))
  simp only at e
  rw [show ((d.toNat : Nat) : Int) = d by omega] at e
  rw [← e]
  congr 2
  refine bHas_ext (fun s hs => ?_)
  rw [h s hs]
  unfold mkD
  rw [bHas_or _ _ hs, bHas_or _ _ hs, bHas_or _ _ hs, bHas_or _ _ hs, bHas_or _ _ hs, one_if (by omega) (by omega) hs, one_if (by omega) (by omega) hs, one_if (by omega) (by omega) hs, one_if (by omega) (by omega) hs, one_if (by omega) (by omega) hs, one_if (by omega) (by omega) hs]
  by_cases c : (s : Int) / 6 = d
  · rw [decide_eq_true c, Bool.true_and]
    rcases (show (s : Int) = 6 * d ∨ (s : Int) = 6 * d + 1 ∨ (s : Int) = 6 * d + 2 ∨ (s : Int) = 6 * d + 3 ∨ (s : Int) = 6 * d + 4 ∨ (s : Int) = 6 * d + 5 by omega) with q | q | q | q | q | q
    · rw [q, decide_eq_true rfl, decide_eq_false (by omega), decide_eq_false (by omega), decide_eq_false (by omega), decide_eq_false (by omega), decide_eq_false (by omega)]
      simp only [Bool.and_true, Bool.and_false, Bool.or_false, Bool.false_or]
    · rw [q, decide_eq_true (p := 6 * d + 1 = 6 * d + 1) rfl, decide_eq_false (p := 6 * d + 1 = 6 * d) (by omega), decide_eq_false (p := 6 * d + 1 = 6 * d + 2) (by omega), decide_eq_false (p := 6 * d + 1 = 6 * d + 3) (by omega), decide_eq_false (p := 6 * d + 1 = 6 * d + 4) (by omega), decide_eq_false (p := 6 * d + 1 = 6 * d + 5) (by omega)]
      simp only [Bool.and_true, Bool.and_false, Bool.or_false, Bool.false_or]
    · rw [q, decide_eq_true (p := 6 * d + 2 = 6 * d + 2) rfl, decide_eq_false (p := 6 * d + 2 = 6 * d) (by omega), decide_eq_false (p := 6 * d + 2 = 6 * d + 1) (by omega), decide_eq_false (p := 6 * d + 2 = 6 * d + 3) (by omega), decide_eq_false (p := 6 * d + 2 = 6 * d + 4) (by omega), decide_eq_false (p := 6 * d + 2 = 6 * d + 5) (by omega)]
      simp only [Bool.and_true, Bool.and_false, Bool.or_false, Bool.false_or]
    · rw [q, decide_eq_true (p := 6 * d + 3 = 6 * d + 3) rfl, decide_eq_false (p := 6 * d + 3 = 6 * d) (by omega), decide_eq_false (p := 6 * d + 3 = 6 * d + 1) (by omega), decide_eq_false (p := 6 * d + 3 = 6 * d + 2) (by omega), decide_eq_false (p := 6 * d + 3 = 6 * d + 4) (by omega), decide_eq_false (p := 6 * d + 3 = 6 * d + 5) (by omega)]
      simp only [Bool.and_true, Bool.and_false, Bool.or_false, Bool.false_or]
    · rw [q, decide_eq_true (p := 6 * d + 4 = 6 * d + 4) rfl, decide_eq_false (p := 6 * d + 4 = 6 * d) (by omega), decide_eq_false (p := 6 * d + 4 = 6 * d + 1) (by omega), decide_eq_false (p := 6 * d + 4 = 6 * d + 2) (by omega), decide_eq_false (p := 6 * d + 4 = 6 * d + 3) (by omega), decide_eq_false (p := 6 * d + 4 = 6 * d + 5) (by omega)]
      simp only [Bool.and_true, Bool.and_false, Bool.or_false, Bool.false_or]
    · rw [q, decide_eq_true (p := 6 * d + 5 = 6 * d + 5) rfl, decide_eq_false (p := 6 * d + 5 = 6 * d) (by omega), decide_eq_false (p := 6 * d + 5 = 6 * d + 1) (by omega), decide_eq_false (p := 6 * d + 5 = 6 * d + 2) (by omega), decide_eq_false (p := 6 * d + 5 = 6 * d + 3) (by omega), decide_eq_false (p := 6 * d + 5 = 6 * d + 4) (by omega)]
      simp only [Bool.and_true, Bool.and_false, Bool.or_false, Bool.false_or]
  · rw [decide_eq_false c, Bool.false_and, decide_eq_false (by omega), decide_eq_false (by omega), decide_eq_false (by omega), decide_eq_false (by omega), decide_eq_false (by omega), decide_eq_false (by omega)]
    simp only [Bool.and_false, Bool.or_false]
set_option maxRecDepth 100000 in
theorem dyM_hasA : ∀ d : Fin 5, ∀ s : Fin 32, bHas (dyM (d.val : Int)) (iI (s.val : Int)) = decide (s.val / 6 = d.val) := by decide +kernel
theorem dyM_has {d : Int} {s : Nat} (d0 : 0 ≤ d) (d1 : d < 5) (hs : s < 32) : bHas (dyM d) (iI (s : Int)) = decide ((s : Int) / 6 = d) := by
  have h := dyM_hasA ⟨d.toNat, by omega⟩ ⟨s, hs⟩
  simp only at h
  rw [show ((d.toNat : Nat) : Int) = d by omega] at h
  rw [h]
  apply decide_eq_decide.mpr
  omega
theorem hrM_day {n s : Int} (s0 : 0 ≤ s) (s1 : s < 30) {j : Nat} (hj : j < 32) (h : ¬ (j : Int) / 6 = s / 6) : bHas (hrM n s) (iI (j : Int)) = false := by
  unfold hrM
  rw [bHas_and _ _ hj, show iI 63 <<< (iI (s - s % 6) &&& iI 31) = dyM (s / 6) by unfold dyM; rw [show 6 * (s / 6) = s - s % 6 by omega], dyM_has (by omega) (by omega) hj, decide_eq_false h, Bool.and_false]
theorem gpF_eq {U V : SS} {g g2 : Int} : ∀ (n : Nat) (s a w : Int), (∀ t : Int, s ≤ t → t < s + n → busyP U g t = busyP V g2 t) → gpF U g n s a w = gpF V g2 n s a w := by
  intro n
  induction n with
  | zero => intro s a w _; rfl
  | succ n ih =>
    intro s a w h
    show (if _ then _ else _) = (if _ then _ else _)
    rw [h s (by omega) (by omega), ih (s + 1) _ _ (fun t t0 t1 => h t (by omega) (by omega)), ih (s + 1) _ _ (fun t t0 t1 => h t (by omega) (by omega))]
theorem eq_tt {a b : Bool} (h : a = true ↔ b = true) : a = b := by
  cases a <;> cases b <;> simp_all
section
variable {S : SS} {l s r : Int}
theorem B14x {S : SS} (hb : Bn S) (i : Int) : -1 ≤ S 14 i ∧ S 14 i < 240 := by have h := hb i; omega
theorem busy_U (l0 : 0 ≤ l) (l1 : l < S 20 4) (s0 : 0 ≤ s) (r0 : 0 ≤ r) (r1 : r < 8) (g t : Int) : busyP (upS S 14 l (8 * s + r)) g t = (busyP (upS S 14 l (-1)) g t || decide (S 9 l = g ∧ s ≤ t ∧ t < s + S 12 l)) := by
  refine eq_tt ?_
  rw [Bool.or_eq_true, decide_eq_true_eq, busy_iff, busy_iff]
  have hs : (8 * s + r) / 8 = s := by omega
  have hl : ((l.toNat : Nat) : Int) = l := by omega
  constructor
  · rintro ⟨j, j1, j9, j0, j2, j3⟩
    change S 9 (j : Int) = g at j9
    by_cases c : (j : Int) = l
    · rw [c] at j9 j0 j2 j3
      rw [upS_s] at j2 j3
      rw [hs] at j2 j3
      exact Or.inr ⟨j9, j2, j3⟩
    · refine Or.inl ⟨j, j1, j9, ?_⟩
      rw [pl_k c] at j0 j2 j3 ⊢
      exact ⟨j0, j2, j3⟩
  · rintro (⟨j, j1, j9, j0, j2, j3⟩ | ⟨h9, h1, h2⟩)
    · by_cases c : (j : Int) = l
      · rw [c, upS_s] at j0
        exact absurd j0 (by decide)
      · refine ⟨j, j1, j9, ?_⟩
        rw [pl_k c] at j0 j2 j3 ⊢
        exact ⟨j0, j2, j3⟩
    · refine ⟨l.toNat, by show l.toNat < (S 20 4).toNat; omega, ?_⟩
      rw [hl, upS_s, hs]
      exact ⟨h9, by omega, h1, h2⟩
theorem gh_V (hv : Vl S) (hb : Bn S) {j : Nat} (hj : j < 30) : bHas (ghM S l (S 20 4).toNat) (iI (j : Int)) = busyP (upS S 14 l (-1)) (S 9 l) (j : Int) := by
  refine eq_tt ?_
  unfold ghM
  rw [orN_has _ (by omega), busy_iff]
  constructor
  · rintro ⟨k, k1, hk⟩
    refine ⟨k, k1, ?_⟩
    by_cases c : (k : Int) ≠ l ∧ 0 ≤ S 14 k ∧ S 9 k = S 9 l
    · rw [if_pos c] at hk
      have h2 := hv k (by omega) (by omega)
      have h3 := B14x hb (k : Int)
      rw [hrM_has2 (by omega) (by omega) (by omega) (by omega) (by omega) hj, Bool.and_eq_true, decide_eq_true_eq, decide_eq_true_eq] at hk
      rw [pl_k c.1]
      exact ⟨c.2.2, c.2.1, hk.1, hk.2⟩
    · rw [if_neg c, bHas_00 j (by omega)] at hk
      exact absurd hk (by decide)
  · rintro ⟨k, k1, k9, k0, k2, k3⟩
    change k < (S 20 4).toNat at k1
    change S 9 (k : Int) = S 9 l at k9
    have c : (k : Int) ≠ l := fun c => by
      rw [c, upS_s] at k0
      exact absurd k0 (by decide)
    rw [pl_k c] at k0 k2 k3
    change (j : Int) < S 14 (k : Int) / 8 + S 12 (k : Int) at k3
    refine ⟨k, k1, ?_⟩
    have h2 := hv k (by omega) (by omega)
    have h3 := B14x hb (k : Int)
    rw [if_pos ⟨c, k0, k9⟩, hrM_has2 (by omega) (by omega) (by omega) (by omega) (by omega) hj, decide_eq_true k2, decide_eq_true k3]
    rfl
theorem gap_pl (hb : Bn S) (hv : Vl S) (l0 : 0 ≤ l) (l1 : l < S 20 4) (s0 : 0 ≤ s) (s1 : s < 30) (hf : s % 6 + S 12 l ≤ 6) (r0 : 0 ≤ r) (r1 : r < 8) : sumN (fun k => gapK (upS S 14 l (8 * s + r)) k) (S 20 3 * 5).toNat = sumN (fun k => gapK (upS S 14 l (-1)) k) (S 20 3 * 5).toNat + (bcN (gaM ((ghM S l (S 20 4).toNat &&& dyM (s / 6)) ||| hrM (S 12 l) s)) - bcN (gaM (ghM S l (S 20 4).toNat &&& dyM (s / 6)))) := by
  have hl := hv l l0 l1
  have hi : (((5 * S 9 l + s / 6).toNat : Nat) : Int) = 5 * S 9 l + s / 6 := by omega
  refine sm_pt (i := (5 * S 9 l + s / 6).toNat) _ (by omega) (fun k hk hki => ?_) ?_
  · show gapK _ (k : Int) = gapK _ (k : Int)
    unfold gapK
    refine gpF_eq 6 _ _ _ (fun t t0 t1 => ?_)
    rw [busy_U l0 l1 s0 r0 r1, decide_eq_false (fun w => by omega), Bool.or_false]
  · show gapK _ (((5 * S 9 l + s / 6).toNat : Nat) : Int) = gapK _ (((5 * S 9 l + s / 6).toNat : Nat) : Int) + _
    rw [hi]
    unfold gapK
    rw [show (5 * S 9 l + s / 6) / 5 = S 9 l by omega, show (5 * S 9 l + s / 6) % 5 = s / 6 by omega]
    have eV : ∀ j : Nat, j < 32 → bHas (ghM S l (S 20 4).toNat &&& dyM (s / 6)) (iI (j : Int)) = (decide ((j : Int) / 6 = s / 6) && busyP (upS S 14 l (-1)) (S 9 l) (j : Int)) := fun j hj => by
      rw [bHas_and _ _ hj, dyM_has (by omega) (by omega) hj]
      by_cases c : (j : Int) / 6 = s / 6
      · rw [gh_V hv hb (by omega), Bool.and_comm]
      · rw [decide_eq_false c, Bool.and_false, Bool.false_and]
    rw [gap_day (S := upS S 14 l (8 * s + r)) (g := S 9 l) (d := s / 6) (by omega) (by omega) (fun j hj => by
      rw [bHas_or _ _ hj, eV j hj, busy_U l0 l1 s0 r0 r1]
      by_cases c : (j : Int) / 6 = s / 6
      · rw [decide_eq_true c, hrM_has2 hl.1.1 hl.1.2 s0 s1 hf (by omega), Bool.true_and, Bool.true_and, ← Bool.decide_and]
        congr 1
        apply decide_eq_decide.mpr
        exact ⟨fun h => ⟨rfl, h⟩, fun h => h.2⟩
      · rw [decide_eq_false c, hrM_day s0 s1 hj c]
        rfl), gap_day (S := upS S 14 l (-1)) (g := S 9 l) (d := s / 6) (by omega) (by omega) eV]
    omega
theorem late_pl (hv : Vl S) (l0 : 0 ≤ l) (l1 : l < S 20 4) (s0 : 0 ≤ s) (s1 : s < 30) (hf : s % 6 + S 12 l ≤ 6) (r0 : 0 ≤ r) (r1 : r < 8) : sumN (fun k => lateK (upS S 14 l (8 * s + r)) k) (S 20 4).toNat = sumN (fun k => lateK (upS S 14 l (-1)) k) (S 20 4).toNat + (if hrM (S 12 l) s &&& lastH = 0 then 0 else 1 + S 4 (S 10 l)) := by
  have hl := hv l l0 l1
  have hi : ((l.toNat : Nat) : Int) = l := by omega
  refine sm_pt (i := l.toNat) _ (by omega) (fun k hk hki => ?_) ?_
  · show lateK _ (k : Int) = lateK _ (k : Int)
    unfold lateK
    rw [pl_k (by omega), pl_k (by omega)]
    rfl
  · show lateK _ ((l.toNat : Nat) : Int) = lateK _ ((l.toNat : Nat) : Int) + _
    rw [hi]
    have e1 : lateK (upS S 14 l (-1)) l = 0 := by
      unfold lateK
      rw [upS_s]
      exact if_neg (fun w => absurd w.1 (by decide))
    have e2 : lateK (upS S 14 l (8 * s + r)) l = if (s + S 12 l) % 6 = 0 then 1 + S 4 (S 10 l) else 0 := by
      unfold lateK
      rw [upS_s, show (8 * s + r) / 8 = s by omega]
      show (if 0 ≤ 8 * s + r ∧ (s + S 12 l) % 6 = 0 then 1 + S 4 (S 10 l) else 0) = _
      by_cases c : (s + S 12 l) % 6 = 0
      · rw [if_pos ⟨by omega, c⟩, if_pos c]
      · rw [if_neg (fun w => c w.2), if_neg c]
    have e3 := late_iff2 hl.1.1 hl.1.2 s0 s1 hf
    rw [e1, e2]
    by_cases c : (s + S 12 l) % 6 = 0
    · rw [if_pos c, if_neg (fun w => e3.mp w c)]
      omega
    · rw [if_neg c, if_pos (e3.mpr c)]
      rfl
theorem wish_pl (hv : Vl S) (l0 : 0 ≤ l) (l1 : l < S 20 4) (s0 : 0 ≤ s) (s1 : s < 30) (hf : s % 6 + S 12 l ≤ 6) (r0 : 0 ≤ r) (r1 : r < 8) : sumN (fun k => wsI (upS S 14 l (8 * s + r)) k) (S 20 4).toNat = sumN (fun k => wsI (upS S 14 l (-1)) k) (S 20 4).toNat + wiN S (S 10 l) (hrM (S 12 l) s) := by
  have hl := hv l l0 l1
  have hi : ((l.toNat : Nat) : Int) = l := by omega
  refine sm_pt (i := l.toNat) _ (by omega) (fun k hk hki => ?_) ?_
  · show wsI _ (k : Int) = wsI _ (k : Int)
    unfold wsI
    rw [pl_k (by omega), pl_k (by omega)]
    rfl
  · show wsI _ ((l.toNat : Nat) : Int) = wsI _ ((l.toNat : Nat) : Int) + _
    rw [hi]
    have e1 : wsI (upS S 14 l (-1)) l = 0 := by
      unfold wsI
      rw [upS_s]
      exact if_neg (by decide)
    have e2 : wsI (upS S 14 l (8 * s + r)) l = sumN (fun n => S 6 (30 * S 10 l + s + (n : Int))) (S 12 l).toNat := by
      unfold wsI
      rw [upS_s, show (8 * s + r) / 8 = s by omega, if_pos (by omega)]
      rfl
    have e3 : wiN S (S 10 l) (hrM (S 12 l) s) = sumN (fun n => S 6 (30 * S 10 l + s + (n : Int))) (S 12 l).toNat := by
      unfold wiN
      rw [sumN_c (g := fun j => if s.toNat ≤ j ∧ j < s.toNat + (S 12 l).toNat then S 6 (30 * S 10 l + (j : Int)) else 0) 30 (fun j hj => by
        rw [hrM_has2 hl.1.1 hl.1.2 s0 s1 hf hj, ← Bool.decide_and]
        by_cases c : s ≤ (j : Int) ∧ (j : Int) < s + S 12 l
        · rw [if_pos (decide_eq_true c), if_pos (by omega)]
        · rw [if_neg (fun w => c (of_decide_eq_true w)), if_neg (by omega)]), sm_win (fun j => S 6 (30 * S 10 l + (j : Int))) s.toNat (S 12 l).toNat 30 (by omega)]
      refine sumN_c _ (fun k _ => ?_)
      show S 6 (30 * S 10 l + ((s.toNat + k : Nat) : Int)) = _
      rw [show 30 * S 10 l + ((s.toNat + k : Nat) : Int) = 30 * S 10 l + s + (k : Int) by omega]
    rw [e1, e2, e3, Int.zero_add]
theorem crowd_pl (l0 : 0 ≤ l) (s0 : 0 ≤ s) (r0 : 0 ≤ r) (r1 : r < 8) : ∀ n : Nat, sumN (fun k => sumN (fun j => crI (upS S 14 l (8 * s + r)) k j) k) n = sumN (fun k => sumN (fun j => crI (upS S 14 l (-1)) k j) k) n + (if l < (n : Int) then maN S l (s / 6) n else 0) := by
  have hi : ((l.toNat : Nat) : Int) = l := by omega
  have hs : (8 * s + r) / 8 = s := by omega
  have h1 : ∀ k j : Int, k ≠ l → j ≠ l → crI (upS S 14 l (8 * s + r)) k j = crI (upS S 14 l (-1)) k j := fun k j hk hj => by
    unfold crI
    rw [pl_k hk, pl_k hk, pl_k hj, pl_k hj]
    rfl
  have h2 : ∀ k : Int, crI (upS S 14 l (-1)) k l = 0 ∧ crI (upS S 14 l (-1)) l k = 0 := fun k => by
    unfold crI
    rw [upS_s]
    exact ⟨if_neg (fun w => absurd w.2.1 (by decide)), if_neg (fun w => absurd w.1 (by decide))⟩
  have h3 : ∀ k : Int, k ≠ l → crI (upS S 14 l (8 * s + r)) k l = (if k ≠ l ∧ 0 ≤ S 14 k ∧ S 9 k = S 9 l ∧ S 13 k = S 13 l ∧ S 14 k / 8 / 6 = s / 6 then 1 else 0) := fun k hk => by
    unfold crI
    rw [pl_k hk, upS_s, hs]
    show (if 0 ≤ S 14 k ∧ 0 ≤ 8 * s + r ∧ S 9 k = S 9 l ∧ S 13 k = S 13 l ∧ S 14 k / 8 / 6 = s / 6 then (1 : Int) else 0) = _
    by_cases c : 0 ≤ S 14 k ∧ S 9 k = S 9 l ∧ S 13 k = S 13 l ∧ S 14 k / 8 / 6 = s / 6
    · rw [if_pos ⟨c.1, by omega, c.2⟩, if_pos ⟨hk, c⟩]
    · rw [if_neg (fun w => c ⟨w.1, w.2.2⟩), if_neg (fun w => c w.2)]
  have h4 : ∀ k : Int, k ≠ l → crI (upS S 14 l (8 * s + r)) l k = (if k ≠ l ∧ 0 ≤ S 14 k ∧ S 9 k = S 9 l ∧ S 13 k = S 13 l ∧ S 14 k / 8 / 6 = s / 6 then 1 else 0) := fun k hk => by
    unfold crI
    rw [pl_k hk, upS_s, hs]
    show (if 0 ≤ 8 * s + r ∧ 0 ≤ S 14 k ∧ S 9 l = S 9 k ∧ S 13 l = S 13 k ∧ s / 6 = S 14 k / 8 / 6 then (1 : Int) else 0) = _
    by_cases c : 0 ≤ S 14 k ∧ S 9 k = S 9 l ∧ S 13 k = S 13 l ∧ S 14 k / 8 / 6 = s / 6
    · rw [if_pos ⟨by omega, c.1, c.2.1.symm, c.2.2.1.symm, c.2.2.2.symm⟩, if_pos ⟨hk, c⟩]
    · rw [if_neg (fun w => c ⟨w.2.1, w.2.2.1.symm, w.2.2.2.1.symm, w.2.2.2.2.symm⟩), if_neg (fun w => c w.2)]
  intro n
  induction n with
  | zero =>
    rw [if_neg (by omega)]
    rfl
  | succ n ih =>
    show sumN _ n + sumN (fun j => crI (upS S 14 l (8 * s + r)) (n : Int) j) n = sumN _ n + sumN (fun j => crI (upS S 14 l (-1)) (n : Int) j) n + _
    rw [ih]
    by_cases c : l < (n : Int)
    · have e1 : sumN (fun j => crI (upS S 14 l (8 * s + r)) (n : Int) j) n = sumN (fun j => crI (upS S 14 l (-1)) (n : Int) j) n + (if (n : Int) ≠ l ∧ 0 ≤ S 14 (n : Int) ∧ S 9 (n : Int) = S 9 l ∧ S 13 (n : Int) = S 13 l ∧ S 14 (n : Int) / 8 / 6 = s / 6 then 1 else 0) := sm_pt (i := l.toNat) n (by omega) (fun k _ hki => h1 _ _ (by omega) (by omega)) (by
        show crI _ (n : Int) ((l.toNat : Nat) : Int) = crI _ (n : Int) ((l.toNat : Nat) : Int) + _
        rw [hi, h3 _ (by omega), (h2 _).1, Int.zero_add])
      have e2 : maN S l (s / 6) (n + 1) = maN S l (s / 6) n + (if (n : Int) ≠ l ∧ 0 ≤ S 14 (n : Int) ∧ S 9 (n : Int) = S 9 l ∧ S 13 (n : Int) = S 13 l ∧ S 14 (n : Int) / 8 / 6 = s / 6 then 1 else 0) := rfl
      rw [e1, if_pos c, if_pos (show l < ((n + 1 : Nat) : Int) by omega), e2]
      omega
    · by_cases c2 : (n : Int) = l
      · have e1 : sumN (fun j => crI (upS S 14 l (8 * s + r)) (n : Int) j) n = maN S l (s / 6) n := sumN_c n (fun k hk => by
          rw [c2, h4 _ (by omega)])
        have e2 : sumN (fun j => crI (upS S 14 l (-1)) (n : Int) j) n = 0 := sm_z n (fun k hk => by
          show crI _ (n : Int) (k : Int) = 0
          rw [c2, (h2 _).2])
        have e3 : maN S l (s / 6) (n + 1) = maN S l (s / 6) n + 0 := congrArg (maN S l (s / 6) n + ·) (if_neg (fun w => w.1 c2))
        rw [e1, e2, e3, if_neg c, if_pos (show l < ((n + 1 : Nat) : Int) by omega)]
        omega
      · have e1 : sumN (fun j => crI (upS S 14 l (8 * s + r)) (n : Int) j) n = sumN (fun j => crI (upS S 14 l (-1)) (n : Int) j) n := sumN_c n (fun k hk => h1 _ _ c2 (by omega))
        rw [e1, if_neg c, if_neg (show ¬ l < ((n + 1 : Nat) : Int) by omega)]
        omega
end
theorem amt_plT {S : SS} (hb : Bn S) (hv : Vl S) {l s r p : Int} (l0 : 0 ≤ l) (l1 : l < S 20 4) (s0 : 0 ≤ s) (s1 : s < 30) (hf : s % 6 + S 12 l ≤ 6) (r0 : 0 ≤ r) (r1 : r < 8) : amt (upS S 14 l (8 * s + r)) p = amt (upS S 14 l (-1)) p + adI S l p s := by
  have hc := crowd_pl (S := S) l0 s0 r0 r1 (S 20 4).toNat
  rw [if_pos (show l < (((S 20 4).toNat : Nat) : Int) by omega)] at hc
  have h0 := gap_pl hb hv l0 l1 s0 s1 hf r0 r1
  have h1 := late_pl hv l0 l1 s0 s1 hf r0 r1
  have h2 := wish_pl hv l0 l1 s0 s1 hf r0 r1
  unfold amt adI
  by_cases c0 : p = 0
  · rw [if_pos c0, if_pos c0, if_pos c0]
    exact h0
  · rw [if_neg c0, if_neg c0, if_neg c0]
    by_cases c1 : p = 1
    · rw [if_pos c1, if_pos c1, if_pos c1]
      exact h1
    · rw [if_neg c1, if_neg c1, if_neg c1]
      by_cases c2 : p = 2
      · rw [if_pos c2, if_pos c2, if_pos c2]
        exact h2
      · rw [if_neg c2, if_neg c2, if_neg c2]
        exact hc
