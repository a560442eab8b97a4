/-! PURE LAYER: places counted in two ways, the cheapest of all places and of the rows -/
theorem sumN_pl (f g : Nat → Int) : ∀ n, sumN (fun k => f k + g k) n = sumN f n + sumN g n := by
  intro n
  induction n with
  | zero => rfl
  | succ n ih =>
    show sumN (fun k => f k + g k) n + (f n + g n) = sumN f n + f n + (sumN g n + g n)
    rw [ih]
    omega
theorem sumN_z {f : Nat → Int} : ∀ n, (∀ k, k < n → f k = 0) → sumN f n = 0 := by
  intro n
  induction n with
  | zero => intro _; rfl
  | succ n ih =>
    intro h
    show sumN f n + f n = 0
    rw [ih (fun k hk => h k (by omega)), h n (by omega)]
    rfl
theorem sumN_row (g : Int → Int → Int) : ∀ n, sumN (fun p => g ((p : Int) / 8) ((p : Int) % 8)) (8 * n) = sumN (fun s => sumN (fun r => g s r) 8) n := by
  intro n
  induction n with
  | zero => rfl
  | succ n ih =>
    rw [show 8 * (n + 1) = 8 * n + 8 by omega, sumN_add, ih]
    show _ = sumN (fun s => sumN (fun r => g s r) 8) n + sumN (fun r => g n r) 8
    refine congrArg (sumN (fun s => sumN (fun r => g s r) 8) n + ·) (sumN_c 8 (fun r hr => ?_))
    show g (((8 * n + r : Nat) : Int) / 8) (((8 * n + r : Nat) : Int) % 8) = g n r
    rw [show ((8 * n + r : Nat) : Int) / 8 = n by omega, show ((8 * n + r : Nat) : Int) % 8 = r by omega]
theorem sumN_sw (g : Nat → Nat → Int) (m : Nat) : ∀ n, sumN (fun s => sumN (fun r => g s r) m) n = sumN (fun r => sumN (fun s => g s r) n) m := by
  intro n
  induction n with
  | zero => exact (sumN_z m (fun _ _ => rfl)).symm
  | succ n ih =>
    show sumN (fun s => sumN (fun r => g s r) m) n + sumN (fun r => g n r) m = sumN (fun r => sumN (fun s => g s r) n + g n r) m
    rw [sumN_pl, ih]
theorem mP_sum (S : SS) (l : Int) : ∀ (n : Nat) (p acc : Int), mP S l n p acc = acc + sumN (fun j => if (p + (j : Int)) % 8 < S 20 1 ∧ sLt S l ((p + (j : Int)) / 8) ((p + (j : Int)) % 8) = 0 then 1 else 0) n := by
  intro n
  induction n with
  | zero => intro p acc; show acc = acc + 0; omega
  | succ n ih =>
    intro p acc
    rw [Nat.add_comm n 1, sumN_add]
    rw [Nat.add_comm 1 n]
    unfold mP
    rw [ih]
    have e : (fun j : Nat => (if (p + 1 + (j : Int)) % 8 < S 20 1 ∧ sLt S l ((p + 1 + (j : Int)) / 8) ((p + 1 + (j : Int)) % 8) = 0 then (1 : Int) else 0)) = fun j : Nat => (if (p + ((1 + j : Nat) : Int)) % 8 < S 20 1 ∧ sLt S l ((p + ((1 + j : Nat) : Int)) / 8) ((p + ((1 + j : Nat) : Int)) % 8) = 0 then 1 else 0) := by
      funext j
      rw [show p + 1 + (j : Int) = p + ((1 + j : Nat) : Int) by omega]
    rw [e]
    show _ = acc + (0 + (if (p + ((0 : Nat) : Int)) % 8 < S 20 1 ∧ sLt S l ((p + ((0 : Nat) : Int)) / 8) ((p + ((0 : Nat) : Int)) % 8) = 0 then (1 : Int) else 0) + _)
    rw [show p + ((0 : Nat) : Int) = p by omega]
    omega
theorem ps_hi (S : SS) (K : KK) (l r : Int) : ∀ n, bHas (psN S K l r n) (iI ((30 : Nat) : Int)) = false ∧ bHas (psN S K l r n) (iI ((31 : Nat) : Int)) = false := by
  intro n
  induction n with
  | zero =>
    show bHas (1073741823 : Int32) (iI ((30 : Nat) : Int)) = false ∧ bHas (1073741823 : Int32) (iI ((31 : Nat) : Int)) = false
    exact ⟨by decide +kernel, by decide +kernel⟩
  | succ n ih =>
    unfold psN
    rw [bHas_and _ _ (by decide), bHas_and _ _ (by decide), ih.1, ih.2]
    exact ⟨rfl, rfl⟩
theorem bcN_30 {x : Int32} (h : bHas x (iI ((30 : Nat) : Int)) = false ∧ bHas x (iI ((31 : Nat) : Int)) = false) : bcN x = sumN (fun s => if bHas x (iI (s : Int)) = true then 1 else 0) 30 := by
  unfold bcN
  refine sumN_0 (n := 30) 2 (fun k h1 h2 => ?_)
  rcases (show k = 30 ∨ k = 31 by omega) with rfl | rfl
  · rw [h.1]; rfl
  · rw [h.2]; rfl
theorem mP_cp {S : SS} (hV : VS S) {l : Int} (l0 : 0 ≤ l) (l1 : l < S 20 4) : mP S l 240 0 0 = cpS S l := by
  rw [mP_sum, Int.zero_add]
  have e : (fun j : Nat => (if (0 + (j : Int)) % 8 < S 20 1 ∧ sLt S l ((0 + (j : Int)) / 8) ((0 + (j : Int)) % 8) = 0 then (1 : Int) else 0)) = fun p : Nat => (fun s r : Int => (if r < S 20 1 ∧ sLt S l s r = 0 then (1 : Int) else 0)) ((p : Int) / 8) ((p : Int) % 8) := by
    funext j
    rw [Int.zero_add]
  rw [e]
  refine (sumN_row (fun s r : Int => (if r < S 20 1 ∧ sLt S l s r = 0 then (1 : Int) else 0)) 30).trans ?_
  refine (sumN_sw (fun s r : Nat => (if (r : Int) < S 20 1 ∧ sLt S l s r = 0 then (1 : Int) else 0)) 8 30).trans ?_
  unfold cpS
  refine sumN_c 8 (fun r hr => ?_)
  by_cases c : (r : Int) < S 20 1
  · rw [if_pos c, bcN_30 (x := psM S l r) (ps_hi S (KS S l) l r 10)]
    refine sumN_c 30 (fun s hs => ?_)
    have h := psM_sLt hV l0 l1 (r := (r : Int)) (by omega) c (s := (s : Int)) (by omega) (by omega)
    by_cases d : sLt S l (s : Int) (r : Int) = 0
    · rw [if_pos ⟨c, d⟩, if_pos (h.mpr d)]
    · rw [if_neg (fun q => d q.2), if_neg (fun q => d (h.mp q))]
  · rw [if_neg c, sumN_z 30 (fun s _ => if_neg (fun q => c q.1))]
    unfold bcN
    exact (sumN_z 32 (fun s hs => by rw [bHas_00 s hs]; rfl)).symm
theorem amin_sh (ok : Nat → Bool) (c : Nat → Int) (B : Int) : ∀ n, amin ok (fun k => B + c k) n = amin ok c n := by
  intro n
  induction n with
  | zero => rfl
  | succ n ih =>
    unfold amin
    rw [ih]
    have e : (B + c n < B + c (amin ok c n).toNat) ↔ (c n < c (amin ok c n).toNat) := by omega
    simp only [e]
theorem amin_row (ok : Nat → Bool) (C : Nat → Int) (n : Nat) : ∀ j, j ≤ 8 → amin ok (fun p => C (p / 8)) (8 * n + j) = if 0 ≤ fstN (fun r => ok (8 * n + r)) j ∧ (amin ok (fun p => C (p / 8)) (8 * n) < 0 ∨ C n < C ((amin ok (fun p => C (p / 8)) (8 * n)).toNat / 8)) then ((8 * n : Nat) : Int) + fstN (fun r => ok (8 * n + r)) j else amin ok (fun p => C (p / 8)) (8 * n) := by
  intro j
  induction j with
  | zero => intro _; rw [if_neg (fun q => absurd (show (0 : Int) ≤ -1 from q.1) (by decide))]; rfl
  | succ j ih =>
    intro hj
    have ih := ih (by omega)
    have hb := fstN_b (fun r => ok (8 * n + r)) j
    have e1 : amin ok (fun p => C (p / 8)) (8 * n + (j + 1)) = if ok (8 * n + j) = true ∧ (amin ok (fun p => C (p / 8)) (8 * n + j) < 0 ∨ C ((8 * n + j) / 8) < C ((amin ok (fun p => C (p / 8)) (8 * n + j)).toNat / 8)) then ((8 * n + j : Nat) : Int) else amin ok (fun p => C (p / 8)) (8 * n + j) := rfl
    rw [e1, ih, show (8 * n + j) / 8 = n by omega]
    have e2 : fstN (fun r => ok (8 * n + r)) (j + 1) = if 0 ≤ fstN (fun r => ok (8 * n + r)) j then fstN (fun r => ok (8 * n + r)) j else if ok (8 * n + j) = true then (j : Int) else -1 := rfl
    rw [e2]
    generalize fstN (fun r => ok (8 * n + r)) j = f at *
    generalize amin ok (fun p => C (p / 8)) (8 * n) = a at *
    clear ih e1 e2
    by_cases c1 : 0 ≤ f
    · by_cases c2 : a < 0 ∨ C n < C (a.toNat / 8)
      · have h1 : 0 ≤ f ∧ (a < 0 ∨ C n < C (a.toNat / 8)) := ⟨c1, c2⟩
        have h2 : (((8 * n : Nat) : Int) + f).toNat / 8 = n := by omega
        have h3 : ¬ (ok (8 * n + j) = true ∧ ((((8 * n : Nat) : Int) + f) < 0 ∨ C n < C n)) := fun q => by have := q.2; omega
        simp only [if_pos c1, if_pos h1, h2, if_neg h3]
      · have h1 : ¬ (0 ≤ f ∧ (a < 0 ∨ C n < C (a.toNat / 8))) := fun q => c2 q.2
        have h3 : ¬ (ok (8 * n + j) = true ∧ (a < 0 ∨ C n < C (a.toNat / 8))) := fun q => c2 q.2
        simp only [if_pos c1, if_neg h1, if_neg h3]
    · have h1 : ¬ (0 ≤ f ∧ (a < 0 ∨ C n < C (a.toNat / 8))) := fun q => c1 q.1
      by_cases c3 : ok (8 * n + j) = true
      · by_cases c2 : a < 0 ∨ C n < C (a.toNat / 8)
        · have h3 : ok (8 * n + j) = true ∧ (a < 0 ∨ C n < C (a.toNat / 8)) := ⟨c3, c2⟩
          have h4 : 0 ≤ (j : Int) ∧ (a < 0 ∨ C n < C (a.toNat / 8)) := ⟨by omega, c2⟩
          simp only [if_neg c1, if_pos c3, if_neg h1, if_pos h3, if_pos h4]
          omega
        · have h3 : ¬ (ok (8 * n + j) = true ∧ (a < 0 ∨ C n < C (a.toNat / 8))) := fun q => c2 q.2
          have h4 : ¬ (0 ≤ (j : Int) ∧ (a < 0 ∨ C n < C (a.toNat / 8))) := fun q => c2 q.2
          simp only [if_neg c1, if_pos c3, if_neg h1, if_neg h3, if_neg h4]
      · have h3 : ¬ (ok (8 * n + j) = true ∧ (a < 0 ∨ C n < C (a.toNat / 8))) := fun q => c3 q.1
        have h4 : ¬ (0 ≤ (-1 : Int) ∧ (a < 0 ∨ C n < C (a.toNat / 8))) := fun q => absurd q.1 (by decide)
        simp only [if_neg c1, if_neg c3, if_neg h1, if_neg h3, if_neg h4]
theorem amin_rows (ok : Nat → Bool) (C : Nat → Int) : ∀ n, amin ok (fun p => C (p / 8)) (8 * n) = cheP (fun s => fstN (fun r => ok (8 * s + r)) 8) C n := by
  intro n
  induction n with
  | zero => rfl
  | succ n ih =>
    rw [show 8 * (n + 1) = 8 * n + 8 by omega, amin_row ok C n 8 (by decide), ih]
    have h1 := amin_b (fun s => decide (0 ≤ fstN (fun r => ok (8 * s + r)) 8)) C n
    have h2 := amin_ok (fun s => decide (0 ≤ fstN (fun r => ok (8 * s + r)) 8)) C n
    have e1 : amin (fun s => decide (0 ≤ fstN (fun r => ok (8 * s + r)) 8)) C (n + 1) = if decide (0 ≤ fstN (fun r => ok (8 * n + r)) 8) = true ∧ (amin (fun s => decide (0 ≤ fstN (fun r => ok (8 * s + r)) 8)) C n < 0 ∨ C n < C (amin (fun s => decide (0 ≤ fstN (fun r => ok (8 * s + r)) 8)) C n).toNat) then (n : Int) else amin (fun s => decide (0 ≤ fstN (fun r => ok (8 * s + r)) 8)) C n := rfl
    have hb := fun s => fstN_b (fun r => ok (8 * s + r)) 8
    unfold cheP
    rw [e1]
    generalize amin (fun s => decide (0 ≤ fstN (fun r => ok (8 * s + r)) 8)) C n = a at *
    have hbn := hb n
    have hba := hb a.toNat
    clear e1 ih
    by_cases c : a < 0
    · by_cases c2 : 0 ≤ fstN (fun r => ok (8 * n + r)) 8
      · have h3 : 0 ≤ fstN (fun r => ok (8 * n + r)) 8 ∧ ((-1 : Int) < 0 ∨ C n < C ((-1 : Int).toNat / 8)) := ⟨c2, Or.inl (by decide)⟩
        have h4 : decide (0 ≤ fstN (fun r => ok (8 * n + r)) 8) = true ∧ (a < 0 ∨ C n < C a.toNat) := ⟨decide_eq_true c2, Or.inl c⟩
        have h5 : ¬ (n : Int) < 0 := by omega
        simp only [if_pos c, if_pos h3, if_pos h4, if_neg h5, Int.toNat_natCast]
        omega
      · have h3 : ¬ (0 ≤ fstN (fun r => ok (8 * n + r)) 8 ∧ ((-1 : Int) < 0 ∨ C n < C ((-1 : Int).toNat / 8))) := fun q => c2 q.1
        have h4 : ¬ (decide (0 ≤ fstN (fun r => ok (8 * n + r)) 8) = true ∧ (a < 0 ∨ C n < C a.toNat)) := fun q => c2 (of_decide_eq_true q.1)
        simp only [if_pos c, if_neg h3, if_neg h4]
    · have h3 := of_decide_eq_true (h2 (by omega))
      have e2 : (8 * a + fstN (fun r => ok (8 * a.toNat + r)) 8).toNat / 8 = a.toNat := by omega
      have e3 : ¬ (8 * a + fstN (fun r => ok (8 * a.toNat + r)) 8) < 0 := by omega
      by_cases c2 : 0 ≤ fstN (fun r => ok (8 * n + r)) 8 ∧ C n < C a.toNat
      · have h4 : 0 ≤ fstN (fun r => ok (8 * n + r)) 8 ∧ (8 * a + fstN (fun r => ok (8 * a.toNat + r)) 8 < 0 ∨ C n < C a.toNat) := ⟨c2.1, Or.inr c2.2⟩
        have h5 : decide (0 ≤ fstN (fun r => ok (8 * n + r)) 8) = true ∧ (a < 0 ∨ C n < C a.toNat) := ⟨decide_eq_true c2.1, Or.inr c2.2⟩
        have h6 : ¬ (n : Int) < 0 := by omega
        simp only [if_neg c, e2, if_pos h4, if_pos h5, if_neg h6, Int.toNat_natCast]
        omega
      · have h4 : ¬ (0 ≤ fstN (fun r => ok (8 * n + r)) 8 ∧ (8 * a + fstN (fun r => ok (8 * a.toNat + r)) 8 < 0 ∨ C n < C a.toNat)) := fun q => c2 ⟨q.1, q.2.resolve_left e3⟩
        have h5 : ¬ (decide (0 ≤ fstN (fun r => ok (8 * n + r)) 8) = true ∧ (a < 0 ∨ C n < C a.toNat)) := fun q => c2 ⟨of_decide_eq_true q.1, q.2.resolve_left c⟩
        simp only [if_neg c, e2, if_neg h4, if_neg h5]
theorem cst_pl {S : SS} (hV : VS S) {l x : Int} (l0 : 0 ≤ l) (l1 : l < S 20 4) (x0 : 0 ≤ x) (x1 : x < 240) (hf : x / 8 % 6 + S 12 l ≤ 6) : cst0 (upS S 14 l x) = cst0 (upS S 14 l (-1)) + adC S l (x / 8) := by
  have h : ∀ q : Int, 0 ≤ q → q < 4 → amt (upS S 14 l x) q = amt (upS S 14 l (-1)) q + adI S l q (x / 8) := fun q q0 q1 => by
    have := amt_pl hV l0 l1 (s := x / 8) (r := x % 8) (p := q) (by omega) (by omega) hf (by omega) (by omega) q0 q1
    rw [show 8 * (x / 8) + x % 8 = x by omega] at this
    exact this
  unfold cst0 coI adC
  rw [← sumN_pl]
  refine sumN_c 4 (fun q hq => ?_)
  rw [upS_g (by decide), upS_g (by decide), h q (by omega) (by omega), Int.mul_add]
theorem poP_i {S : SS} (hV : VS S) {l x : Int} (l0 : 0 ≤ l) (l1 : l < S 20 4) (x0 : 0 ≤ x) (x1 : x < 240) : poP S l x = true ↔ (x % 8 < S 20 1 ∧ sLt S l (x / 8) (x % 8) = 0) := by
  unfold poP
  rw [Bool.and_eq_true, decide_eq_true_eq]
  constructor
  · rintro ⟨h1, h2⟩
    exact ⟨h1, (psM_sLt hV l0 l1 (by omega) h1 (by omega) (by omega)).mp h2⟩
  · rintro ⟨h1, h2⟩
    exact ⟨h1, (psM_sLt hV l0 l1 (by omega) h1 (by omega) (by omega)).mpr h2⟩
theorem chP_all {S : SS} (hV : VS S) {l : Int} (l0 : 0 ≤ l) (l1 : l < S 20 4) (x : Int) : amin (fun q => poP S l q && !decide ((q : Int) = x)) (fun q => cst0 (upS S 14 l q)) 240 = chP S l x := by
  have e1 : amin (fun q => poP S l q && !decide ((q : Int) = x)) (fun q => cst0 (upS S 14 l q)) 240 = amin (fun q => poP S l q && !decide ((q : Int) = x)) (fun q => cst0 (upS S 14 l (-1)) + (fun q : Nat => (fun s : Nat => adC S l s) (q / 8)) q) 240 := amin_c 240 (fun _ _ => rfl) (fun q hq hk => by
    rw [Bool.and_eq_true] at hk
    have hp := poP_p hV l0 l1 (x := (q : Int)) (by omega) (by omega) hk.1
    rw [cst_pl hV l0 l1 (by omega) (by omega) hp.2.1]
    show _ = cst0 (upS S 14 l (-1)) + adC S l ((q / 8 : Nat) : Int)
    rw [show ((q / 8 : Nat) : Int) = (q : Int) / 8 by omega])
  rw [e1, amin_sh]
  refine (amin_rows (fun q : Nat => poP S l q && !decide ((q : Int) = x)) (fun s : Nat => adC S l s) 30).trans ?_
  unfold chP
  have e2 : (fun s : Nat => fstN (fun r => poP S l ((8 * s + r : Nat) : Int) && !decide (((8 * s + r : Nat) : Int) = x)) 8) = fun s : Nat => fRx S l x s := by
    funext s
    unfold fRx
    refine fstN_c 8 (fun r hr => ?_)
    unfold poP
    rw [show ((8 * s + r : Nat) : Int) % 8 = r by omega, show ((8 * s + r : Nat) : Int) / 8 = s by omega, show ((8 * s + r : Nat) : Int) = 8 * (s : Int) + r by omega]
  rw [e2]
