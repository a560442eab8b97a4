/-! PURE LAYER: the adds (class) -/
theorem ok12 (i : Int) : okind i ≠ 12 := by
  unfold okind
  split
  · decide
  · split
    · decide
    · split <;> decide
theorem cell_A2 {A A2 : AA} {S : SS} {K : KK} (hV : VS S) {k : Nat} {i : Int} (h : ∀ k i, live S k i → k ≠ 12 → A2 k i = A k i) (he : A2 26 0 = A 26 0) (h12 : k = 11 → A2 12 i = A 12 i) (hl : live S k i) : cell A2 S K k i = cell A S K k i := by
  let A3 : AA := fun k j => if k = 12 then A 12 j else A2 k j
  have e1 : cell A3 S K k i = cell A S K k i := cell_A (A2 := A3) hV (fun k i hl => by
    by_cases c : k = 12
    · subst c; exact if_pos rfl
    · exact (if_neg c).trans (h k i hl c)) ((if_neg (by decide)).trans he) hl
  rw [← e1]
  unfold cell
  split <;> first
    | rfl
    | (rw [h12 rfl]; rfl)
    | exact congrArg (aR 4 _) (funext fun j => by rw [show A3 (okind i) (j : Int) = A2 (okind i) (j : Int) from if_neg (ok12 i)])
theorem w_P {A : AA} {P : Hp} {S : SS} {K : KK} {z : Nat × Nat} {R : Type} (hA : GA A) {o c k : Nat} {v : Value} {fs : List Value} {Kc : OO R} (ho : ∀ (k : Nat) (i : Int), k < 27 → 0 ≤ i → A k i ≠ o) (h1 : P o = some (aO c fs)) (h2 : k < fs.length) : pV (some o) c k v Kc (Hc A P S K, z) = Kc (Hc A (hset P o (aO c (fs.set k v))) S K, z) := by
  have e : Hc A P S K o = some (aO c fs) := by
    rw [hc_no (fun k i hl => (ho k i (Nat.lt_succ_of_lt hl.1) hl.2.1).symm)]
    exact h1
  rw [x_pV (hs := (Hc A P S K, z)) e h2]
  show Kc (hset (Hc A P S K) o (aO c (fs.set k v)), z) = _
  rw [hc_P hA ho]
theorem hset2 {h : Hp} {a : Nat} {x y : Ce} : hset (hset h a x) a y = hset h a y := by
  funext q
  by_cases c : q = a
  · rw [c, hset_s, hset_s]
  · rw [hset_n c, hset_n c, hset_n c]
theorem w_nw {A : AA} {P : Hp} {S : SS} {K : KK} {z : Nat × Nat} {R : Type} (hA : GA A) {c : Nat} {fs : List Value} {Kc : Nat → OO R} (ho : ∀ (k : Nat) (i : Int), k < 27 → 0 ≤ i → A k i ≠ z.1) : nw c fs Kc (Hc A P S K, z) = Kc z.1 (Hc A (hset P z.1 (aO c fs)) S K, (z.1 + 1, z.2)) := by
  show Kc z.1 (hset (Hc A P S K) z.1 (aO c fs), (z.1 + 1, z.2)) = _
  rw [hc_P hA ho]
theorem w_nwI {A : AA} {P : Hp} {S : SS} {K : KK} {z : Nat × Nat} {R : Type} (hA : GA A) {t : Nat} {n : Int32} {B : Nat} {Kc : Nat → OO R} (hn : ¬ n < 0 ∧ n.toNatClampNeg ≤ B) (ho : ∀ (k : Nat) (i : Int), k < 27 → 0 ≤ i → A k i ≠ z.1) : nwI t n B Kc (Hc A P S K, z) = Kc z.1 (Hc A (hset P z.1 (aI t n.toNatClampNeg (fun _ => 0))) S K, (z.1 + 1, z.2)) := by
  show (if ¬ n < 0 ∧ n.toNatClampNeg ≤ B then Kc z.1 (hset (Hc A P S K) z.1 (aI t n.toNatClampNeg (fun _ => 0)), (z.1 + 1, z.2)) else none) = _
  rw [if_pos hn, hc_P hA ho]
def adA (A : AA) (k0 : Nat) (n : Int) (o : Nat) (q : Int) (b : Nat) : AA := fun k i => if k = k0 ∧ i = n then o else if k = 12 ∧ i = q then b else if k0 = 2 ∧ k = 3 ∧ i = n then o + 1 else if k0 = 5 ∧ (6 ≤ k ∧ k ≤ 9) ∧ i = n then o + (k - 5) else A k i
theorem adA_o {A : AA} {k0 : Nat} {n q : Int} {o b k : Nat} {i : Int} (h1 : ¬ (k = 12 ∧ i = q)) (h2 : i ≠ n ∨ (k ≠ k0 ∧ (k ≠ 3 ∨ k0 ≠ 2) ∧ (k < 6 ∨ 9 < k ∨ k0 ≠ 5))) : adA A k0 n o q b k i = A k i := by
  unfold adA
  rw [if_neg (fun z => by omega), if_neg h1, if_neg (fun z => by omega), if_neg (fun z => by omega)]
theorem adA_s {A : AA} {k0 : Nat} {n q : Int} {o b : Nat} : adA A k0 n o q b k0 n = o := if_pos ⟨rfl, rfl⟩
theorem adA_q {A : AA} {k0 : Nat} {n q : Int} {o b : Nat} (h : 12 ≠ k0) : adA A k0 n o q b 12 q = b := by
  unfold adA
  rw [if_neg (fun z => h z.1), if_pos ⟨rfl, rfl⟩]
/-- what an add leaves behind -/
def Born (A : AA) (P : Hp) (S S2 : SS) (out : Nat) (f : Nat → Int64) (v : Int) (z : Nat × Nat) (h2 : Hp) (z2 : Nat × Nat) : Prop := ∃ (A2 : AA) (K2 : KK), z2.2 = z.2 ∧ A2 26 0 = A 26 0 ∧ A2 0 0 = A 0 0 ∧ AL A2 S2 ∧ CH A2 S2 K2 h2 ∧ CI S2 K2 ∧ (∀ k i, live S2 k i → A2 k i = A k i ∧ live S k i ∨ z.1 ≤ A2 k i) ∧ (∀ x, x < z.1 → (∀ k i, k < 27 → 0 ≤ i → A k i ≠ x) → h2 x = PO P out f v x) ∧ h2 (A 26 0) = some ce0
