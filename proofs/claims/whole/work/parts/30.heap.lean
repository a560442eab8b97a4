/-! PURE LAYER: the class's cells. A k i: the address of the object i of kind k; S: the school, as the reference holds it; K: what is held beside it -/
abbrev KK : Type := Nat → Int → Int → Int32
abbrev AA : Type := Nat → Int → Nat
def upS (S : SS) (f : Nat) (i x : Int) : SS := fun f2 i2 => if f2 = f ∧ i2 = i then x else S f2 i2
def up3 (K : KK) (k : Nat) (i j : Int) (x : Int32) : KK := fun k2 i2 j2 => if k2 = k ∧ i2 = i ∧ j2 = j then x else K k2 i2 j2
theorem upS_s {S : SS} {f : Nat} {i x : Int} : upS S f i x f i = x := if_pos ⟨rfl, rfl⟩
theorem upS_f {S : SS} {f f2 : Nat} {i i2 x : Int} (h : f2 ≠ f) : upS S f i x f2 i2 = S f2 i2 := if_neg (fun z => h z.1)
theorem upS_i {S : SS} {f : Nat} {i i2 x : Int} (h : i2 ≠ i) : upS S f i x f i2 = S f i2 := if_neg (fun z => h z.2)
theorem upS_g {S : SS} {f f2 : Nat} {i x : Int} (h : f2 ≠ f) : upS S f i x f2 = S f2 := funext (fun _ => upS_f h)
theorem up3_s {K : KK} {k : Nat} {i j : Int} {x : Int32} : up3 K k i j x k i j = x := if_pos ⟨rfl, rfl, rfl⟩
theorem up3_k {K : KK} {k k2 : Nat} {i j i2 j2 : Int} {x : Int32} (h : k2 ≠ k) : up3 K k i j x k2 i2 j2 = K k2 i2 j2 := if_neg (fun z => h z.1)
theorem up3_i {K : KK} {k : Nat} {i j i2 j2 : Int} {x : Int32} (h : i2 ≠ i) : up3 K k i j x k i2 j2 = K k i2 j2 := if_neg (fun z => h z.2.1)
theorem up3_j {K : KK} {k : Nat} {i j j2 : Int} {x : Int32} (h : j2 ≠ j) : up3 K k i j x k i j2 = K k i j2 := if_neg (fun z => h z.2.2)
def hrM (n s : Int) : Int32 := ((((iI 1) <<< (iI n &&& iI 31)) - iI 1) <<< (iI s &&& iI 31)) &&& ((iI 63) <<< (iI (s - s % 6) &&& iI 31))
def dyM (d : Int) : Int32 := (iI 63) <<< (iI (6 * d) &&& iI 31)
def offM (x : Int) : Int32 := (if bHas (iI x) (iI 0) = true then dyM 0 else iI 0) ||| (if bHas (iI x) (iI 1) = true then dyM 1 else iI 0) ||| (if bHas (iI x) (iI 2) = true then dyM 2 else iI 0) ||| (if bHas (iI x) (iI 3) = true then dyM 3 else iI 0) ||| (if bHas (iI x) (iI 4) = true then dyM 4 else iI 0)
def tlM (n : Int) : Int32 := mtL (n - 1).toNat 0 lastH
def lcnt (S : SS) (i : Int) : Int := if i = 0 then S 20 2 else if i = 1 then S 20 1 else if i = 2 then S 20 3 else S 20 4
def okind (i : Int) : Nat := if i = 0 then 2 else if i = 1 then 1 else if i = 2 then 4 else 5
def capN (n : Int) : Nat := if n ≤ 10 then 10 else if n ≤ 15 then 15 else 22
def cRoom (S : SS) (i : Int) : List Value := [.int (iI i), .int (iI (S 0 i)), .int (iI (S 1 i)), .int (iI (S 2 i)), .int (iI (1 - S 7 i))]
def cTea (A : AA) (S : SS) (i : Int) : List Value := [.ref (A 3 i), .int (offM (S 3 i)), .int (iI (S 4 i))]
def cLes (A : AA) (S : SS) (K : KK) (i : Int) : List Value := [.int (iI i), .ref (A 4 (S 9 i)), .ref (A 2 (S 10 i)), .int (iI (S 11 i)), .int (iI (S 12 i)), .int (iI (S 13 i)), va_rf (if S 14 i < 0 then none else some (A 1 (S 14 i % 8))), .int (iI (if S 14 i < 0 then -1 else S 14 i / 8)), .int (iI (S 8 i)), .int (tlM (S 12 i)), .ref (A 6 i), .int (K 5 i 11), .int (K 5 i 12), .int (K 5 i 13), .ref (A 7 i), .ref (A 8 i), .int (K 5 i 16), .ref (A 9 i)]
def cell (A : AA) (S : SS) (K : KK) : Nat → Int → Ce
  | 0, _ => aO 11 [.ref (A 11 0), .ref (A 13 0), .ref (A 14 0), .ref (A 15 0), .ref (A 16 0), .ref (A 17 0), .ref (A 18 0), .ref (A 19 0), .int (iI (S 20 5)), .int (iI (S 20 7))]
  | 1, i => aO 8 (cRoom S i)
  | 2, i => aO 10 (cTea A S i)
  | 3, i => aI 0 30 (fun j => if (j : Int) < 30 then iI (S 6 (30 * i + (j : Int))) else iI 0)
  | 4, i => aO 5 [.int (iI (S 5 i))]
  | 5, i => aO 7 (cLes A S K i)
  | 10, i => aI 0 16 (fun j => if (j : Int) < 16 then iI (S 16 (16 * i + (j : Int))) else iI 0)
  | 11, i => aO 2 [.int (iI (lcnt S i)), .ref (if lcnt S i = 0 then A 26 0 else A 12 i), .int (iI (lcnt S i))]
  | 12, i => aR 4 (capN (lcnt S i)) (fun j => if (j : Int) < lcnt S i then some (A (okind i) (j : Int)) else none)
  | 13, _ => aO 9 [.ref (A 11 1), .ref (A 11 2), .ref (A 11 3), .ref (A 20 0), .ref (A 21 0), .int (iI (S 20 6))]
  | 14, _ => aO 4 [.ref (A 22 0)]
  | 15, _ => aO 6 [.ref (A 23 0), .ref (A 24 0)]
  | 16, _ => aO 3 [.ref (A 25 0)]
  | 17, _ => aR 5 6 (fun j => if j < 6 then some (A 10 (j : Int)) else none)
  | 20, _ => aI 0 4 (fun j => iI (S 15 (j : Int)))
  | 6, i => aI 0 8 (fun j => K 6 i (j : Int))
  | 7, i => aI 0 8 (fun j => K 7 i (j : Int))
  | 8, i => aI 0 3 (fun j => K 8 i (j : Int))
  | 9, i => aI 0 5 (fun j => K 9 i (j : Int))
  | 18, i => aI 0 16 (fun j => K 18 i (j : Int))
  | 19, i => aI 0 8 (fun j => K 19 i (j : Int))
  | 21, i => aI 0 4 (fun j => K 21 i (j : Int))
  | 22, i => aI 0 240 (fun j => K 22 i (j : Int))
  | 23, i => aI 0 16 (fun j => K 23 i (j : Int))
  | 24, i => aI 0 16 (fun j => K 24 i (j : Int))
  | 25, i => aI 0 8 (fun j => K 25 i (j : Int))
  | _, _ => aI 0 0 (fun _ => 0)
def numK (S : SS) : Nat → Int
  | 1 => S 20 1 | 2 => S 20 2 | 3 => S 20 2 | 4 => S 20 3
  | 5 => S 20 4 | 6 => S 20 4 | 7 => S 20 4 | 8 => S 20 4 | 9 => S 20 4
  | 10 => 6 | 11 => 4 | 12 => 4 | _ => 1
def live (S : SS) (k : Nat) (i : Int) : Prop := k < 26 ∧ 0 ≤ i ∧ i < numK S k ∧ (k = 12 → 0 < lcnt S i)
def GA (A : AA) : Prop := ∀ (k k2 : Nat) (i i2 : Int), k < 27 → k2 < 27 → 0 ≤ i → 0 ≤ i2 → A k i = A k2 i2 → k = k2 ∧ i = i2
noncomputable def Hc (A : AA) (P : Hp) (S : SS) (K : KK) : Hp := fun q => @dite _ (∃ c : Nat × Int, live S c.1 c.2 ∧ q = A c.1 c.2) (Classical.propDecidable _) (fun h => some (cell A S K h.choose.1 h.choose.2)) (fun _ => P q)
theorem hc_at {A : AA} {P : Hp} {S : SS} {K : KK} (hA : GA A) {k : Nat} {i : Int} (hl : live S k i) : Hc A P S K (A k i) = some (cell A S K k i) := by
  have h : ∃ c : Nat × Int, live S c.1 c.2 ∧ A k i = A c.1 c.2 := ⟨(k, i), hl, rfl⟩
  have e : Hc A P S K (A k i) = some (cell A S K h.choose.1 h.choose.2) := by
    unfold Hc
    exact dif_pos h
  have s := h.choose_spec
  have e2 := hA k h.choose.1 i h.choose.2 (Nat.lt_succ_of_lt hl.1) (Nat.lt_succ_of_lt s.1.1) hl.2.1 s.1.2.1 s.2
  rw [e, ← e2.1, ← e2.2]
theorem hc_no {A : AA} {P : Hp} {S : SS} {K : KK} {q : Nat} (h : ∀ k i, live S k i → q ≠ A k i) : Hc A P S K q = P q := by
  unfold Hc
  exact dif_neg (fun ⟨c, h1, h2⟩ => h c.1 c.2 h1 h2)
theorem hc_ext {A : AA} {P : Hp} {S : SS} {K : KK} {h : Hp} (h1 : ∀ k i, live S k i → h (A k i) = some (cell A S K k i)) (h2 : ∀ q, (∀ k i, live S k i → q ≠ A k i) → h q = P q) (hA : GA A) : h = Hc A P S K := by
  funext q
  by_cases hq : ∃ c : Nat × Int, live S c.1 c.2 ∧ q = A c.1 c.2
  · obtain ⟨c, hl, rfl⟩ := hq
    rw [h1 _ _ hl, hc_at hA hl]
  · have hn : ∀ k i, live S k i → q ≠ A k i := fun k i hl e => hq ⟨(k, i), hl, e⟩
    rw [h2 q hn, hc_no hn]
theorem hc_set {A : AA} {P : Hp} {S S2 : SS} {K K2 : KK} {k : Nat} {i : Int} {e : Ce} (hA : GA A) (hl : live S k i) (hlv : ∀ k i, live S2 k i ↔ live S k i) (ho : ∀ k2 i2, k2 < 26 → live S k2 i2 → ¬ (k2 = k ∧ i2 = i) → cell A S2 K2 k2 i2 = cell A S K k2 i2) (he : e = cell A S2 K2 k i) : hset (Hc A P S K) (A k i) e = Hc A P S2 K2 := by
  refine hc_ext (fun k2 i2 h2 => ?_) (fun q hq => ?_) hA
  · have h3 := (hlv k2 i2).mp h2
    by_cases hc : k2 = k ∧ i2 = i
    · obtain ⟨rfl, rfl⟩ := hc
      rw [hset_s, he]
    · have hne : A k2 i2 ≠ A k i := fun z => hc (hA _ _ _ _ (Nat.lt_succ_of_lt h3.1) (Nat.lt_succ_of_lt hl.1) h3.2.1 hl.2.1 z)
      rw [hset_n hne, hc_at hA h3, ho k2 i2 h3.1 h3 hc]
  · rw [hset_n (hq k i ((hlv k i).mpr hl)), hc_no (fun k i h => hq k i ((hlv k i).mpr h))]
theorem lt26 {Q : Nat → Prop} (h0 : Q 0) (h1 : Q 1) (h2 : Q 2) (h3 : Q 3) (h4 : Q 4) (h5 : Q 5) (h6 : Q 6) (h7 : Q 7) (h8 : Q 8) (h9 : Q 9) (h10 : Q 10) (h11 : Q 11) (h12 : Q 12) (h13 : Q 13) (h14 : Q 14) (h15 : Q 15) (h16 : Q 16) (h17 : Q 17) (h18 : Q 18) (h19 : Q 19) (h20 : Q 20) (h21 : Q 21) (h22 : Q 22) (h23 : Q 23) (h24 : Q 24) (h25 : Q 25) : ∀ k, k < 26 → Q k
  | 0, _ => h0
  | 1, _ => h1
  | 2, _ => h2
  | 3, _ => h3
  | 4, _ => h4
  | 5, _ => h5
  | 6, _ => h6
  | 7, _ => h7
  | 8, _ => h8
  | 9, _ => h9
  | 10, _ => h10
  | 11, _ => h11
  | 12, _ => h12
  | 13, _ => h13
  | 14, _ => h14
  | 15, _ => h15
  | 16, _ => h16
  | 17, _ => h17
  | 18, _ => h18
  | 19, _ => h19
  | 20, _ => h20
  | 21, _ => h21
  | 22, _ => h22
  | 23, _ => h23
  | 24, _ => h24
  | 25, _ => h25
  | n + 26, h => absurd h (by omega)
theorem cell_K {A : AA} {S : SS} {K K2 : KK} {k : Nat} {i : Int} (h : ∀ j, K2 k i j = K k i j) : cell A S K2 k i = cell A S K k i := by
  unfold cell
  split <;> simp only [cLes, h]
theorem x_cst {R : Type} {a c : Nat} {fs : List Value} {K : OO R} {hs : Hs} (h1 : hs.1 a = some (.inr (c, fs))) : cst (some a) c K hs = K hs := by
  simp only [cst, h1, if_true]
theorem x_alen {R : Type} {a t n : Nat} {x : (Nat → Int32) ⊕ (Nat → Int64) ⊕ (Nat → UInt32) ⊕ (Nat → UInt64) ⊕ (Nat → Option Nat)} {K : Int32 → OO R} {hs : Hs} (h1 : hs.1 a = some (.inl (t, n, x))) (h2 : t < 6) : alen (some a) K hs = K (Int32.ofNat n) hs := by
  simp only [alen, h1, h2, if_true]
theorem x_ldR {R : Type} {a t n : Nat} {f : Nat → Option Nat} {i : Int32} {K : Option Nat → OO R} {hs : Hs} (h1 : hs.1 a = some (.inl (t, n, .inr (.inr (.inr (.inr f)))))) (h2 : ¬ (i < 0 ∨ n ≤ i.toNatClampNeg)) : ldR t (some a) i K hs = K (f i.toNatClampNeg) hs := by
  simp only [ldR, h1, h2, true_and, not_false_eq_true, if_true]
theorem x_stI {R : Type} {a n : Nat} {f : Nat → Int32} {i x : Int32} {K : OO R} {hs : Hs} (h1 : hs.1 a = some (.inl (0, n, .inl f))) (h2 : ¬ (i < 0 ∨ n ≤ i.toNatClampNeg)) : stI (some a) i x K hs = K (hset hs.1 a (.inl (0, n, .inl (upd f i.toNatClampNeg x))), hs.2) := by
  simp only [stI, h1, h2, true_and, not_false_eq_true, if_true]
theorem x_pV {R : Type} {a c k : Nat} {v : Value} {fs : List Value} {K : OO R} {hs : Hs} (h1 : hs.1 a = some (.inr (c, fs))) (h2 : k < fs.length) : pV (some a) c k v K hs = K (hset hs.1 a (.inr (c, fs.set k v)), hs.2) := by
  simp only [pV, h1, h2, and_true, if_true]
theorem r_v0 {A : AA} {P : Hp} {S : SS} {K : KK} {z : Nat × Nat} {R : Type} (hA : GA A) {Kc : Nat → OO R} : rcv (some (A 0 0)) 11 Kc (Hc A P S K, z) = Kc (A 0 0) (Hc A P S K, z) := x_rcv (hc_at hA (k := 0) (i := 0) ⟨by decide, by decide, by show (0 : Int) < 1; decide, fun h => absurd h (by decide)⟩)
theorem r_c0 {A : AA} {P : Hp} {S : SS} {K : KK} {z : Nat × Nat} {R : Type} (hA : GA A) {Kc : OO R} : cst (some (A 0 0)) 11 Kc (Hc A P S K, z) = Kc (Hc A P S K, z) := x_cst (hc_at hA (k := 0) (i := 0) ⟨by decide, by decide, by show (0 : Int) < 1; decide, fun h => absurd h (by decide)⟩)
theorem r_0_0 {A : AA} {P : Hp} {S : SS} {K : KK} {z : Nat × Nat} {R : Type} (hA : GA A) {Kc : Option Nat → OO R} : gR (some (A 0 0)) 11 0 Kc (Hc A P S K, z) = Kc (some (A 11 0)) (Hc A P S K, z) := x_gR (hc_at hA (k := 0) (i := 0) ⟨by decide, by decide, by show (0 : Int) < 1; decide, fun h => absurd h (by decide)⟩) rfl
theorem r_0_1 {A : AA} {P : Hp} {S : SS} {K : KK} {z : Nat × Nat} {R : Type} (hA : GA A) {Kc : Option Nat → OO R} : gR (some (A 0 0)) 11 1 Kc (Hc A P S K, z) = Kc (some (A 13 0)) (Hc A P S K, z) := x_gR (hc_at hA (k := 0) (i := 0) ⟨by decide, by decide, by show (0 : Int) < 1; decide, fun h => absurd h (by decide)⟩) rfl
theorem r_0_2 {A : AA} {P : Hp} {S : SS} {K : KK} {z : Nat × Nat} {R : Type} (hA : GA A) {Kc : Option Nat → OO R} : gR (some (A 0 0)) 11 2 Kc (Hc A P S K, z) = Kc (some (A 14 0)) (Hc A P S K, z) := x_gR (hc_at hA (k := 0) (i := 0) ⟨by decide, by decide, by show (0 : Int) < 1; decide, fun h => absurd h (by decide)⟩) rfl
theorem r_0_3 {A : AA} {P : Hp} {S : SS} {K : KK} {z : Nat × Nat} {R : Type} (hA : GA A) {Kc : Option Nat → OO R} : gR (some (A 0 0)) 11 3 Kc (Hc A P S K, z) = Kc (some (A 15 0)) (Hc A P S K, z) := x_gR (hc_at hA (k := 0) (i := 0) ⟨by decide, by decide, by show (0 : Int) < 1; decide, fun h => absurd h (by decide)⟩) rfl
theorem r_0_4 {A : AA} {P : Hp} {S : SS} {K : KK} {z : Nat × Nat} {R : Type} (hA : GA A) {Kc : Option Nat → OO R} : gR (some (A 0 0)) 11 4 Kc (Hc A P S K, z) = Kc (some (A 16 0)) (Hc A P S K, z) := x_gR (hc_at hA (k := 0) (i := 0) ⟨by decide, by decide, by show (0 : Int) < 1; decide, fun h => absurd h (by decide)⟩) rfl
theorem r_0_5 {A : AA} {P : Hp} {S : SS} {K : KK} {z : Nat × Nat} {R : Type} (hA : GA A) {Kc : Option Nat → OO R} : gR (some (A 0 0)) 11 5 Kc (Hc A P S K, z) = Kc (some (A 17 0)) (Hc A P S K, z) := x_gR (hc_at hA (k := 0) (i := 0) ⟨by decide, by decide, by show (0 : Int) < 1; decide, fun h => absurd h (by decide)⟩) rfl
theorem r_0_6 {A : AA} {P : Hp} {S : SS} {K : KK} {z : Nat × Nat} {R : Type} (hA : GA A) {Kc : Option Nat → OO R} : gR (some (A 0 0)) 11 6 Kc (Hc A P S K, z) = Kc (some (A 18 0)) (Hc A P S K, z) := x_gR (hc_at hA (k := 0) (i := 0) ⟨by decide, by decide, by show (0 : Int) < 1; decide, fun h => absurd h (by decide)⟩) rfl
theorem r_0_7 {A : AA} {P : Hp} {S : SS} {K : KK} {z : Nat × Nat} {R : Type} (hA : GA A) {Kc : Option Nat → OO R} : gR (some (A 0 0)) 11 7 Kc (Hc A P S K, z) = Kc (some (A 19 0)) (Hc A P S K, z) := x_gR (hc_at hA (k := 0) (i := 0) ⟨by decide, by decide, by show (0 : Int) < 1; decide, fun h => absurd h (by decide)⟩) rfl
theorem r_0_8 {A : AA} {P : Hp} {S : SS} {K : KK} {z : Nat × Nat} {R : Type} (hA : GA A) {Kc : Int32 → OO R} : gI (some (A 0 0)) 11 8 Kc (Hc A P S K, z) = Kc (iI (S 20 5)) (Hc A P S K, z) := x_gI (hc_at hA (k := 0) (i := 0) ⟨by decide, by decide, by show (0 : Int) < 1; decide, fun h => absurd h (by decide)⟩) rfl
theorem r_0_9 {A : AA} {P : Hp} {S : SS} {K : KK} {z : Nat × Nat} {R : Type} (hA : GA A) {Kc : Int32 → OO R} : gI (some (A 0 0)) 11 9 Kc (Hc A P S K, z) = Kc (iI (S 20 7)) (Hc A P S K, z) := x_gI (hc_at hA (k := 0) (i := 0) ⟨by decide, by decide, by show (0 : Int) < 1; decide, fun h => absurd h (by decide)⟩) rfl
theorem r_v1 {A : AA} {P : Hp} {S : SS} {K : KK} {z : Nat × Nat} {R : Type} (hA : GA A) {i : Int} (h0 : 0 ≤ i) (h1 : i < S 20 1) {Kc : Nat → OO R} : rcv (some (A 1 i)) 8 Kc (Hc A P S K, z) = Kc (A 1 i) (Hc A P S K, z) := x_rcv (hc_at hA (k := 1) (i := i) ⟨by decide, h0, h1, fun h => absurd h (by decide)⟩)
theorem r_c1 {A : AA} {P : Hp} {S : SS} {K : KK} {z : Nat × Nat} {R : Type} (hA : GA A) {i : Int} (h0 : 0 ≤ i) (h1 : i < S 20 1) {Kc : OO R} : cst (some (A 1 i)) 8 Kc (Hc A P S K, z) = Kc (Hc A P S K, z) := x_cst (hc_at hA (k := 1) (i := i) ⟨by decide, h0, h1, fun h => absurd h (by decide)⟩)
theorem r_1_0 {A : AA} {P : Hp} {S : SS} {K : KK} {z : Nat × Nat} {R : Type} (hA : GA A) {i : Int} (h0 : 0 ≤ i) (h1 : i < S 20 1) {Kc : Int32 → OO R} : gI (some (A 1 i)) 8 0 Kc (Hc A P S K, z) = Kc (iI i) (Hc A P S K, z) := x_gI (hc_at hA (k := 1) (i := i) ⟨by decide, h0, h1, fun h => absurd h (by decide)⟩) rfl
theorem r_1_1 {A : AA} {P : Hp} {S : SS} {K : KK} {z : Nat × Nat} {R : Type} (hA : GA A) {i : Int} (h0 : 0 ≤ i) (h1 : i < S 20 1) {Kc : Int32 → OO R} : gI (some (A 1 i)) 8 1 Kc (Hc A P S K, z) = Kc (iI (S 0 i)) (Hc A P S K, z) := x_gI (hc_at hA (k := 1) (i := i) ⟨by decide, h0, h1, fun h => absurd h (by decide)⟩) rfl
theorem r_1_2 {A : AA} {P : Hp} {S : SS} {K : KK} {z : Nat × Nat} {R : Type} (hA : GA A) {i : Int} (h0 : 0 ≤ i) (h1 : i < S 20 1) {Kc : Int32 → OO R} : gI (some (A 1 i)) 8 2 Kc (Hc A P S K, z) = Kc (iI (S 1 i)) (Hc A P S K, z) := x_gI (hc_at hA (k := 1) (i := i) ⟨by decide, h0, h1, fun h => absurd h (by decide)⟩) rfl
theorem r_1_3 {A : AA} {P : Hp} {S : SS} {K : KK} {z : Nat × Nat} {R : Type} (hA : GA A) {i : Int} (h0 : 0 ≤ i) (h1 : i < S 20 1) {Kc : Int32 → OO R} : gI (some (A 1 i)) 8 3 Kc (Hc A P S K, z) = Kc (iI (S 2 i)) (Hc A P S K, z) := x_gI (hc_at hA (k := 1) (i := i) ⟨by decide, h0, h1, fun h => absurd h (by decide)⟩) rfl
theorem r_1_4 {A : AA} {P : Hp} {S : SS} {K : KK} {z : Nat × Nat} {R : Type} (hA : GA A) {i : Int} (h0 : 0 ≤ i) (h1 : i < S 20 1) {Kc : Int32 → OO R} : gI (some (A 1 i)) 8 4 Kc (Hc A P S K, z) = Kc (iI (1 - S 7 i)) (Hc A P S K, z) := x_gI (hc_at hA (k := 1) (i := i) ⟨by decide, h0, h1, fun h => absurd h (by decide)⟩) rfl
theorem r_v2 {A : AA} {P : Hp} {S : SS} {K : KK} {z : Nat × Nat} {R : Type} (hA : GA A) {i : Int} (h0 : 0 ≤ i) (h1 : i < S 20 2) {Kc : Nat → OO R} : rcv (some (A 2 i)) 10 Kc (Hc A P S K, z) = Kc (A 2 i) (Hc A P S K, z) := x_rcv (hc_at hA (k := 2) (i := i) ⟨by decide, h0, h1, fun h => absurd h (by decide)⟩)
theorem r_c2 {A : AA} {P : Hp} {S : SS} {K : KK} {z : Nat × Nat} {R : Type} (hA : GA A) {i : Int} (h0 : 0 ≤ i) (h1 : i < S 20 2) {Kc : OO R} : cst (some (A 2 i)) 10 Kc (Hc A P S K, z) = Kc (Hc A P S K, z) := x_cst (hc_at hA (k := 2) (i := i) ⟨by decide, h0, h1, fun h => absurd h (by decide)⟩)
theorem r_2_0 {A : AA} {P : Hp} {S : SS} {K : KK} {z : Nat × Nat} {R : Type} (hA : GA A) {i : Int} (h0 : 0 ≤ i) (h1 : i < S 20 2) {Kc : Option Nat → OO R} : gR (some (A 2 i)) 10 0 Kc (Hc A P S K, z) = Kc (some (A 3 i)) (Hc A P S K, z) := x_gR (hc_at hA (k := 2) (i := i) ⟨by decide, h0, h1, fun h => absurd h (by decide)⟩) rfl
theorem r_2_1 {A : AA} {P : Hp} {S : SS} {K : KK} {z : Nat × Nat} {R : Type} (hA : GA A) {i : Int} (h0 : 0 ≤ i) (h1 : i < S 20 2) {Kc : Int32 → OO R} : gI (some (A 2 i)) 10 1 Kc (Hc A P S K, z) = Kc (offM (S 3 i)) (Hc A P S K, z) := x_gI (hc_at hA (k := 2) (i := i) ⟨by decide, h0, h1, fun h => absurd h (by decide)⟩) rfl
theorem r_2_2 {A : AA} {P : Hp} {S : SS} {K : KK} {z : Nat × Nat} {R : Type} (hA : GA A) {i : Int} (h0 : 0 ≤ i) (h1 : i < S 20 2) {Kc : Int32 → OO R} : gI (some (A 2 i)) 10 2 Kc (Hc A P S K, z) = Kc (iI (S 4 i)) (Hc A P S K, z) := x_gI (hc_at hA (k := 2) (i := i) ⟨by decide, h0, h1, fun h => absurd h (by decide)⟩) rfl
theorem r_v4 {A : AA} {P : Hp} {S : SS} {K : KK} {z : Nat × Nat} {R : Type} (hA : GA A) {i : Int} (h0 : 0 ≤ i) (h1 : i < S 20 3) {Kc : Nat → OO R} : rcv (some (A 4 i)) 5 Kc (Hc A P S K, z) = Kc (A 4 i) (Hc A P S K, z) := x_rcv (hc_at hA (k := 4) (i := i) ⟨by decide, h0, h1, fun h => absurd h (by decide)⟩)
theorem r_c4 {A : AA} {P : Hp} {S : SS} {K : KK} {z : Nat × Nat} {R : Type} (hA : GA A) {i : Int} (h0 : 0 ≤ i) (h1 : i < S 20 3) {Kc : OO R} : cst (some (A 4 i)) 5 Kc (Hc A P S K, z) = Kc (Hc A P S K, z) := x_cst (hc_at hA (k := 4) (i := i) ⟨by decide, h0, h1, fun h => absurd h (by decide)⟩)
theorem r_4_0 {A : AA} {P : Hp} {S : SS} {K : KK} {z : Nat × Nat} {R : Type} (hA : GA A) {i : Int} (h0 : 0 ≤ i) (h1 : i < S 20 3) {Kc : Int32 → OO R} : gI (some (A 4 i)) 5 0 Kc (Hc A P S K, z) = Kc (iI (S 5 i)) (Hc A P S K, z) := x_gI (hc_at hA (k := 4) (i := i) ⟨by decide, h0, h1, fun h => absurd h (by decide)⟩) rfl
theorem r_v5 {A : AA} {P : Hp} {S : SS} {K : KK} {z : Nat × Nat} {R : Type} (hA : GA A) {i : Int} (h0 : 0 ≤ i) (h1 : i < S 20 4) {Kc : Nat → OO R} : rcv (some (A 5 i)) 7 Kc (Hc A P S K, z) = Kc (A 5 i) (Hc A P S K, z) := x_rcv (hc_at hA (k := 5) (i := i) ⟨by decide, h0, h1, fun h => absurd h (by decide)⟩)
theorem r_c5 {A : AA} {P : Hp} {S : SS} {K : KK} {z : Nat × Nat} {R : Type} (hA : GA A) {i : Int} (h0 : 0 ≤ i) (h1 : i < S 20 4) {Kc : OO R} : cst (some (A 5 i)) 7 Kc (Hc A P S K, z) = Kc (Hc A P S K, z) := x_cst (hc_at hA (k := 5) (i := i) ⟨by decide, h0, h1, fun h => absurd h (by decide)⟩)
theorem r_5_0 {A : AA} {P : Hp} {S : SS} {K : KK} {z : Nat × Nat} {R : Type} (hA : GA A) {i : Int} (h0 : 0 ≤ i) (h1 : i < S 20 4) {Kc : Int32 → OO R} : gI (some (A 5 i)) 7 0 Kc (Hc A P S K, z) = Kc (iI i) (Hc A P S K, z) := x_gI (hc_at hA (k := 5) (i := i) ⟨by decide, h0, h1, fun h => absurd h (by decide)⟩) rfl
theorem r_5_1 {A : AA} {P : Hp} {S : SS} {K : KK} {z : Nat × Nat} {R : Type} (hA : GA A) {i : Int} (h0 : 0 ≤ i) (h1 : i < S 20 4) {Kc : Option Nat → OO R} : gR (some (A 5 i)) 7 1 Kc (Hc A P S K, z) = Kc (some (A 4 (S 9 i))) (Hc A P S K, z) := x_gR (hc_at hA (k := 5) (i := i) ⟨by decide, h0, h1, fun h => absurd h (by decide)⟩) rfl
theorem r_5_2 {A : AA} {P : Hp} {S : SS} {K : KK} {z : Nat × Nat} {R : Type} (hA : GA A) {i : Int} (h0 : 0 ≤ i) (h1 : i < S 20 4) {Kc : Option Nat → OO R} : gR (some (A 5 i)) 7 2 Kc (Hc A P S K, z) = Kc (some (A 2 (S 10 i))) (Hc A P S K, z) := x_gR (hc_at hA (k := 5) (i := i) ⟨by decide, h0, h1, fun h => absurd h (by decide)⟩) rfl
theorem r_5_3 {A : AA} {P : Hp} {S : SS} {K : KK} {z : Nat × Nat} {R : Type} (hA : GA A) {i : Int} (h0 : 0 ≤ i) (h1 : i < S 20 4) {Kc : Int32 → OO R} : gI (some (A 5 i)) 7 3 Kc (Hc A P S K, z) = Kc (iI (S 11 i)) (Hc A P S K, z) := x_gI (hc_at hA (k := 5) (i := i) ⟨by decide, h0, h1, fun h => absurd h (by decide)⟩) rfl
theorem r_5_4 {A : AA} {P : Hp} {S : SS} {K : KK} {z : Nat × Nat} {R : Type} (hA : GA A) {i : Int} (h0 : 0 ≤ i) (h1 : i < S 20 4) {Kc : Int32 → OO R} : gI (some (A 5 i)) 7 4 Kc (Hc A P S K, z) = Kc (iI (S 12 i)) (Hc A P S K, z) := x_gI (hc_at hA (k := 5) (i := i) ⟨by decide, h0, h1, fun h => absurd h (by decide)⟩) rfl
theorem r_5_5 {A : AA} {P : Hp} {S : SS} {K : KK} {z : Nat × Nat} {R : Type} (hA : GA A) {i : Int} (h0 : 0 ≤ i) (h1 : i < S 20 4) {Kc : Int32 → OO R} : gI (some (A 5 i)) 7 5 Kc (Hc A P S K, z) = Kc (iI (S 13 i)) (Hc A P S K, z) := x_gI (hc_at hA (k := 5) (i := i) ⟨by decide, h0, h1, fun h => absurd h (by decide)⟩) rfl
theorem r_5_6p {A : AA} {P : Hp} {S : SS} {K : KK} {z : Nat × Nat} {R : Type} (hA : GA A) {i : Int} (h0 : 0 ≤ i) (h1 : i < S 20 4) (hq : 0 ≤ S 14 i) {Kc : Option Nat → OO R} : gR (some (A 5 i)) 7 6 Kc (Hc A P S K, z) = Kc (some (A 1 (S 14 i % 8))) (Hc A P S K, z) := x_gR (hc_at hA (k := 5) (i := i) ⟨by decide, h0, h1, fun h => absurd h (by decide)⟩) (by show some (va_rf _) = _; rw [if_neg (show ¬ S 14 i < 0 by omega)]; rfl)
theorem r_5_6n {A : AA} {P : Hp} {S : SS} {K : KK} {z : Nat × Nat} {R : Type} (hA : GA A) {i : Int} (h0 : 0 ≤ i) (h1 : i < S 20 4) (hq : S 14 i < 0) {Kc : Option Nat → OO R} : gR (some (A 5 i)) 7 6 Kc (Hc A P S K, z) = Kc none (Hc A P S K, z) := x_gN (hc_at hA (k := 5) (i := i) ⟨by decide, h0, h1, fun h => absurd h (by decide)⟩) (by show some (va_rf _) = _; rw [if_pos hq]; rfl)
theorem r_5_7p {A : AA} {P : Hp} {S : SS} {K : KK} {z : Nat × Nat} {R : Type} (hA : GA A) {i : Int} (h0 : 0 ≤ i) (h1 : i < S 20 4) (hq : 0 ≤ S 14 i) {Kc : Int32 → OO R} : gI (some (A 5 i)) 7 7 Kc (Hc A P S K, z) = Kc (iI (S 14 i / 8)) (Hc A P S K, z) := x_gI (hc_at hA (k := 5) (i := i) ⟨by decide, h0, h1, fun h => absurd h (by decide)⟩) (by show some (Value.int (iI _)) = _; rw [if_neg (show ¬ S 14 i < 0 by omega)])
theorem r_5_7n {A : AA} {P : Hp} {S : SS} {K : KK} {z : Nat × Nat} {R : Type} (hA : GA A) {i : Int} (h0 : 0 ≤ i) (h1 : i < S 20 4) (hq : S 14 i < 0) {Kc : Int32 → OO R} : gI (some (A 5 i)) 7 7 Kc (Hc A P S K, z) = Kc (iI (-1)) (Hc A P S K, z) := x_gI (hc_at hA (k := 5) (i := i) ⟨by decide, h0, h1, fun h => absurd h (by decide)⟩) (by show some (Value.int (iI _)) = _; rw [if_pos hq])
theorem r_5_8 {A : AA} {P : Hp} {S : SS} {K : KK} {z : Nat × Nat} {R : Type} (hA : GA A) {i : Int} (h0 : 0 ≤ i) (h1 : i < S 20 4) {Kc : Int32 → OO R} : gI (some (A 5 i)) 7 8 Kc (Hc A P S K, z) = Kc (iI (S 8 i)) (Hc A P S K, z) := x_gI (hc_at hA (k := 5) (i := i) ⟨by decide, h0, h1, fun h => absurd h (by decide)⟩) rfl
theorem r_5_9 {A : AA} {P : Hp} {S : SS} {K : KK} {z : Nat × Nat} {R : Type} (hA : GA A) {i : Int} (h0 : 0 ≤ i) (h1 : i < S 20 4) {Kc : Int32 → OO R} : gI (some (A 5 i)) 7 9 Kc (Hc A P S K, z) = Kc (tlM (S 12 i)) (Hc A P S K, z) := x_gI (hc_at hA (k := 5) (i := i) ⟨by decide, h0, h1, fun h => absurd h (by decide)⟩) rfl
theorem r_5_10 {A : AA} {P : Hp} {S : SS} {K : KK} {z : Nat × Nat} {R : Type} (hA : GA A) {i : Int} (h0 : 0 ≤ i) (h1 : i < S 20 4) {Kc : Option Nat → OO R} : gR (some (A 5 i)) 7 10 Kc (Hc A P S K, z) = Kc (some (A 6 i)) (Hc A P S K, z) := x_gR (hc_at hA (k := 5) (i := i) ⟨by decide, h0, h1, fun h => absurd h (by decide)⟩) rfl
theorem r_5_11 {A : AA} {P : Hp} {S : SS} {K : KK} {z : Nat × Nat} {R : Type} (hA : GA A) {i : Int} (h0 : 0 ≤ i) (h1 : i < S 20 4) {Kc : Int32 → OO R} : gI (some (A 5 i)) 7 11 Kc (Hc A P S K, z) = Kc (K 5 i 11) (Hc A P S K, z) := x_gI (hc_at hA (k := 5) (i := i) ⟨by decide, h0, h1, fun h => absurd h (by decide)⟩) rfl
theorem r_5_12 {A : AA} {P : Hp} {S : SS} {K : KK} {z : Nat × Nat} {R : Type} (hA : GA A) {i : Int} (h0 : 0 ≤ i) (h1 : i < S 20 4) {Kc : Int32 → OO R} : gI (some (A 5 i)) 7 12 Kc (Hc A P S K, z) = Kc (K 5 i 12) (Hc A P S K, z) := x_gI (hc_at hA (k := 5) (i := i) ⟨by decide, h0, h1, fun h => absurd h (by decide)⟩) rfl
theorem r_5_13 {A : AA} {P : Hp} {S : SS} {K : KK} {z : Nat × Nat} {R : Type} (hA : GA A) {i : Int} (h0 : 0 ≤ i) (h1 : i < S 20 4) {Kc : Int32 → OO R} : gI (some (A 5 i)) 7 13 Kc (Hc A P S K, z) = Kc (K 5 i 13) (Hc A P S K, z) := x_gI (hc_at hA (k := 5) (i := i) ⟨by decide, h0, h1, fun h => absurd h (by decide)⟩) rfl
theorem r_5_14 {A : AA} {P : Hp} {S : SS} {K : KK} {z : Nat × Nat} {R : Type} (hA : GA A) {i : Int} (h0 : 0 ≤ i) (h1 : i < S 20 4) {Kc : Option Nat → OO R} : gR (some (A 5 i)) 7 14 Kc (Hc A P S K, z) = Kc (some (A 7 i)) (Hc A P S K, z) := x_gR (hc_at hA (k := 5) (i := i) ⟨by decide, h0, h1, fun h => absurd h (by decide)⟩) rfl
theorem r_5_15 {A : AA} {P : Hp} {S : SS} {K : KK} {z : Nat × Nat} {R : Type} (hA : GA A) {i : Int} (h0 : 0 ≤ i) (h1 : i < S 20 4) {Kc : Option Nat → OO R} : gR (some (A 5 i)) 7 15 Kc (Hc A P S K, z) = Kc (some (A 8 i)) (Hc A P S K, z) := x_gR (hc_at hA (k := 5) (i := i) ⟨by decide, h0, h1, fun h => absurd h (by decide)⟩) rfl
theorem r_5_16 {A : AA} {P : Hp} {S : SS} {K : KK} {z : Nat × Nat} {R : Type} (hA : GA A) {i : Int} (h0 : 0 ≤ i) (h1 : i < S 20 4) {Kc : Int32 → OO R} : gI (some (A 5 i)) 7 16 Kc (Hc A P S K, z) = Kc (K 5 i 16) (Hc A P S K, z) := x_gI (hc_at hA (k := 5) (i := i) ⟨by decide, h0, h1, fun h => absurd h (by decide)⟩) rfl
theorem r_5_17 {A : AA} {P : Hp} {S : SS} {K : KK} {z : Nat × Nat} {R : Type} (hA : GA A) {i : Int} (h0 : 0 ≤ i) (h1 : i < S 20 4) {Kc : Option Nat → OO R} : gR (some (A 5 i)) 7 17 Kc (Hc A P S K, z) = Kc (some (A 9 i)) (Hc A P S K, z) := x_gR (hc_at hA (k := 5) (i := i) ⟨by decide, h0, h1, fun h => absurd h (by decide)⟩) rfl
theorem r_v11 {A : AA} {P : Hp} {S : SS} {K : KK} {z : Nat × Nat} {R : Type} (hA : GA A) {i : Int} (h0 : 0 ≤ i) (h1 : i < 4) {Kc : Nat → OO R} : rcv (some (A 11 i)) 2 Kc (Hc A P S K, z) = Kc (A 11 i) (Hc A P S K, z) := x_rcv (hc_at hA (k := 11) (i := i) ⟨by decide, h0, h1, fun h => absurd h (by decide)⟩)
theorem r_c11 {A : AA} {P : Hp} {S : SS} {K : KK} {z : Nat × Nat} {R : Type} (hA : GA A) {i : Int} (h0 : 0 ≤ i) (h1 : i < 4) {Kc : OO R} : cst (some (A 11 i)) 2 Kc (Hc A P S K, z) = Kc (Hc A P S K, z) := x_cst (hc_at hA (k := 11) (i := i) ⟨by decide, h0, h1, fun h => absurd h (by decide)⟩)
theorem r_11_0 {A : AA} {P : Hp} {S : SS} {K : KK} {z : Nat × Nat} {R : Type} (hA : GA A) {i : Int} (h0 : 0 ≤ i) (h1 : i < 4) {Kc : Int32 → OO R} : gI (some (A 11 i)) 2 0 Kc (Hc A P S K, z) = Kc (iI (lcnt S i)) (Hc A P S K, z) := x_gI (hc_at hA (k := 11) (i := i) ⟨by decide, h0, h1, fun h => absurd h (by decide)⟩) rfl
theorem r_11_1p {A : AA} {P : Hp} {S : SS} {K : KK} {z : Nat × Nat} {R : Type} (hA : GA A) {i : Int} (h0 : 0 ≤ i) (h1 : i < 4) (hq : 0 < lcnt S i) {Kc : Option Nat → OO R} : gR (some (A 11 i)) 2 1 Kc (Hc A P S K, z) = Kc (some (A 12 i)) (Hc A P S K, z) := x_gR (hc_at hA (k := 11) (i := i) ⟨by decide, h0, h1, fun h => absurd h (by decide)⟩) (by show some (Value.ref _) = _; rw [if_neg (show ¬ lcnt S i = 0 by omega)])
theorem r_11_2 {A : AA} {P : Hp} {S : SS} {K : KK} {z : Nat × Nat} {R : Type} (hA : GA A) {i : Int} (h0 : 0 ≤ i) (h1 : i < 4) {Kc : Int32 → OO R} : gI (some (A 11 i)) 2 2 Kc (Hc A P S K, z) = Kc (iI (lcnt S i)) (Hc A P S K, z) := x_gI (hc_at hA (k := 11) (i := i) ⟨by decide, h0, h1, fun h => absurd h (by decide)⟩) rfl
theorem r_v13 {A : AA} {P : Hp} {S : SS} {K : KK} {z : Nat × Nat} {R : Type} (hA : GA A) {Kc : Nat → OO R} : rcv (some (A 13 0)) 9 Kc (Hc A P S K, z) = Kc (A 13 0) (Hc A P S K, z) := x_rcv (hc_at hA (k := 13) (i := 0) ⟨by decide, by decide, by show (0 : Int) < 1; decide, fun h => absurd h (by decide)⟩)
theorem r_c13 {A : AA} {P : Hp} {S : SS} {K : KK} {z : Nat × Nat} {R : Type} (hA : GA A) {Kc : OO R} : cst (some (A 13 0)) 9 Kc (Hc A P S K, z) = Kc (Hc A P S K, z) := x_cst (hc_at hA (k := 13) (i := 0) ⟨by decide, by decide, by show (0 : Int) < 1; decide, fun h => absurd h (by decide)⟩)
theorem r_13_0 {A : AA} {P : Hp} {S : SS} {K : KK} {z : Nat × Nat} {R : Type} (hA : GA A) {Kc : Option Nat → OO R} : gR (some (A 13 0)) 9 0 Kc (Hc A P S K, z) = Kc (some (A 11 1)) (Hc A P S K, z) := x_gR (hc_at hA (k := 13) (i := 0) ⟨by decide, by decide, by show (0 : Int) < 1; decide, fun h => absurd h (by decide)⟩) rfl
theorem r_13_1 {A : AA} {P : Hp} {S : SS} {K : KK} {z : Nat × Nat} {R : Type} (hA : GA A) {Kc : Option Nat → OO R} : gR (some (A 13 0)) 9 1 Kc (Hc A P S K, z) = Kc (some (A 11 2)) (Hc A P S K, z) := x_gR (hc_at hA (k := 13) (i := 0) ⟨by decide, by decide, by show (0 : Int) < 1; decide, fun h => absurd h (by decide)⟩) rfl
theorem r_13_2 {A : AA} {P : Hp} {S : SS} {K : KK} {z : Nat × Nat} {R : Type} (hA : GA A) {Kc : Option Nat → OO R} : gR (some (A 13 0)) 9 2 Kc (Hc A P S K, z) = Kc (some (A 11 3)) (Hc A P S K, z) := x_gR (hc_at hA (k := 13) (i := 0) ⟨by decide, by decide, by show (0 : Int) < 1; decide, fun h => absurd h (by decide)⟩) rfl
theorem r_13_3 {A : AA} {P : Hp} {S : SS} {K : KK} {z : Nat × Nat} {R : Type} (hA : GA A) {Kc : Option Nat → OO R} : gR (some (A 13 0)) 9 3 Kc (Hc A P S K, z) = Kc (some (A 20 0)) (Hc A P S K, z) := x_gR (hc_at hA (k := 13) (i := 0) ⟨by decide, by decide, by show (0 : Int) < 1; decide, fun h => absurd h (by decide)⟩) rfl
theorem r_13_4 {A : AA} {P : Hp} {S : SS} {K : KK} {z : Nat × Nat} {R : Type} (hA : GA A) {Kc : Option Nat → OO R} : gR (some (A 13 0)) 9 4 Kc (Hc A P S K, z) = Kc (some (A 21 0)) (Hc A P S K, z) := x_gR (hc_at hA (k := 13) (i := 0) ⟨by decide, by decide, by show (0 : Int) < 1; decide, fun h => absurd h (by decide)⟩) rfl
theorem r_13_5 {A : AA} {P : Hp} {S : SS} {K : KK} {z : Nat × Nat} {R : Type} (hA : GA A) {Kc : Int32 → OO R} : gI (some (A 13 0)) 9 5 Kc (Hc A P S K, z) = Kc (iI (S 20 6)) (Hc A P S K, z) := x_gI (hc_at hA (k := 13) (i := 0) ⟨by decide, by decide, by show (0 : Int) < 1; decide, fun h => absurd h (by decide)⟩) rfl
theorem r_v14 {A : AA} {P : Hp} {S : SS} {K : KK} {z : Nat × Nat} {R : Type} (hA : GA A) {Kc : Nat → OO R} : rcv (some (A 14 0)) 4 Kc (Hc A P S K, z) = Kc (A 14 0) (Hc A P S K, z) := x_rcv (hc_at hA (k := 14) (i := 0) ⟨by decide, by decide, by show (0 : Int) < 1; decide, fun h => absurd h (by decide)⟩)
theorem r_c14 {A : AA} {P : Hp} {S : SS} {K : KK} {z : Nat × Nat} {R : Type} (hA : GA A) {Kc : OO R} : cst (some (A 14 0)) 4 Kc (Hc A P S K, z) = Kc (Hc A P S K, z) := x_cst (hc_at hA (k := 14) (i := 0) ⟨by decide, by decide, by show (0 : Int) < 1; decide, fun h => absurd h (by decide)⟩)
theorem r_14_0 {A : AA} {P : Hp} {S : SS} {K : KK} {z : Nat × Nat} {R : Type} (hA : GA A) {Kc : Option Nat → OO R} : gR (some (A 14 0)) 4 0 Kc (Hc A P S K, z) = Kc (some (A 22 0)) (Hc A P S K, z) := x_gR (hc_at hA (k := 14) (i := 0) ⟨by decide, by decide, by show (0 : Int) < 1; decide, fun h => absurd h (by decide)⟩) rfl
theorem r_v15 {A : AA} {P : Hp} {S : SS} {K : KK} {z : Nat × Nat} {R : Type} (hA : GA A) {Kc : Nat → OO R} : rcv (some (A 15 0)) 6 Kc (Hc A P S K, z) = Kc (A 15 0) (Hc A P S K, z) := x_rcv (hc_at hA (k := 15) (i := 0) ⟨by decide, by decide, by show (0 : Int) < 1; decide, fun h => absurd h (by decide)⟩)
theorem r_c15 {A : AA} {P : Hp} {S : SS} {K : KK} {z : Nat × Nat} {R : Type} (hA : GA A) {Kc : OO R} : cst (some (A 15 0)) 6 Kc (Hc A P S K, z) = Kc (Hc A P S K, z) := x_cst (hc_at hA (k := 15) (i := 0) ⟨by decide, by decide, by show (0 : Int) < 1; decide, fun h => absurd h (by decide)⟩)
theorem r_15_0 {A : AA} {P : Hp} {S : SS} {K : KK} {z : Nat × Nat} {R : Type} (hA : GA A) {Kc : Option Nat → OO R} : gR (some (A 15 0)) 6 0 Kc (Hc A P S K, z) = Kc (some (A 23 0)) (Hc A P S K, z) := x_gR (hc_at hA (k := 15) (i := 0) ⟨by decide, by decide, by show (0 : Int) < 1; decide, fun h => absurd h (by decide)⟩) rfl
theorem r_15_1 {A : AA} {P : Hp} {S : SS} {K : KK} {z : Nat × Nat} {R : Type} (hA : GA A) {Kc : Option Nat → OO R} : gR (some (A 15 0)) 6 1 Kc (Hc A P S K, z) = Kc (some (A 24 0)) (Hc A P S K, z) := x_gR (hc_at hA (k := 15) (i := 0) ⟨by decide, by decide, by show (0 : Int) < 1; decide, fun h => absurd h (by decide)⟩) rfl
theorem r_v16 {A : AA} {P : Hp} {S : SS} {K : KK} {z : Nat × Nat} {R : Type} (hA : GA A) {Kc : Nat → OO R} : rcv (some (A 16 0)) 3 Kc (Hc A P S K, z) = Kc (A 16 0) (Hc A P S K, z) := x_rcv (hc_at hA (k := 16) (i := 0) ⟨by decide, by decide, by show (0 : Int) < 1; decide, fun h => absurd h (by decide)⟩)
theorem r_c16 {A : AA} {P : Hp} {S : SS} {K : KK} {z : Nat × Nat} {R : Type} (hA : GA A) {Kc : OO R} : cst (some (A 16 0)) 3 Kc (Hc A P S K, z) = Kc (Hc A P S K, z) := x_cst (hc_at hA (k := 16) (i := 0) ⟨by decide, by decide, by show (0 : Int) < 1; decide, fun h => absurd h (by decide)⟩)
theorem r_16_0 {A : AA} {P : Hp} {S : SS} {K : KK} {z : Nat × Nat} {R : Type} (hA : GA A) {Kc : Option Nat → OO R} : gR (some (A 16 0)) 3 0 Kc (Hc A P S K, z) = Kc (some (A 25 0)) (Hc A P S K, z) := x_gR (hc_at hA (k := 16) (i := 0) ⟨by decide, by decide, by show (0 : Int) < 1; decide, fun h => absurd h (by decide)⟩) rfl
theorem toNat_i {j : Int} (h0 : 0 ≤ j) (h1 : j < 2147483648) : (((iI j).toNatClampNeg : Nat) : Int) = j := by
  rw [iI_clamp h0 h1]; omega
theorem ofNat_i (n : Nat) : Int32.ofNat n = iI (n : Int) := (Int32.ofInt_eq_ofNat).symm
theorem r_l3 {A : AA} {P : Hp} {S : SS} {K : KK} {z : Nat × Nat} {R : Type} (hA : GA A) {i : Int} (h0 : 0 ≤ i) (h1 : i < S 20 2) {j : Int} (j0 : 0 ≤ j) (j1 : j < 30) {Kc : Int32 → OO R} : ldI 0 (some (A 3 i)) (iI j) Kc (Hc A P S K, z) = Kc (iI (S 6 (30 * i + j))) (Hc A P S K, z) := by
  rw [x_ld (hc_at hA (k := 3) (i := i) ⟨by decide, h0, h1, fun h => absurd h (by decide)⟩) (iI_in j0 j1 (by omega))]
  show Kc (if (((iI j).toNatClampNeg : Nat) : Int) < 30 then iI (S 6 (30 * i + (((iI j).toNatClampNeg : Nat) : Int))) else iI 0) _ = _
  rw [toNat_i j0 (by omega), if_pos j1]
theorem r_n3 {A : AA} {P : Hp} {S : SS} {K : KK} {z : Nat × Nat} {R : Type} (hA : GA A) {i : Int} (h0 : 0 ≤ i) (h1 : i < S 20 2) {Kc : Int32 → OO R} : alen (some (A 3 i)) Kc (Hc A P S K, z) = Kc (iI 30) (Hc A P S K, z) := (x_alen (hc_at hA (k := 3) (i := i) ⟨by decide, h0, h1, fun h => absurd h (by decide)⟩) (by decide)).trans (by rw [ofNat_i]; rfl)
theorem r_a3 {A : AA} {P : Hp} {S : SS} {K : KK} {z : Nat × Nat} (hA : GA A) {i : Int} (h0 : 0 ≤ i) (h1 : i < S 20 2) {j : Int} (j0 : 0 ≤ j) (j1 : j < 30) : f_X8_at (some (A 3 i)) (iI j) (Hc A P S K, z) = some (.ok (iI (S 6 (30 * i + j))), (Hc A P S K, z)) := by
  unfold f_X8_at
  have e1 : ¬ (iI j < 0) := by rw [li_0, iI_lt (by omega) (by omega) (by omega) (by omega)]; omega
  have e2 : ¬ (iI 30 ≤ iI j) := by rw [iI_le (by omega) (by omega) (by omega) (by omega)]; omega
  rw [if_neg e1, r_n3 hA h0 h1, e_ite, if_neg e2, r_l3 hA h0 h1 j0 j1]
  rfl
theorem r_l10 {A : AA} {P : Hp} {S : SS} {K : KK} {z : Nat × Nat} {R : Type} (hA : GA A) {i : Int} (h0 : 0 ≤ i) (h1 : i < 6) {j : Int} (j0 : 0 ≤ j) (j1 : j < 16) {Kc : Int32 → OO R} : ldI 0 (some (A 10 i)) (iI j) Kc (Hc A P S K, z) = Kc (iI (S 16 (16 * i + j))) (Hc A P S K, z) := by
  rw [x_ld (hc_at hA (k := 10) (i := i) ⟨by decide, h0, h1, fun h => absurd h (by decide)⟩) (iI_in j0 j1 (by omega))]
  show Kc (if (((iI j).toNatClampNeg : Nat) : Int) < 16 then iI (S 16 (16 * i + (((iI j).toNatClampNeg : Nat) : Int))) else iI 0) _ = _
  rw [toNat_i j0 (by omega), if_pos j1]
theorem r_n10 {A : AA} {P : Hp} {S : SS} {K : KK} {z : Nat × Nat} {R : Type} (hA : GA A) {i : Int} (h0 : 0 ≤ i) (h1 : i < 6) {Kc : Int32 → OO R} : alen (some (A 10 i)) Kc (Hc A P S K, z) = Kc (iI 16) (Hc A P S K, z) := (x_alen (hc_at hA (k := 10) (i := i) ⟨by decide, h0, h1, fun h => absurd h (by decide)⟩) (by decide)).trans (by rw [ofNat_i]; rfl)
theorem r_a10 {A : AA} {P : Hp} {S : SS} {K : KK} {z : Nat × Nat} (hA : GA A) {i : Int} (h0 : 0 ≤ i) (h1 : i < 6) {j : Int} (j0 : 0 ≤ j) (j1 : j < 16) : f_X8_at (some (A 10 i)) (iI j) (Hc A P S K, z) = some (.ok (iI (S 16 (16 * i + j))), (Hc A P S K, z)) := by
  unfold f_X8_at
  have e1 : ¬ (iI j < 0) := by rw [li_0, iI_lt (by omega) (by omega) (by omega) (by omega)]; omega
  have e2 : ¬ (iI 16 ≤ iI j) := by rw [iI_le (by omega) (by omega) (by omega) (by omega)]; omega
  rw [if_neg e1, r_n10 hA h0 h1, e_ite, if_neg e2, r_l10 hA h0 h1 j0 j1]
  rfl
theorem r_l20 {A : AA} {P : Hp} {S : SS} {K : KK} {z : Nat × Nat} {R : Type} (hA : GA A) {j : Int} (j0 : 0 ≤ j) (j1 : j < 4) {Kc : Int32 → OO R} : ldI 0 (some (A 20 0)) (iI j) Kc (Hc A P S K, z) = Kc (iI (S 15 j)) (Hc A P S K, z) := by
  rw [x_ld (hc_at hA (k := 20) (i := 0) ⟨by decide, by decide, by show (0 : Int) < 1; decide, fun h => absurd h (by decide)⟩) (iI_in j0 j1 (by omega))]
  show Kc (iI (S 15 (((iI j).toNatClampNeg : Nat) : Int))) _ = _
  rw [toNat_i j0 (by omega)]
theorem r_n20 {A : AA} {P : Hp} {S : SS} {K : KK} {z : Nat × Nat} {R : Type} (hA : GA A) {Kc : Int32 → OO R} : alen (some (A 20 0)) Kc (Hc A P S K, z) = Kc (iI 4) (Hc A P S K, z) := (x_alen (hc_at hA (k := 20) (i := 0) ⟨by decide, by decide, by show (0 : Int) < 1; decide, fun h => absurd h (by decide)⟩) (by decide)).trans (by rw [ofNat_i]; rfl)
theorem r_a20 {A : AA} {P : Hp} {S : SS} {K : KK} {z : Nat × Nat} (hA : GA A) {j : Int} (j0 : 0 ≤ j) (j1 : j < 4) : f_X8_at (some (A 20 0)) (iI j) (Hc A P S K, z) = some (.ok (iI (S 15 j)), (Hc A P S K, z)) := by
  unfold f_X8_at
  have e1 : ¬ (iI j < 0) := by rw [li_0, iI_lt (by omega) (by omega) (by omega) (by omega)]; omega
  have e2 : ¬ (iI 4 ≤ iI j) := by rw [iI_le (by omega) (by omega) (by omega) (by omega)]; omega
  rw [if_neg e1, r_n20 hA, e_ite, if_neg e2, r_l20 hA j0 j1]
  rfl
theorem r_l6 {A : AA} {P : Hp} {S : SS} {K : KK} {z : Nat × Nat} {R : Type} (hA : GA A) {i : Int} (h0 : 0 ≤ i) (h1 : i < S 20 4) {j : Int} (j0 : 0 ≤ j) (j1 : j < 8) {Kc : Int32 → OO R} : ldI 0 (some (A 6 i)) (iI j) Kc (Hc A P S K, z) = Kc (K 6 i j) (Hc A P S K, z) := by
  rw [x_ld (hc_at hA (k := 6) (i := i) ⟨by decide, h0, h1, fun h => absurd h (by decide)⟩) (iI_in j0 j1 (by omega))]
  show Kc (K 6 i (((iI j).toNatClampNeg : Nat) : Int)) _ = _
  rw [toNat_i j0 (by omega)]
theorem r_n6 {A : AA} {P : Hp} {S : SS} {K : KK} {z : Nat × Nat} {R : Type} (hA : GA A) {i : Int} (h0 : 0 ≤ i) (h1 : i < S 20 4) {Kc : Int32 → OO R} : alen (some (A 6 i)) Kc (Hc A P S K, z) = Kc (iI 8) (Hc A P S K, z) := (x_alen (hc_at hA (k := 6) (i := i) ⟨by decide, h0, h1, fun h => absurd h (by decide)⟩) (by decide)).trans (by rw [ofNat_i]; rfl)
theorem r_a6 {A : AA} {P : Hp} {S : SS} {K : KK} {z : Nat × Nat} (hA : GA A) {i : Int} (h0 : 0 ≤ i) (h1 : i < S 20 4) {j : Int} (j0 : 0 ≤ j) (j1 : j < 8) : f_X8_at (some (A 6 i)) (iI j) (Hc A P S K, z) = some (.ok (K 6 i j), (Hc A P S K, z)) := by
  unfold f_X8_at
  have e1 : ¬ (iI j < 0) := by rw [li_0, iI_lt (by omega) (by omega) (by omega) (by omega)]; omega
  have e2 : ¬ (iI 8 ≤ iI j) := by rw [iI_le (by omega) (by omega) (by omega) (by omega)]; omega
  rw [if_neg e1, r_n6 hA h0 h1, e_ite, if_neg e2, r_l6 hA h0 h1 j0 j1]
  rfl
theorem r_l7 {A : AA} {P : Hp} {S : SS} {K : KK} {z : Nat × Nat} {R : Type} (hA : GA A) {i : Int} (h0 : 0 ≤ i) (h1 : i < S 20 4) {j : Int} (j0 : 0 ≤ j) (j1 : j < 8) {Kc : Int32 → OO R} : ldI 0 (some (A 7 i)) (iI j) Kc (Hc A P S K, z) = Kc (K 7 i j) (Hc A P S K, z) := by
  rw [x_ld (hc_at hA (k := 7) (i := i) ⟨by decide, h0, h1, fun h => absurd h (by decide)⟩) (iI_in j0 j1 (by omega))]
  show Kc (K 7 i (((iI j).toNatClampNeg : Nat) : Int)) _ = _
  rw [toNat_i j0 (by omega)]
theorem r_n7 {A : AA} {P : Hp} {S : SS} {K : KK} {z : Nat × Nat} {R : Type} (hA : GA A) {i : Int} (h0 : 0 ≤ i) (h1 : i < S 20 4) {Kc : Int32 → OO R} : alen (some (A 7 i)) Kc (Hc A P S K, z) = Kc (iI 8) (Hc A P S K, z) := (x_alen (hc_at hA (k := 7) (i := i) ⟨by decide, h0, h1, fun h => absurd h (by decide)⟩) (by decide)).trans (by rw [ofNat_i]; rfl)
theorem r_a7 {A : AA} {P : Hp} {S : SS} {K : KK} {z : Nat × Nat} (hA : GA A) {i : Int} (h0 : 0 ≤ i) (h1 : i < S 20 4) {j : Int} (j0 : 0 ≤ j) (j1 : j < 8) : f_X8_at (some (A 7 i)) (iI j) (Hc A P S K, z) = some (.ok (K 7 i j), (Hc A P S K, z)) := by
  unfold f_X8_at
  have e1 : ¬ (iI j < 0) := by rw [li_0, iI_lt (by omega) (by omega) (by omega) (by omega)]; omega
  have e2 : ¬ (iI 8 ≤ iI j) := by rw [iI_le (by omega) (by omega) (by omega) (by omega)]; omega
  rw [if_neg e1, r_n7 hA h0 h1, e_ite, if_neg e2, r_l7 hA h0 h1 j0 j1]
  rfl
theorem r_l8 {A : AA} {P : Hp} {S : SS} {K : KK} {z : Nat × Nat} {R : Type} (hA : GA A) {i : Int} (h0 : 0 ≤ i) (h1 : i < S 20 4) {j : Int} (j0 : 0 ≤ j) (j1 : j < 3) {Kc : Int32 → OO R} : ldI 0 (some (A 8 i)) (iI j) Kc (Hc A P S K, z) = Kc (K 8 i j) (Hc A P S K, z) := by
  rw [x_ld (hc_at hA (k := 8) (i := i) ⟨by decide, h0, h1, fun h => absurd h (by decide)⟩) (iI_in j0 j1 (by omega))]
  show Kc (K 8 i (((iI j).toNatClampNeg : Nat) : Int)) _ = _
  rw [toNat_i j0 (by omega)]
theorem r_n8 {A : AA} {P : Hp} {S : SS} {K : KK} {z : Nat × Nat} {R : Type} (hA : GA A) {i : Int} (h0 : 0 ≤ i) (h1 : i < S 20 4) {Kc : Int32 → OO R} : alen (some (A 8 i)) Kc (Hc A P S K, z) = Kc (iI 3) (Hc A P S K, z) := (x_alen (hc_at hA (k := 8) (i := i) ⟨by decide, h0, h1, fun h => absurd h (by decide)⟩) (by decide)).trans (by rw [ofNat_i]; rfl)
theorem r_a8 {A : AA} {P : Hp} {S : SS} {K : KK} {z : Nat × Nat} (hA : GA A) {i : Int} (h0 : 0 ≤ i) (h1 : i < S 20 4) {j : Int} (j0 : 0 ≤ j) (j1 : j < 3) : f_X8_at (some (A 8 i)) (iI j) (Hc A P S K, z) = some (.ok (K 8 i j), (Hc A P S K, z)) := by
  unfold f_X8_at
  have e1 : ¬ (iI j < 0) := by rw [li_0, iI_lt (by omega) (by omega) (by omega) (by omega)]; omega
  have e2 : ¬ (iI 3 ≤ iI j) := by rw [iI_le (by omega) (by omega) (by omega) (by omega)]; omega
  rw [if_neg e1, r_n8 hA h0 h1, e_ite, if_neg e2, r_l8 hA h0 h1 j0 j1]
  rfl
theorem r_l9 {A : AA} {P : Hp} {S : SS} {K : KK} {z : Nat × Nat} {R : Type} (hA : GA A) {i : Int} (h0 : 0 ≤ i) (h1 : i < S 20 4) {j : Int} (j0 : 0 ≤ j) (j1 : j < 5) {Kc : Int32 → OO R} : ldI 0 (some (A 9 i)) (iI j) Kc (Hc A P S K, z) = Kc (K 9 i j) (Hc A P S K, z) := by
  rw [x_ld (hc_at hA (k := 9) (i := i) ⟨by decide, h0, h1, fun h => absurd h (by decide)⟩) (iI_in j0 j1 (by omega))]
  show Kc (K 9 i (((iI j).toNatClampNeg : Nat) : Int)) _ = _
  rw [toNat_i j0 (by omega)]
theorem r_n9 {A : AA} {P : Hp} {S : SS} {K : KK} {z : Nat × Nat} {R : Type} (hA : GA A) {i : Int} (h0 : 0 ≤ i) (h1 : i < S 20 4) {Kc : Int32 → OO R} : alen (some (A 9 i)) Kc (Hc A P S K, z) = Kc (iI 5) (Hc A P S K, z) := (x_alen (hc_at hA (k := 9) (i := i) ⟨by decide, h0, h1, fun h => absurd h (by decide)⟩) (by decide)).trans (by rw [ofNat_i]; rfl)
theorem r_a9 {A : AA} {P : Hp} {S : SS} {K : KK} {z : Nat × Nat} (hA : GA A) {i : Int} (h0 : 0 ≤ i) (h1 : i < S 20 4) {j : Int} (j0 : 0 ≤ j) (j1 : j < 5) : f_X8_at (some (A 9 i)) (iI j) (Hc A P S K, z) = some (.ok (K 9 i j), (Hc A P S K, z)) := by
  unfold f_X8_at
  have e1 : ¬ (iI j < 0) := by rw [li_0, iI_lt (by omega) (by omega) (by omega) (by omega)]; omega
  have e2 : ¬ (iI 5 ≤ iI j) := by rw [iI_le (by omega) (by omega) (by omega) (by omega)]; omega
  rw [if_neg e1, r_n9 hA h0 h1, e_ite, if_neg e2, r_l9 hA h0 h1 j0 j1]
  rfl
theorem r_l18 {A : AA} {P : Hp} {S : SS} {K : KK} {z : Nat × Nat} {R : Type} (hA : GA A) {j : Int} (j0 : 0 ≤ j) (j1 : j < 16) {Kc : Int32 → OO R} : ldI 0 (some (A 18 0)) (iI j) Kc (Hc A P S K, z) = Kc (K 18 0 j) (Hc A P S K, z) := by
  rw [x_ld (hc_at hA (k := 18) (i := 0) ⟨by decide, by decide, by show (0 : Int) < 1; decide, fun h => absurd h (by decide)⟩) (iI_in j0 j1 (by omega))]
  show Kc (K 18 0 (((iI j).toNatClampNeg : Nat) : Int)) _ = _
  rw [toNat_i j0 (by omega)]
theorem r_n18 {A : AA} {P : Hp} {S : SS} {K : KK} {z : Nat × Nat} {R : Type} (hA : GA A) {Kc : Int32 → OO R} : alen (some (A 18 0)) Kc (Hc A P S K, z) = Kc (iI 16) (Hc A P S K, z) := (x_alen (hc_at hA (k := 18) (i := 0) ⟨by decide, by decide, by show (0 : Int) < 1; decide, fun h => absurd h (by decide)⟩) (by decide)).trans (by rw [ofNat_i]; rfl)
theorem r_a18 {A : AA} {P : Hp} {S : SS} {K : KK} {z : Nat × Nat} (hA : GA A) {j : Int} (j0 : 0 ≤ j) (j1 : j < 16) : f_X8_at (some (A 18 0)) (iI j) (Hc A P S K, z) = some (.ok (K 18 0 j), (Hc A P S K, z)) := by
  unfold f_X8_at
  have e1 : ¬ (iI j < 0) := by rw [li_0, iI_lt (by omega) (by omega) (by omega) (by omega)]; omega
  have e2 : ¬ (iI 16 ≤ iI j) := by rw [iI_le (by omega) (by omega) (by omega) (by omega)]; omega
  rw [if_neg e1, r_n18 hA, e_ite, if_neg e2, r_l18 hA j0 j1]
  rfl
theorem r_l19 {A : AA} {P : Hp} {S : SS} {K : KK} {z : Nat × Nat} {R : Type} (hA : GA A) {j : Int} (j0 : 0 ≤ j) (j1 : j < 8) {Kc : Int32 → OO R} : ldI 0 (some (A 19 0)) (iI j) Kc (Hc A P S K, z) = Kc (K 19 0 j) (Hc A P S K, z) := by
  rw [x_ld (hc_at hA (k := 19) (i := 0) ⟨by decide, by decide, by show (0 : Int) < 1; decide, fun h => absurd h (by decide)⟩) (iI_in j0 j1 (by omega))]
  show Kc (K 19 0 (((iI j).toNatClampNeg : Nat) : Int)) _ = _
  rw [toNat_i j0 (by omega)]
theorem r_n19 {A : AA} {P : Hp} {S : SS} {K : KK} {z : Nat × Nat} {R : Type} (hA : GA A) {Kc : Int32 → OO R} : alen (some (A 19 0)) Kc (Hc A P S K, z) = Kc (iI 8) (Hc A P S K, z) := (x_alen (hc_at hA (k := 19) (i := 0) ⟨by decide, by decide, by show (0 : Int) < 1; decide, fun h => absurd h (by decide)⟩) (by decide)).trans (by rw [ofNat_i]; rfl)
theorem r_a19 {A : AA} {P : Hp} {S : SS} {K : KK} {z : Nat × Nat} (hA : GA A) {j : Int} (j0 : 0 ≤ j) (j1 : j < 8) : f_X8_at (some (A 19 0)) (iI j) (Hc A P S K, z) = some (.ok (K 19 0 j), (Hc A P S K, z)) := by
  unfold f_X8_at
  have e1 : ¬ (iI j < 0) := by rw [li_0, iI_lt (by omega) (by omega) (by omega) (by omega)]; omega
  have e2 : ¬ (iI 8 ≤ iI j) := by rw [iI_le (by omega) (by omega) (by omega) (by omega)]; omega
  rw [if_neg e1, r_n19 hA, e_ite, if_neg e2, r_l19 hA j0 j1]
  rfl
theorem r_l21 {A : AA} {P : Hp} {S : SS} {K : KK} {z : Nat × Nat} {R : Type} (hA : GA A) {j : Int} (j0 : 0 ≤ j) (j1 : j < 4) {Kc : Int32 → OO R} : ldI 0 (some (A 21 0)) (iI j) Kc (Hc A P S K, z) = Kc (K 21 0 j) (Hc A P S K, z) := by
  rw [x_ld (hc_at hA (k := 21) (i := 0) ⟨by decide, by decide, by show (0 : Int) < 1; decide, fun h => absurd h (by decide)⟩) (iI_in j0 j1 (by omega))]
  show Kc (K 21 0 (((iI j).toNatClampNeg : Nat) : Int)) _ = _
  rw [toNat_i j0 (by omega)]
theorem r_n21 {A : AA} {P : Hp} {S : SS} {K : KK} {z : Nat × Nat} {R : Type} (hA : GA A) {Kc : Int32 → OO R} : alen (some (A 21 0)) Kc (Hc A P S K, z) = Kc (iI 4) (Hc A P S K, z) := (x_alen (hc_at hA (k := 21) (i := 0) ⟨by decide, by decide, by show (0 : Int) < 1; decide, fun h => absurd h (by decide)⟩) (by decide)).trans (by rw [ofNat_i]; rfl)
theorem r_a21 {A : AA} {P : Hp} {S : SS} {K : KK} {z : Nat × Nat} (hA : GA A) {j : Int} (j0 : 0 ≤ j) (j1 : j < 4) : f_X8_at (some (A 21 0)) (iI j) (Hc A P S K, z) = some (.ok (K 21 0 j), (Hc A P S K, z)) := by
  unfold f_X8_at
  have e1 : ¬ (iI j < 0) := by rw [li_0, iI_lt (by omega) (by omega) (by omega) (by omega)]; omega
  have e2 : ¬ (iI 4 ≤ iI j) := by rw [iI_le (by omega) (by omega) (by omega) (by omega)]; omega
  rw [if_neg e1, r_n21 hA, e_ite, if_neg e2, r_l21 hA j0 j1]
  rfl
theorem r_l22 {A : AA} {P : Hp} {S : SS} {K : KK} {z : Nat × Nat} {R : Type} (hA : GA A) {j : Int} (j0 : 0 ≤ j) (j1 : j < 240) {Kc : Int32 → OO R} : ldI 0 (some (A 22 0)) (iI j) Kc (Hc A P S K, z) = Kc (K 22 0 j) (Hc A P S K, z) := by
  rw [x_ld (hc_at hA (k := 22) (i := 0) ⟨by decide, by decide, by show (0 : Int) < 1; decide, fun h => absurd h (by decide)⟩) (iI_in j0 j1 (by omega))]
  show Kc (K 22 0 (((iI j).toNatClampNeg : Nat) : Int)) _ = _
  rw [toNat_i j0 (by omega)]
theorem r_n22 {A : AA} {P : Hp} {S : SS} {K : KK} {z : Nat × Nat} {R : Type} (hA : GA A) {Kc : Int32 → OO R} : alen (some (A 22 0)) Kc (Hc A P S K, z) = Kc (iI 240) (Hc A P S K, z) := (x_alen (hc_at hA (k := 22) (i := 0) ⟨by decide, by decide, by show (0 : Int) < 1; decide, fun h => absurd h (by decide)⟩) (by decide)).trans (by rw [ofNat_i]; rfl)
theorem r_a22 {A : AA} {P : Hp} {S : SS} {K : KK} {z : Nat × Nat} (hA : GA A) {j : Int} (j0 : 0 ≤ j) (j1 : j < 240) : f_X8_at (some (A 22 0)) (iI j) (Hc A P S K, z) = some (.ok (K 22 0 j), (Hc A P S K, z)) := by
  unfold f_X8_at
  have e1 : ¬ (iI j < 0) := by rw [li_0, iI_lt (by omega) (by omega) (by omega) (by omega)]; omega
  have e2 : ¬ (iI 240 ≤ iI j) := by rw [iI_le (by omega) (by omega) (by omega) (by omega)]; omega
  rw [if_neg e1, r_n22 hA, e_ite, if_neg e2, r_l22 hA j0 j1]
  rfl
theorem r_l23 {A : AA} {P : Hp} {S : SS} {K : KK} {z : Nat × Nat} {R : Type} (hA : GA A) {j : Int} (j0 : 0 ≤ j) (j1 : j < 16) {Kc : Int32 → OO R} : ldI 0 (some (A 23 0)) (iI j) Kc (Hc A P S K, z) = Kc (K 23 0 j) (Hc A P S K, z) := by
  rw [x_ld (hc_at hA (k := 23) (i := 0) ⟨by decide, by decide, by show (0 : Int) < 1; decide, fun h => absurd h (by decide)⟩) (iI_in j0 j1 (by omega))]
  show Kc (K 23 0 (((iI j).toNatClampNeg : Nat) : Int)) _ = _
  rw [toNat_i j0 (by omega)]
theorem r_n23 {A : AA} {P : Hp} {S : SS} {K : KK} {z : Nat × Nat} {R : Type} (hA : GA A) {Kc : Int32 → OO R} : alen (some (A 23 0)) Kc (Hc A P S K, z) = Kc (iI 16) (Hc A P S K, z) := (x_alen (hc_at hA (k := 23) (i := 0) ⟨by decide, by decide, by show (0 : Int) < 1; decide, fun h => absurd h (by decide)⟩) (by decide)).trans (by rw [ofNat_i]; rfl)
theorem r_a23 {A : AA} {P : Hp} {S : SS} {K : KK} {z : Nat × Nat} (hA : GA A) {j : Int} (j0 : 0 ≤ j) (j1 : j < 16) : f_X8_at (some (A 23 0)) (iI j) (Hc A P S K, z) = some (.ok (K 23 0 j), (Hc A P S K, z)) := by
  unfold f_X8_at
  have e1 : ¬ (iI j < 0) := by rw [li_0, iI_lt (by omega) (by omega) (by omega) (by omega)]; omega
  have e2 : ¬ (iI 16 ≤ iI j) := by rw [iI_le (by omega) (by omega) (by omega) (by omega)]; omega
  rw [if_neg e1, r_n23 hA, e_ite, if_neg e2, r_l23 hA j0 j1]
  rfl
theorem r_l24 {A : AA} {P : Hp} {S : SS} {K : KK} {z : Nat × Nat} {R : Type} (hA : GA A) {j : Int} (j0 : 0 ≤ j) (j1 : j < 16) {Kc : Int32 → OO R} : ldI 0 (some (A 24 0)) (iI j) Kc (Hc A P S K, z) = Kc (K 24 0 j) (Hc A P S K, z) := by
  rw [x_ld (hc_at hA (k := 24) (i := 0) ⟨by decide, by decide, by show (0 : Int) < 1; decide, fun h => absurd h (by decide)⟩) (iI_in j0 j1 (by omega))]
  show Kc (K 24 0 (((iI j).toNatClampNeg : Nat) : Int)) _ = _
  rw [toNat_i j0 (by omega)]
theorem r_n24 {A : AA} {P : Hp} {S : SS} {K : KK} {z : Nat × Nat} {R : Type} (hA : GA A) {Kc : Int32 → OO R} : alen (some (A 24 0)) Kc (Hc A P S K, z) = Kc (iI 16) (Hc A P S K, z) := (x_alen (hc_at hA (k := 24) (i := 0) ⟨by decide, by decide, by show (0 : Int) < 1; decide, fun h => absurd h (by decide)⟩) (by decide)).trans (by rw [ofNat_i]; rfl)
theorem r_a24 {A : AA} {P : Hp} {S : SS} {K : KK} {z : Nat × Nat} (hA : GA A) {j : Int} (j0 : 0 ≤ j) (j1 : j < 16) : f_X8_at (some (A 24 0)) (iI j) (Hc A P S K, z) = some (.ok (K 24 0 j), (Hc A P S K, z)) := by
  unfold f_X8_at
  have e1 : ¬ (iI j < 0) := by rw [li_0, iI_lt (by omega) (by omega) (by omega) (by omega)]; omega
  have e2 : ¬ (iI 16 ≤ iI j) := by rw [iI_le (by omega) (by omega) (by omega) (by omega)]; omega
  rw [if_neg e1, r_n24 hA, e_ite, if_neg e2, r_l24 hA j0 j1]
  rfl
theorem r_l25 {A : AA} {P : Hp} {S : SS} {K : KK} {z : Nat × Nat} {R : Type} (hA : GA A) {j : Int} (j0 : 0 ≤ j) (j1 : j < 8) {Kc : Int32 → OO R} : ldI 0 (some (A 25 0)) (iI j) Kc (Hc A P S K, z) = Kc (K 25 0 j) (Hc A P S K, z) := by
  rw [x_ld (hc_at hA (k := 25) (i := 0) ⟨by decide, by decide, by show (0 : Int) < 1; decide, fun h => absurd h (by decide)⟩) (iI_in j0 j1 (by omega))]
  show Kc (K 25 0 (((iI j).toNatClampNeg : Nat) : Int)) _ = _
  rw [toNat_i j0 (by omega)]
theorem r_n25 {A : AA} {P : Hp} {S : SS} {K : KK} {z : Nat × Nat} {R : Type} (hA : GA A) {Kc : Int32 → OO R} : alen (some (A 25 0)) Kc (Hc A P S K, z) = Kc (iI 8) (Hc A P S K, z) := (x_alen (hc_at hA (k := 25) (i := 0) ⟨by decide, by decide, by show (0 : Int) < 1; decide, fun h => absurd h (by decide)⟩) (by decide)).trans (by rw [ofNat_i]; rfl)
theorem r_a25 {A : AA} {P : Hp} {S : SS} {K : KK} {z : Nat × Nat} (hA : GA A) {j : Int} (j0 : 0 ≤ j) (j1 : j < 8) : f_X8_at (some (A 25 0)) (iI j) (Hc A P S K, z) = some (.ok (K 25 0 j), (Hc A P S K, z)) := by
  unfold f_X8_at
  have e1 : ¬ (iI j < 0) := by rw [li_0, iI_lt (by omega) (by omega) (by omega) (by omega)]; omega
  have e2 : ¬ (iI 8 ≤ iI j) := by rw [iI_le (by omega) (by omega) (by omega) (by omega)]; omega
  rw [if_neg e1, r_n25 hA, e_ite, if_neg e2, r_l25 hA j0 j1]
  rfl
theorem r_l17 {A : AA} {P : Hp} {S : SS} {K : KK} {z : Nat × Nat} {R : Type} (hA : GA A) {j : Int} (j0 : 0 ≤ j) (j1 : j < 6) {Kc : Option Nat → OO R} : ldR 5 (some (A 17 0)) (iI j) Kc (Hc A P S K, z) = Kc (some (A 10 j)) (Hc A P S K, z) := by
  rw [x_ldR (hc_at hA (k := 17) (i := 0) ⟨by decide, by decide, by show (0 : Int) < 1; decide, fun h => absurd h (by decide)⟩) (iI_in j0 j1 (by omega))]
  have h1 : (iI j).toNatClampNeg < 6 := by rw [iI_clamp j0 (by omega)]; omega
  show Kc (if (iI j).toNatClampNeg < 6 then some (A 10 (((iI j).toNatClampNeg : Nat) : Int)) else none) _ = _
  rw [if_pos h1, toNat_i j0 (by omega)]
theorem r_n17 {A : AA} {P : Hp} {S : SS} {K : KK} {z : Nat × Nat} {R : Type} (hA : GA A) {Kc : Int32 → OO R} : alen (some (A 17 0)) Kc (Hc A P S K, z) = Kc (iI 6) (Hc A P S K, z) := (x_alen (hc_at hA (k := 17) (i := 0) ⟨by decide, by decide, by show (0 : Int) < 1; decide, fun h => absurd h (by decide)⟩) (by decide)).trans (by rw [ofNat_i]; rfl)
theorem e_chk {j n : Int} {hs : Hs} (h0 : 0 ≤ j) (h1 : j < n) (h2 : n < 2147483648) : f_J15_checkIndex_7cf53 (iI j) (iI n) hs = some (.ok (iI j), hs) := by
  have e1 : ¬ (iI j < 0) := by rw [li_0, iI_lt (by omega) (by omega) (by omega) (by omega)]; omega
  have e2 : iI j < iI n := by rw [iI_lt (by omega) (by omega) (by omega) (by omega)]; omega
  have e3 : f_J3_checkIndex_8e157 (iI j) (iI n) none hs = some (.ok (iI j), hs) := by
    unfold f_J3_checkIndex_8e157
    simp only [e_ite, e1, e2, if_false, not_false_eq_true, not_true, if_true, ite_not]
    rfl
  unfold f_J15_checkIndex_7cf53
  rw [e_call e3]
  rfl
theorem r_sz0 {A : AA} {P : Hp} {S : SS} {K : KK} {z : Nat × Nat} (hA : GA A)  : f_Jx4a65c_size_8abf5 (A 11 0) (Hc A P S K, z) = some (.ok (iI (S 20 2)), (Hc A P S K, z)) := by
  unfold f_Jx4a65c_size_8abf5
  rw [r_11_2 hA (by decide) (by decide)]
  rfl
theorem r_gt0 {A : AA} {P : Hp} {S : SS} {K : KK} {z : Nat × Nat} (hA : GA A) (hm : S 20 2 ≤ 16) {j : Int} (j0 : 0 ≤ j) (j1 : j < S 20 2) : f_Jx4a65c_get_915e3 (A 11 0) (iI j) (Hc A P S K, z) = some (.ok (some (A 2 j)), (Hc A P S K, z)) := by
  have hc : lcnt S 0 = S 20 2 := rfl
  have l12 : live S 12 0 := ⟨by decide, by decide, by show (0 : Int) < 4; decide, fun _ => by rw [hc]; omega⟩
  have e1 : f_J15_checkIndex_7cf53 (iI j) (iI (S 20 2)) (Hc A P S K, z) = some (.ok (iI j), (Hc A P S K, z)) := e_chk j0 j1 (by omega)
  have e2 : f_Jx4a65c_elementData_915e3 (A 11 0) (iI j) (Hc A P S K, z) = some (.ok (some (A 2 j)), (Hc A P S K, z)) := by
    unfold f_Jx4a65c_elementData_915e3
    have hn : j < (capN (lcnt S 0) : Nat) := by
      rw [hc]
      unfold capN
      repeat' split
      all_goals omega
    rw [r_11_1p hA (by decide) (by decide) (by rw [hc]; omega), x_ldR (hc_at hA l12) (iI_in j0 hn (by omega))]
    show rtn (if (((iI j).toNatClampNeg : Nat) : Int) < lcnt S 0 then some (A (okind 0) (((iI j).toNatClampNeg : Nat) : Int)) else none) _ = _
    rw [toNat_i j0 (by omega), hc, if_pos j1]
    rfl
  unfold f_Jx4a65c_get_915e3
  rw [r_11_2 hA (by decide) (by decide), hc, e_call e1, r_v11 hA (by decide) (by decide), e_call e2]
  rfl
theorem r_sz1 {A : AA} {P : Hp} {S : SS} {K : KK} {z : Nat × Nat} (hA : GA A)  : f_Jx4a65c_size_8abf5 (A 11 1) (Hc A P S K, z) = some (.ok (iI (S 20 1)), (Hc A P S K, z)) := by
  unfold f_Jx4a65c_size_8abf5
  rw [r_11_2 hA (by decide) (by decide)]
  rfl
theorem r_gt1 {A : AA} {P : Hp} {S : SS} {K : KK} {z : Nat × Nat} (hA : GA A) (hm : S 20 1 ≤ 16) {j : Int} (j0 : 0 ≤ j) (j1 : j < S 20 1) : f_Jx4a65c_get_915e3 (A 11 1) (iI j) (Hc A P S K, z) = some (.ok (some (A 1 j)), (Hc A P S K, z)) := by
  have hc : lcnt S 1 = S 20 1 := rfl
  have l12 : live S 12 1 := ⟨by decide, by decide, by show (1 : Int) < 4; decide, fun _ => by rw [hc]; omega⟩
  have e1 : f_J15_checkIndex_7cf53 (iI j) (iI (S 20 1)) (Hc A P S K, z) = some (.ok (iI j), (Hc A P S K, z)) := e_chk j0 j1 (by omega)
  have e2 : f_Jx4a65c_elementData_915e3 (A 11 1) (iI j) (Hc A P S K, z) = some (.ok (some (A 1 j)), (Hc A P S K, z)) := by
    unfold f_Jx4a65c_elementData_915e3
    have hn : j < (capN (lcnt S 1) : Nat) := by
      rw [hc]
      unfold capN
      repeat' split
      all_goals omega
    rw [r_11_1p hA (by decide) (by decide) (by rw [hc]; omega), x_ldR (hc_at hA l12) (iI_in j0 hn (by omega))]
    show rtn (if (((iI j).toNatClampNeg : Nat) : Int) < lcnt S 1 then some (A (okind 1) (((iI j).toNatClampNeg : Nat) : Int)) else none) _ = _
    rw [toNat_i j0 (by omega), hc, if_pos j1]
    rfl
  unfold f_Jx4a65c_get_915e3
  rw [r_11_2 hA (by decide) (by decide), hc, e_call e1, r_v11 hA (by decide) (by decide), e_call e2]
  rfl
theorem r_sz2 {A : AA} {P : Hp} {S : SS} {K : KK} {z : Nat × Nat} (hA : GA A)  : f_Jx4a65c_size_8abf5 (A 11 2) (Hc A P S K, z) = some (.ok (iI (S 20 3)), (Hc A P S K, z)) := by
  unfold f_Jx4a65c_size_8abf5
  rw [r_11_2 hA (by decide) (by decide)]
  rfl
theorem r_gt2 {A : AA} {P : Hp} {S : SS} {K : KK} {z : Nat × Nat} (hA : GA A) (hm : S 20 3 ≤ 16) {j : Int} (j0 : 0 ≤ j) (j1 : j < S 20 3) : f_Jx4a65c_get_915e3 (A 11 2) (iI j) (Hc A P S K, z) = some (.ok (some (A 4 j)), (Hc A P S K, z)) := by
  have hc : lcnt S 2 = S 20 3 := rfl
  have l12 : live S 12 2 := ⟨by decide, by decide, by show (2 : Int) < 4; decide, fun _ => by rw [hc]; omega⟩
  have e1 : f_J15_checkIndex_7cf53 (iI j) (iI (S 20 3)) (Hc A P S K, z) = some (.ok (iI j), (Hc A P S K, z)) := e_chk j0 j1 (by omega)
  have e2 : f_Jx4a65c_elementData_915e3 (A 11 2) (iI j) (Hc A P S K, z) = some (.ok (some (A 4 j)), (Hc A P S K, z)) := by
    unfold f_Jx4a65c_elementData_915e3
    have hn : j < (capN (lcnt S 2) : Nat) := by
      rw [hc]
      unfold capN
      repeat' split
      all_goals omega
    rw [r_11_1p hA (by decide) (by decide) (by rw [hc]; omega), x_ldR (hc_at hA l12) (iI_in j0 hn (by omega))]
    show rtn (if (((iI j).toNatClampNeg : Nat) : Int) < lcnt S 2 then some (A (okind 2) (((iI j).toNatClampNeg : Nat) : Int)) else none) _ = _
    rw [toNat_i j0 (by omega), hc, if_pos j1]
    rfl
  unfold f_Jx4a65c_get_915e3
  rw [r_11_2 hA (by decide) (by decide), hc, e_call e1, r_v11 hA (by decide) (by decide), e_call e2]
  rfl
theorem r_sz3 {A : AA} {P : Hp} {S : SS} {K : KK} {z : Nat × Nat} (hA : GA A)  : f_Jx4a65c_size_8abf5 (A 11 3) (Hc A P S K, z) = some (.ok (iI (S 20 4)), (Hc A P S K, z)) := by
  unfold f_Jx4a65c_size_8abf5
  rw [r_11_2 hA (by decide) (by decide)]
  rfl
theorem r_gt3 {A : AA} {P : Hp} {S : SS} {K : KK} {z : Nat × Nat} (hA : GA A) (hm : S 20 4 ≤ 16) {j : Int} (j0 : 0 ≤ j) (j1 : j < S 20 4) : f_Jx4a65c_get_915e3 (A 11 3) (iI j) (Hc A P S K, z) = some (.ok (some (A 5 j)), (Hc A P S K, z)) := by
  have hc : lcnt S 3 = S 20 4 := rfl
  have l12 : live S 12 3 := ⟨by decide, by decide, by show (3 : Int) < 4; decide, fun _ => by rw [hc]; omega⟩
  have e1 : f_J15_checkIndex_7cf53 (iI j) (iI (S 20 4)) (Hc A P S K, z) = some (.ok (iI j), (Hc A P S K, z)) := e_chk j0 j1 (by omega)
  have e2 : f_Jx4a65c_elementData_915e3 (A 11 3) (iI j) (Hc A P S K, z) = some (.ok (some (A 5 j)), (Hc A P S K, z)) := by
    unfold f_Jx4a65c_elementData_915e3
    have hn : j < (capN (lcnt S 3) : Nat) := by
      rw [hc]
      unfold capN
      repeat' split
      all_goals omega
    rw [r_11_1p hA (by decide) (by decide) (by rw [hc]; omega), x_ldR (hc_at hA l12) (iI_in j0 hn (by omega))]
    show rtn (if (((iI j).toNatClampNeg : Nat) : Int) < lcnt S 3 then some (A (okind 3) (((iI j).toNatClampNeg : Nat) : Int)) else none) _ = _
    rw [toNat_i j0 (by omega), hc, if_pos j1]
    rfl
  unfold f_Jx4a65c_get_915e3
  rw [r_11_2 hA (by decide) (by decide), hc, e_call e1, r_v11 hA (by decide) (by decide), e_call e2]
  rfl
theorem w_s6 {A : AA} {P : Hp} {S : SS} {K : KK} {z : Nat × Nat} {R : Type} (hA : GA A) {i : Int} (h0 : 0 ≤ i) (h1 : i < S 20 4) {j : Int} (j0 : 0 ≤ j) (j1 : j < 8) {x : Int32} {Kc : OO R} : stI (some (A 6 i)) (iI j) x Kc (Hc A P S K, z) = Kc (Hc A P S (up3 K 6 i j x), z) := by
  rw [x_stI (hc_at hA (k := 6) (i := i) ⟨by decide, h0, h1, fun h => absurd h (by decide)⟩) (iI_in j0 j1 (by omega))]
  congr 2
  refine hc_set hA ⟨by decide, h0, h1, fun h => absurd h (by decide)⟩ (fun k i => Iff.rfl) (fun k2 i2 _ _ hn => cell_K (fun j2 => ?_)) ?_
  · exact if_neg (fun q => hn ⟨q.1, q.2.1⟩)
  · show _ = aI 0 8 _
    congr 4
    funext q
    unfold upd up3
    have hj := toNat_i j0 (show j < 2147483648 by omega)
    by_cases hq : q = (iI j).toNatClampNeg
    · rw [if_pos hq, if_pos ⟨rfl, rfl, by omega⟩]
    · rw [if_neg hq, if_neg (fun z => hq (by omega))]
theorem w_s7 {A : AA} {P : Hp} {S : SS} {K : KK} {z : Nat × Nat} {R : Type} (hA : GA A) {i : Int} (h0 : 0 ≤ i) (h1 : i < S 20 4) {j : Int} (j0 : 0 ≤ j) (j1 : j < 8) {x : Int32} {Kc : OO R} : stI (some (A 7 i)) (iI j) x Kc (Hc A P S K, z) = Kc (Hc A P S (up3 K 7 i j x), z) := by
  rw [x_stI (hc_at hA (k := 7) (i := i) ⟨by decide, h0, h1, fun h => absurd h (by decide)⟩) (iI_in j0 j1 (by omega))]
  congr 2
  refine hc_set hA ⟨by decide, h0, h1, fun h => absurd h (by decide)⟩ (fun k i => Iff.rfl) (fun k2 i2 _ _ hn => cell_K (fun j2 => ?_)) ?_
  · exact if_neg (fun q => hn ⟨q.1, q.2.1⟩)
  · show _ = aI 0 8 _
    congr 4
    funext q
    unfold upd up3
    have hj := toNat_i j0 (show j < 2147483648 by omega)
    by_cases hq : q = (iI j).toNatClampNeg
    · rw [if_pos hq, if_pos ⟨rfl, rfl, by omega⟩]
    · rw [if_neg hq, if_neg (fun z => hq (by omega))]
theorem w_s8 {A : AA} {P : Hp} {S : SS} {K : KK} {z : Nat × Nat} {R : Type} (hA : GA A) {i : Int} (h0 : 0 ≤ i) (h1 : i < S 20 4) {j : Int} (j0 : 0 ≤ j) (j1 : j < 3) {x : Int32} {Kc : OO R} : stI (some (A 8 i)) (iI j) x Kc (Hc A P S K, z) = Kc (Hc A P S (up3 K 8 i j x), z) := by
  rw [x_stI (hc_at hA (k := 8) (i := i) ⟨by decide, h0, h1, fun h => absurd h (by decide)⟩) (iI_in j0 j1 (by omega))]
  congr 2
  refine hc_set hA ⟨by decide, h0, h1, fun h => absurd h (by decide)⟩ (fun k i => Iff.rfl) (fun k2 i2 _ _ hn => cell_K (fun j2 => ?_)) ?_
  · exact if_neg (fun q => hn ⟨q.1, q.2.1⟩)
  · show _ = aI 0 3 _
    congr 4
    funext q
    unfold upd up3
    have hj := toNat_i j0 (show j < 2147483648 by omega)
    by_cases hq : q = (iI j).toNatClampNeg
    · rw [if_pos hq, if_pos ⟨rfl, rfl, by omega⟩]
    · rw [if_neg hq, if_neg (fun z => hq (by omega))]
theorem w_s9 {A : AA} {P : Hp} {S : SS} {K : KK} {z : Nat × Nat} {R : Type} (hA : GA A) {i : Int} (h0 : 0 ≤ i) (h1 : i < S 20 4) {j : Int} (j0 : 0 ≤ j) (j1 : j < 5) {x : Int32} {Kc : OO R} : stI (some (A 9 i)) (iI j) x Kc (Hc A P S K, z) = Kc (Hc A P S (up3 K 9 i j x), z) := by
  rw [x_stI (hc_at hA (k := 9) (i := i) ⟨by decide, h0, h1, fun h => absurd h (by decide)⟩) (iI_in j0 j1 (by omega))]
  congr 2
  refine hc_set hA ⟨by decide, h0, h1, fun h => absurd h (by decide)⟩ (fun k i => Iff.rfl) (fun k2 i2 _ _ hn => cell_K (fun j2 => ?_)) ?_
  · exact if_neg (fun q => hn ⟨q.1, q.2.1⟩)
  · show _ = aI 0 5 _
    congr 4
    funext q
    unfold upd up3
    have hj := toNat_i j0 (show j < 2147483648 by omega)
    by_cases hq : q = (iI j).toNatClampNeg
    · rw [if_pos hq, if_pos ⟨rfl, rfl, by omega⟩]
    · rw [if_neg hq, if_neg (fun z => hq (by omega))]
theorem w_s18 {A : AA} {P : Hp} {S : SS} {K : KK} {z : Nat × Nat} {R : Type} (hA : GA A) {j : Int} (j0 : 0 ≤ j) (j1 : j < 16) {x : Int32} {Kc : OO R} : stI (some (A 18 0)) (iI j) x Kc (Hc A P S K, z) = Kc (Hc A P S (up3 K 18 0 j x), z) := by
  rw [x_stI (hc_at hA (k := 18) (i := 0) ⟨by decide, by decide, by show (0 : Int) < 1; decide, fun h => absurd h (by decide)⟩) (iI_in j0 j1 (by omega))]
  congr 2
  refine hc_set hA ⟨by decide, by decide, by show (0 : Int) < 1; decide, fun h => absurd h (by decide)⟩ (fun k i => Iff.rfl) (fun k2 i2 _ _ hn => cell_K (fun j2 => ?_)) ?_
  · exact if_neg (fun q => hn ⟨q.1, q.2.1⟩)
  · show _ = aI 0 16 _
    congr 4
    funext q
    unfold upd up3
    have hj := toNat_i j0 (show j < 2147483648 by omega)
    by_cases hq : q = (iI j).toNatClampNeg
    · rw [if_pos hq, if_pos ⟨rfl, rfl, by omega⟩]
    · rw [if_neg hq, if_neg (fun z => hq (by omega))]
theorem w_s19 {A : AA} {P : Hp} {S : SS} {K : KK} {z : Nat × Nat} {R : Type} (hA : GA A) {j : Int} (j0 : 0 ≤ j) (j1 : j < 8) {x : Int32} {Kc : OO R} : stI (some (A 19 0)) (iI j) x Kc (Hc A P S K, z) = Kc (Hc A P S (up3 K 19 0 j x), z) := by
  rw [x_stI (hc_at hA (k := 19) (i := 0) ⟨by decide, by decide, by show (0 : Int) < 1; decide, fun h => absurd h (by decide)⟩) (iI_in j0 j1 (by omega))]
  congr 2
  refine hc_set hA ⟨by decide, by decide, by show (0 : Int) < 1; decide, fun h => absurd h (by decide)⟩ (fun k i => Iff.rfl) (fun k2 i2 _ _ hn => cell_K (fun j2 => ?_)) ?_
  · exact if_neg (fun q => hn ⟨q.1, q.2.1⟩)
  · show _ = aI 0 8 _
    congr 4
    funext q
    unfold upd up3
    have hj := toNat_i j0 (show j < 2147483648 by omega)
    by_cases hq : q = (iI j).toNatClampNeg
    · rw [if_pos hq, if_pos ⟨rfl, rfl, by omega⟩]
    · rw [if_neg hq, if_neg (fun z => hq (by omega))]
theorem w_s21 {A : AA} {P : Hp} {S : SS} {K : KK} {z : Nat × Nat} {R : Type} (hA : GA A) {j : Int} (j0 : 0 ≤ j) (j1 : j < 4) {x : Int32} {Kc : OO R} : stI (some (A 21 0)) (iI j) x Kc (Hc A P S K, z) = Kc (Hc A P S (up3 K 21 0 j x), z) := by
  rw [x_stI (hc_at hA (k := 21) (i := 0) ⟨by decide, by decide, by show (0 : Int) < 1; decide, fun h => absurd h (by decide)⟩) (iI_in j0 j1 (by omega))]
  congr 2
  refine hc_set hA ⟨by decide, by decide, by show (0 : Int) < 1; decide, fun h => absurd h (by decide)⟩ (fun k i => Iff.rfl) (fun k2 i2 _ _ hn => cell_K (fun j2 => ?_)) ?_
  · exact if_neg (fun q => hn ⟨q.1, q.2.1⟩)
  · show _ = aI 0 4 _
    congr 4
    funext q
    unfold upd up3
    have hj := toNat_i j0 (show j < 2147483648 by omega)
    by_cases hq : q = (iI j).toNatClampNeg
    · rw [if_pos hq, if_pos ⟨rfl, rfl, by omega⟩]
    · rw [if_neg hq, if_neg (fun z => hq (by omega))]
theorem w_s22 {A : AA} {P : Hp} {S : SS} {K : KK} {z : Nat × Nat} {R : Type} (hA : GA A) {j : Int} (j0 : 0 ≤ j) (j1 : j < 240) {x : Int32} {Kc : OO R} : stI (some (A 22 0)) (iI j) x Kc (Hc A P S K, z) = Kc (Hc A P S (up3 K 22 0 j x), z) := by
  rw [x_stI (hc_at hA (k := 22) (i := 0) ⟨by decide, by decide, by show (0 : Int) < 1; decide, fun h => absurd h (by decide)⟩) (iI_in j0 j1 (by omega))]
  congr 2
  refine hc_set hA ⟨by decide, by decide, by show (0 : Int) < 1; decide, fun h => absurd h (by decide)⟩ (fun k i => Iff.rfl) (fun k2 i2 _ _ hn => cell_K (fun j2 => ?_)) ?_
  · exact if_neg (fun q => hn ⟨q.1, q.2.1⟩)
  · show _ = aI 0 240 _
    congr 4
    funext q
    unfold upd up3
    have hj := toNat_i j0 (show j < 2147483648 by omega)
    by_cases hq : q = (iI j).toNatClampNeg
    · rw [if_pos hq, if_pos ⟨rfl, rfl, by omega⟩]
    · rw [if_neg hq, if_neg (fun z => hq (by omega))]
theorem w_s23 {A : AA} {P : Hp} {S : SS} {K : KK} {z : Nat × Nat} {R : Type} (hA : GA A) {j : Int} (j0 : 0 ≤ j) (j1 : j < 16) {x : Int32} {Kc : OO R} : stI (some (A 23 0)) (iI j) x Kc (Hc A P S K, z) = Kc (Hc A P S (up3 K 23 0 j x), z) := by
  rw [x_stI (hc_at hA (k := 23) (i := 0) ⟨by decide, by decide, by show (0 : Int) < 1; decide, fun h => absurd h (by decide)⟩) (iI_in j0 j1 (by omega))]
  congr 2
  refine hc_set hA ⟨by decide, by decide, by show (0 : Int) < 1; decide, fun h => absurd h (by decide)⟩ (fun k i => Iff.rfl) (fun k2 i2 _ _ hn => cell_K (fun j2 => ?_)) ?_
  · exact if_neg (fun q => hn ⟨q.1, q.2.1⟩)
  · show _ = aI 0 16 _
    congr 4
    funext q
    unfold upd up3
    have hj := toNat_i j0 (show j < 2147483648 by omega)
    by_cases hq : q = (iI j).toNatClampNeg
    · rw [if_pos hq, if_pos ⟨rfl, rfl, by omega⟩]
    · rw [if_neg hq, if_neg (fun z => hq (by omega))]
theorem w_s24 {A : AA} {P : Hp} {S : SS} {K : KK} {z : Nat × Nat} {R : Type} (hA : GA A) {j : Int} (j0 : 0 ≤ j) (j1 : j < 16) {x : Int32} {Kc : OO R} : stI (some (A 24 0)) (iI j) x Kc (Hc A P S K, z) = Kc (Hc A P S (up3 K 24 0 j x), z) := by
  rw [x_stI (hc_at hA (k := 24) (i := 0) ⟨by decide, by decide, by show (0 : Int) < 1; decide, fun h => absurd h (by decide)⟩) (iI_in j0 j1 (by omega))]
  congr 2
  refine hc_set hA ⟨by decide, by decide, by show (0 : Int) < 1; decide, fun h => absurd h (by decide)⟩ (fun k i => Iff.rfl) (fun k2 i2 _ _ hn => cell_K (fun j2 => ?_)) ?_
  · exact if_neg (fun q => hn ⟨q.1, q.2.1⟩)
  · show _ = aI 0 16 _
    congr 4
    funext q
    unfold upd up3
    have hj := toNat_i j0 (show j < 2147483648 by omega)
    by_cases hq : q = (iI j).toNatClampNeg
    · rw [if_pos hq, if_pos ⟨rfl, rfl, by omega⟩]
    · rw [if_neg hq, if_neg (fun z => hq (by omega))]
theorem w_s25 {A : AA} {P : Hp} {S : SS} {K : KK} {z : Nat × Nat} {R : Type} (hA : GA A) {j : Int} (j0 : 0 ≤ j) (j1 : j < 8) {x : Int32} {Kc : OO R} : stI (some (A 25 0)) (iI j) x Kc (Hc A P S K, z) = Kc (Hc A P S (up3 K 25 0 j x), z) := by
  rw [x_stI (hc_at hA (k := 25) (i := 0) ⟨by decide, by decide, by show (0 : Int) < 1; decide, fun h => absurd h (by decide)⟩) (iI_in j0 j1 (by omega))]
  congr 2
  refine hc_set hA ⟨by decide, by decide, by show (0 : Int) < 1; decide, fun h => absurd h (by decide)⟩ (fun k i => Iff.rfl) (fun k2 i2 _ _ hn => cell_K (fun j2 => ?_)) ?_
  · exact if_neg (fun q => hn ⟨q.1, q.2.1⟩)
  · show _ = aI 0 8 _
    congr 4
    funext q
    unfold upd up3
    have hj := toNat_i j0 (show j < 2147483648 by omega)
    by_cases hq : q = (iI j).toNatClampNeg
    · rw [if_pos hq, if_pos ⟨rfl, rfl, by omega⟩]
    · rw [if_neg hq, if_neg (fun z => hq (by omega))]
theorem w_f11 {A : AA} {P : Hp} {S : SS} {K : KK} {z : Nat × Nat} {R : Type} (hA : GA A) {i : Int} (h0 : 0 ≤ i) (h1 : i < S 20 4) {x : Int32} {Kc : OO R} : pI (some (A 5 i)) 7 11 x Kc (Hc A P S K, z) = Kc (Hc A P S (up3 K 5 i 11 x), z) := by
  unfold pI
  rw [x_pV (hc_at hA (k := 5) (i := i) ⟨by decide, h0, h1, fun h => absurd h (by decide)⟩) (show 11 < 18 by decide)]
  congr 2
  refine hc_set hA ⟨by decide, h0, h1, fun h => absurd h (by decide)⟩ (fun k i => Iff.rfl) (fun k2 i2 _ _ hn => cell_K (fun j2 => ?_)) ?_
  · exact if_neg (fun q => hn ⟨q.1, q.2.1⟩)
  · have e1 : ∀ j : Int, j ≠ 11 → up3 K 5 i 11 x 5 i j = K 5 i j := fun j hj => up3_j hj
    show aO 7 _ = aO 7 (cLes A S (up3 K 5 i 11 x) i)
    congr 2
    simp only [cLes, up3_s, List.set_cons_zero, List.set_cons_succ, List.set, e1 11, e1 12, e1 13, e1 16, show (11 : Int) ≠ 12 by decide, show (11 : Int) ≠ 13 by decide, show (11 : Int) ≠ 16 by decide, show (12 : Int) ≠ 11 by decide, show (12 : Int) ≠ 13 by decide, show (12 : Int) ≠ 16 by decide, show (13 : Int) ≠ 11 by decide, show (13 : Int) ≠ 12 by decide, show (13 : Int) ≠ 16 by decide, show (16 : Int) ≠ 11 by decide, show (16 : Int) ≠ 12 by decide, show (16 : Int) ≠ 13 by decide, not_false_eq_true, ne_eq]
theorem w_f12 {A : AA} {P : Hp} {S : SS} {K : KK} {z : Nat × Nat} {R : Type} (hA : GA A) {i : Int} (h0 : 0 ≤ i) (h1 : i < S 20 4) {x : Int32} {Kc : OO R} : pI (some (A 5 i)) 7 12 x Kc (Hc A P S K, z) = Kc (Hc A P S (up3 K 5 i 12 x), z) := by
  unfold pI
  rw [x_pV (hc_at hA (k := 5) (i := i) ⟨by decide, h0, h1, fun h => absurd h (by decide)⟩) (show 12 < 18 by decide)]
  congr 2
  refine hc_set hA ⟨by decide, h0, h1, fun h => absurd h (by decide)⟩ (fun k i => Iff.rfl) (fun k2 i2 _ _ hn => cell_K (fun j2 => ?_)) ?_
  · exact if_neg (fun q => hn ⟨q.1, q.2.1⟩)
  · have e1 : ∀ j : Int, j ≠ 12 → up3 K 5 i 12 x 5 i j = K 5 i j := fun j hj => up3_j hj
    show aO 7 _ = aO 7 (cLes A S (up3 K 5 i 12 x) i)
    congr 2
    simp only [cLes, up3_s, List.set_cons_zero, List.set_cons_succ, List.set, e1 11, e1 12, e1 13, e1 16, show (11 : Int) ≠ 12 by decide, show (11 : Int) ≠ 13 by decide, show (11 : Int) ≠ 16 by decide, show (12 : Int) ≠ 11 by decide, show (12 : Int) ≠ 13 by decide, show (12 : Int) ≠ 16 by decide, show (13 : Int) ≠ 11 by decide, show (13 : Int) ≠ 12 by decide, show (13 : Int) ≠ 16 by decide, show (16 : Int) ≠ 11 by decide, show (16 : Int) ≠ 12 by decide, show (16 : Int) ≠ 13 by decide, not_false_eq_true, ne_eq]
theorem w_f13 {A : AA} {P : Hp} {S : SS} {K : KK} {z : Nat × Nat} {R : Type} (hA : GA A) {i : Int} (h0 : 0 ≤ i) (h1 : i < S 20 4) {x : Int32} {Kc : OO R} : pI (some (A 5 i)) 7 13 x Kc (Hc A P S K, z) = Kc (Hc A P S (up3 K 5 i 13 x), z) := by
  unfold pI
  rw [x_pV (hc_at hA (k := 5) (i := i) ⟨by decide, h0, h1, fun h => absurd h (by decide)⟩) (show 13 < 18 by decide)]
  congr 2
  refine hc_set hA ⟨by decide, h0, h1, fun h => absurd h (by decide)⟩ (fun k i => Iff.rfl) (fun k2 i2 _ _ hn => cell_K (fun j2 => ?_)) ?_
  · exact if_neg (fun q => hn ⟨q.1, q.2.1⟩)
  · have e1 : ∀ j : Int, j ≠ 13 → up3 K 5 i 13 x 5 i j = K 5 i j := fun j hj => up3_j hj
    show aO 7 _ = aO 7 (cLes A S (up3 K 5 i 13 x) i)
    congr 2
    simp only [cLes, up3_s, List.set_cons_zero, List.set_cons_succ, List.set, e1 11, e1 12, e1 13, e1 16, show (11 : Int) ≠ 12 by decide, show (11 : Int) ≠ 13 by decide, show (11 : Int) ≠ 16 by decide, show (12 : Int) ≠ 11 by decide, show (12 : Int) ≠ 13 by decide, show (12 : Int) ≠ 16 by decide, show (13 : Int) ≠ 11 by decide, show (13 : Int) ≠ 12 by decide, show (13 : Int) ≠ 16 by decide, show (16 : Int) ≠ 11 by decide, show (16 : Int) ≠ 12 by decide, show (16 : Int) ≠ 13 by decide, not_false_eq_true, ne_eq]
theorem w_f16 {A : AA} {P : Hp} {S : SS} {K : KK} {z : Nat × Nat} {R : Type} (hA : GA A) {i : Int} (h0 : 0 ≤ i) (h1 : i < S 20 4) {x : Int32} {Kc : OO R} : pI (some (A 5 i)) 7 16 x Kc (Hc A P S K, z) = Kc (Hc A P S (up3 K 5 i 16 x), z) := by
  unfold pI
  rw [x_pV (hc_at hA (k := 5) (i := i) ⟨by decide, h0, h1, fun h => absurd h (by decide)⟩) (show 16 < 18 by decide)]
  congr 2
  refine hc_set hA ⟨by decide, h0, h1, fun h => absurd h (by decide)⟩ (fun k i => Iff.rfl) (fun k2 i2 _ _ hn => cell_K (fun j2 => ?_)) ?_
  · exact if_neg (fun q => hn ⟨q.1, q.2.1⟩)
  · have e1 : ∀ j : Int, j ≠ 16 → up3 K 5 i 16 x 5 i j = K 5 i j := fun j hj => up3_j hj
    show aO 7 _ = aO 7 (cLes A S (up3 K 5 i 16 x) i)
    congr 2
    simp only [cLes, up3_s, List.set_cons_zero, List.set_cons_succ, List.set, e1 11, e1 12, e1 13, e1 16, show (11 : Int) ≠ 12 by decide, show (11 : Int) ≠ 13 by decide, show (11 : Int) ≠ 16 by decide, show (12 : Int) ≠ 11 by decide, show (12 : Int) ≠ 13 by decide, show (12 : Int) ≠ 16 by decide, show (13 : Int) ≠ 11 by decide, show (13 : Int) ≠ 12 by decide, show (13 : Int) ≠ 16 by decide, show (16 : Int) ≠ 11 by decide, show (16 : Int) ≠ 12 by decide, show (16 : Int) ≠ 13 by decide, not_false_eq_true, ne_eq]
