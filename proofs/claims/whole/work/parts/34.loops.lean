/-! PURE LAYER: loops that end early; rows rewritten; bitCount -/
theorem loopD {σ R : Type} (F : Nat → σ → Option R) (st : Nat → σ) (N : Nat) (Y : Option R) (step : ∀ k f, k < N → F (f + 1) (st k) = F f (st (k + 1))) (fin : ∀ f, F (f + 1) (st N) = Y) : ∀ fuel, N < fuel → F fuel (st 0) = Y := by
  intro fuel hf
  rw [loopG F st N step fuel (by omega)]
  obtain ⟨f, hf⟩ := fuel1 hf
  rw [hf, fin]
theorem loopDE {σ τ R : Type} (F : Nat → σ → τ → Option R) (st : Nat → σ) (I : Nat → τ → Prop) (N : Nat) (Y : τ → Option R) (step : ∀ k f t, k < N → I k t → ∃ t2, I (k + 1) t2 ∧ F (f + 1) (st k) t = F f (st (k + 1)) t2) (fin : ∀ f t, I N t → F (f + 1) (st N) t = Y t) : ∀ fuel t, N < fuel → I 0 t → ∃ t2, I N t2 ∧ F fuel (st 0) t = Y t2 := by
  intro fuel t hf h0
  obtain ⟨t2, h1, h2⟩ := loopE F st I N step fuel t (by omega) h0
  obtain ⟨f, hf⟩ := fuel1 hf
  exact ⟨t2, h1, by rw [h2, hf, fin f t2 h1]⟩
def fstN (p : Nat → Bool) : Nat → Int
  | 0 => -1
  | n + 1 => if 0 ≤ fstN p n then fstN p n else if p n = true then (n : Int) else -1
theorem fstN_b (p : Nat → Bool) : ∀ n, -1 ≤ fstN p n ∧ fstN p n < n := by
  intro n
  induction n with
  | zero => exact ⟨by show (-1 : Int) ≤ -1; decide, by show (-1 : Int) < 0; decide⟩
  | succ n ih =>
    unfold fstN
    split
    · omega
    · split <;> omega
theorem fstN_p (p : Nat → Bool) : ∀ n, 0 ≤ fstN p n → p (fstN p n).toNat = true := by
  intro n
  induction n with
  | zero => intro h; exact absurd h (by show ¬ (0 : Int) ≤ -1; decide)
  | succ n ih =>
    unfold fstN
    split
    · intro h; exact ih h
    · split
      · rename_i h; intro _; simpa using h
      · intro h; exact absurd h (by decide)
theorem fstN_l (p : Nat → Bool) : ∀ n k, k < n → (fstN p n < 0 ∨ (k : Int) < fstN p n) → p k = false := by
  intro n
  induction n with
  | zero => intro k h; omega
  | succ n ih =>
    intro k hk
    unfold fstN
    have hb := fstN_b p n
    split
    · intro h
      exact ih k (by omega) (by omega)
    · rename_i h1
      split
      · intro h
        exact ih k (by omega) (by omega)
      · rename_i h2
        intro h
        by_cases e : k = n
        · subst e; simpa using h2
        · exact ih k (by omega) (by omega)
theorem fstN_u (p : Nat → Bool) (n j : Nat) (hj : j < n) (hp : p j = true) (hl : ∀ k, k < j → p k = false) : fstN p n = j := by
  have hb := fstN_b p n
  by_cases h : fstN p n < 0
  · have := fstN_l p n j hj (Or.inl h)
    rw [this] at hp
    exact absurd hp (by decide)
  · have h1 := fstN_p p n (by omega)
    have h2 : ¬ (fstN p n).toNat < j := fun q => by rw [hl _ q] at h1; exact absurd h1 (by decide)
    have h3 : ¬ (j : Int) < fstN p n := fun q => by rw [fstN_l p n j hj (Or.inr q)] at hp; exact absurd hp (by decide)
    omega
theorem fstN_n (p : Nat → Bool) (n : Nat) (hl : ∀ k, k < n → p k = false) : fstN p n = -1 := by
  have hb := fstN_b p n
  by_cases h : fstN p n < 0
  · omega
  · have h1 := fstN_p p n (by omega)
    rw [hl _ (by omega)] at h1
    exact absurd h1 (by decide)
theorem fstN_c {p q : Nat → Bool} : ∀ n, (∀ k, k < n → p k = q k) → fstN p n = fstN q n := by
  intro n
  induction n with
  | zero => intro _; rfl
  | succ n ih =>
    intro h
    unfold fstN
    rw [ih (fun k hk => h k (by omega)), h n (by omega)]
/-- a loop that ends at the first k with p k -/
theorem loopX {σ R : Type} (F : Nat → σ → Option R) (st : Nat → σ) (p : Nat → Bool) (N : Nat) (X : Nat → Option R) (Y : Option R) (step : ∀ k f, k < N → p k = false → F (f + 1) (st k) = F f (st (k + 1))) (exit : ∀ k f, k < N → p k = true → F (f + 1) (st k) = X k) (fin : ∀ f, F (f + 1) (st N) = Y) : ∀ fuel, N < fuel → F fuel (st 0) = if fstN p N < 0 then Y else X (fstN p N).toNat := by
  intro fuel hf
  have hb := fstN_b p N
  by_cases h : fstN p N < 0
  · rw [if_pos h]
    exact loopD F st N Y (fun k f hk => step k f hk (fstN_l p N k hk (Or.inl h))) fin fuel hf
  · rw [if_neg h]
    rw [loopG F st (fstN p N).toNat (fun k f hk => step k f (by omega) (fstN_l p N k (by omega) (Or.inr (by omega)))) fuel (by omega)]
    obtain ⟨f, hf2⟩ := fuel1 (N := (fstN p N).toNat) (fuel := fuel) (by omega)
    rw [hf2]
    exact exit _ f (by omega) (fstN_p p N (by omega))
def rwK (K : KK) (k : Nat) (i : Int) (n : Int) (g : Int → Int32) : KK := fun k2 i2 j2 => if k2 = k ∧ i2 = i ∧ 0 ≤ j2 ∧ j2 < n then g j2 else K k2 i2 j2
theorem rwK_s {K : KK} {k : Nat} {i n j : Int} {g : Int → Int32} (h0 : 0 ≤ j) (h1 : j < n) : rwK K k i n g k i j = g j := if_pos ⟨rfl, rfl, h0, h1⟩
theorem rwK_k {K : KK} {k k2 : Nat} {i i2 n j : Int} {g : Int → Int32} (h : k2 ≠ k) : rwK K k i n g k2 i2 j = K k2 i2 j := if_neg (fun q => h q.1)
theorem rwK_j {K : KK} {k : Nat} {i n j : Int} {g : Int → Int32} (h : n ≤ j) : rwK K k i n g k i j = K k i j := if_neg (fun q => by omega)
theorem rwK_0 (K : KK) (k : Nat) (i : Int) (g : Int → Int32) : rwK K k i 0 g = K := by
  funext k2 i2 j2
  exact if_neg (fun q => by omega)
theorem rwK_1 (K : KK) (k : Nat) (i : Int) (n : Nat) (g : Int → Int32) : up3 (rwK K k i n g) k i n (g n) = rwK K k i ((n + 1 : Nat) : Int) g := by
  funext k2 i2 j2
  unfold up3 rwK
  by_cases h : k2 = k ∧ i2 = i
  · obtain ⟨rfl, rfl⟩ := h
    by_cases h2 : j2 = n
    · subst h2
      rw [if_pos ⟨rfl, rfl, rfl⟩, if_pos ⟨rfl, rfl, by omega, by omega⟩]
    · rw [if_neg (fun q => h2 q.2.2)]
      by_cases h3 : 0 ≤ j2 ∧ j2 < n
      · rw [if_pos ⟨rfl, rfl, h3.1, h3.2⟩, if_pos ⟨rfl, rfl, h3.1, by omega⟩]
      · rw [if_neg (fun q => h3 ⟨q.2.2.1, q.2.2.2⟩), if_neg (fun q => h3 ⟨q.2.2.1, by omega⟩)]
  · rw [if_neg (fun q => h ⟨q.1, q.2.1⟩), if_neg (fun q => h ⟨q.1, q.2.1⟩), if_neg (fun q => h ⟨q.1, q.2.1⟩)]
theorem up3_up3 {K : KK} {k : Nat} {i j : Int} {x y : Int32} : up3 (up3 K k i j x) k i j y = up3 K k i j y := by
  funext k2 i2 j2
  unfold up3
  split <;> rfl
/-! bitCount -/
def popN : Nat → Nat → Nat
  | 0, _ => 0
  | n + 1, x => x % 2 + popN n (x / 2)
theorem and_split {a k : Nat} (n : Nat) (ha : a < 2 ^ n) (hk : k < 2 ^ n) (m M : Nat) : (2 ^ n * m + a) &&& (2 ^ n * M + k) = 2 ^ n * (m &&& M) + (a &&& k) := by
  have h : a &&& k < 2 ^ n := Nat.and_lt_two_pow a hk
  apply Nat.eq_of_testBit_eq
  intro j
  rw [Nat.testBit_and, Nat.testBit_two_pow_mul_add m ha, Nat.testBit_two_pow_mul_add M hk, Nat.testBit_two_pow_mul_add _ h]
  split
  · rw [Nat.testBit_and]
  · rw [Nat.testBit_and]
def st1 (x : Nat) : Nat := x - (x / 2 &&& 1431655765)
def st2 (x : Nat) : Nat := (x &&& 858993459) + (x / 4 &&& 858993459)
def st3 (x : Nat) : Nat := (x + x / 16) &&& 252645135
theorem pop_byte : ∀ a : Fin 256, ∀ c : Fin 2, (a.val / 2 + 128 * c.val) &&& 85 = a.val / 2 &&& 85 ∧ (a.val / 2 &&& 85) ≤ a.val ∧ a.val - (a.val / 2 &&& 85) < 256 := by decide +kernel
theorem pop_byte2 : ∀ a : Fin 256, ∀ c : Fin 4, (a.val / 4 + 64 * c.val) &&& 51 = a.val / 4 &&& 51 ∧ (a.val &&& 51) + (a.val / 4 &&& 51) < 256 := by decide +kernel
theorem pop_byte3 : ∀ a : Fin 256, ∀ c : Fin 16, a.val / 16 + a.val % 16 < 16 → c.val + a.val / 16 < 16 → (a.val + (a.val / 16 + 16 * c.val)) < 256 ∧ (a.val + (a.val / 16 + 16 * c.val)) &&& 15 = (a.val + a.val / 16) &&& 15 := by decide +kernel
theorem pop_all : ∀ a : Fin 256, let x := a.val - (a.val / 2 &&& 85); let y := (x &&& 51) + (x / 4 &&& 51); y / 16 + y % 16 < 16 ∧ y / 16 ≤ 4 ∧ y % 16 ≤ 4 ∧ y < 256 ∧ (y + y / 16) &&& 15 = popN 8 a.val ∧ popN 8 a.val ≤ 8 := by decide +kernel
theorem popN_add : ∀ (n m x : Nat), popN (n + m) x = popN n x + popN m (x / 2 ^ n) := by
  intro n
  induction n with
  | zero => intro m x; simp [popN]
  | succ n ih =>
    intro m x
    rw [show n + 1 + m = (n + m) + 1 by omega]
    show x % 2 + popN (n + m) (x / 2) = x % 2 + popN n (x / 2) + popN m (x / 2 ^ (n + 1))
    rw [ih, Nat.div_div_eq_div_mul, Nat.pow_succ, Nat.mul_comm 2]
    omega
theorem popN_mod : ∀ (n x : Nat), popN n (x % 2 ^ n) = popN n x := by
  intro n
  induction n with
  | zero => intro x; rfl
  | succ n ih =>
    intro x
    unfold popN
    have h1 : x % 2 ^ (n + 1) % 2 = x % 2 := by
      rw [Nat.pow_succ, Nat.mul_comm, Nat.mod_mul_right_mod]
    have h2 : x % 2 ^ (n + 1) / 2 = x / 2 % 2 ^ n := by
      rw [Nat.pow_succ, Nat.mul_comm, Nat.mod_mul_right_div_self]
    rw [h1, h2, ih]
def gst1 (M x : Nat) : Nat := x - (x / 2 &&& M)
def gst2 (M x : Nat) : Nat := (x &&& M) + (x / 4 &&& M)
def gst3 (M x : Nat) : Nat := (x + x / 16) &&& M
theorem gst1_s {M m a : Nat} (ha : a < 256) : gst1 (2 ^ 8 * M + 85) (2 ^ 8 * m + a) = 2 ^ 8 * gst1 M m + (a - (a / 2 &&& 85)) := by
  unfold gst1
  have h1 : (2 ^ 8 * m + a) / 2 = 2 ^ 8 * (m / 2) + (a / 2 + 128 * (m % 2)) := by omega
  have h2 := pop_byte ⟨a, ha⟩ ⟨m % 2, by omega⟩
  simp only at h2
  rw [h1, and_split 8 (by omega) (by decide), h2.1]
  have h3 : (m / 2 &&& M) ≤ m / 2 := Nat.and_le_left
  omega
theorem gst2_s {M m a : Nat} (ha : a < 256) : gst2 (2 ^ 8 * M + 51) (2 ^ 8 * m + a) = 2 ^ 8 * gst2 M m + ((a &&& 51) + (a / 4 &&& 51)) := by
  unfold gst2
  have h1 : (2 ^ 8 * m + a) / 4 = 2 ^ 8 * (m / 4) + (a / 4 + 64 * (m % 4)) := by omega
  have h2 := pop_byte2 ⟨a, ha⟩ ⟨m % 4, by omega⟩
  simp only at h2
  rw [h1, and_split 8 ha (by decide) m M, and_split 8 (show a / 4 + 64 * (m % 4) < 2 ^ 8 by omega) (by decide) (m / 4) M, h2.1]
  omega
theorem pop_b3 : ∀ a : Fin 69, ∀ c : Fin 5, (a.val + (a.val / 16 + 16 * c.val)) &&& 15 = (a.val + a.val / 16) &&& 15 := by decide +kernel
theorem gst3_s {M m a : Nat} (ha : a < 69) (hm : m % 16 ≤ 4) : gst3 (2 ^ 8 * M + 15) (2 ^ 8 * m + a) = 2 ^ 8 * gst3 M m + ((a + a / 16) &&& 15) := by
  unfold gst3
  have h1 : (2 ^ 8 * m + a) + (2 ^ 8 * m + a) / 16 = 2 ^ 8 * (m + m / 16) + (a + (a / 16 + 16 * (m % 16))) := by omega
  have h2 := pop_b3 ⟨a, ha⟩ ⟨m % 16, by omega⟩
  simp only at h2
  rw [h1, and_split 8 (by omega) (by decide), h2]
theorem pop_fin {a b c d : Nat} (ha : a ≤ 8) (hb : b ≤ 8) (hc : c ≤ 8) (hd : d ≤ 8) : let v3 := 2 ^ 8 * (2 ^ 8 * (2 ^ 8 * d + c) + b) + a; let v4 := v3 + v3 / 256; let v5 := v4 + v4 / 65536; v4 < 4294967296 ∧ v5 < 4294967296 ∧ v5 % 64 = a + b + c + d := by
  have e1 : (2 ^ 8 * (2 ^ 8 * (2 ^ 8 * d + c) + b) + a) / 256 = 2 ^ 8 * (2 ^ 8 * d + c) + b := by omega
  have e2 : (2 ^ 8 * (2 ^ 8 * (2 ^ 8 * d + c) + b) + a + (2 ^ 8 * (2 ^ 8 * d + c) + b)) / 65536 = 2 ^ 8 * d + c + d := by omega
  simp only [e1, e2]
  refine ⟨by omega, by omega, by omega⟩
theorem pop_32 {n : Nat} (hn : n < 4294967296) : let v1 := gst1 1431655765 n; let v2 := gst2 858993459 v1; let v3 := gst3 252645135 v2; let v4 := v3 + v3 / 256; let v5 := v4 + v4 / 65536; v1 < 4294967296 ∧ v2 < 4294967296 ∧ v2 + v2 / 16 < 4294967296 ∧ v4 < 4294967296 ∧ v5 < 4294967296 ∧ v5 % 64 = popN 32 n ∧ popN 32 n ≤ 32 := by
  obtain ⟨a, b, c, d, ha, hb, hc, hd, rfl⟩ : ∃ a b c d, a < 256 ∧ b < 256 ∧ c < 256 ∧ d < 256 ∧ n = 2 ^ 8 * (2 ^ 8 * (2 ^ 8 * d + c) + b) + a := ⟨n % 256, n / 256 % 256, n / 65536 % 256, n / 16777216, by omega, by omega, by omega, by omega, by omega⟩
  have pa := pop_all ⟨a, ha⟩
  have pb := pop_all ⟨b, hb⟩
  have pc := pop_all ⟨c, hc⟩
  have pd := pop_all ⟨d, hd⟩
  simp only at pa pb pc pd
  have e1 : gst1 1431655765 (2 ^ 8 * (2 ^ 8 * (2 ^ 8 * d + c) + b) + a) = 2 ^ 8 * (2 ^ 8 * (2 ^ 8 * (d - (d / 2 &&& 85)) + (c - (c / 2 &&& 85))) + (b - (b / 2 &&& 85))) + (a - (a / 2 &&& 85)) := by
    rw [show (1431655765 : Nat) = 2 ^ 8 * (2 ^ 8 * (2 ^ 8 * 85 + 85) + 85) + 85 by decide, gst1_s ha, gst1_s hb, gst1_s hc]
    rfl
  have sub (x : Nat) (hx : x < 256) : x - (x / 2 &&& 85) < 256 := (pop_byte ⟨x, hx⟩ 0).2.2
  have sa := sub a ha
  have sb := sub b hb
  have sc := sub c hc
  have sd := sub d hd
  generalize hxa : a - (a / 2 &&& 85) = xa at *
  generalize hxb : b - (b / 2 &&& 85) = xb at *
  generalize hxc : c - (c / 2 &&& 85) = xc at *
  generalize hxd : d - (d / 2 &&& 85) = xd at *
  have e2 : gst2 858993459 (2 ^ 8 * (2 ^ 8 * (2 ^ 8 * xd + xc) + xb) + xa) = 2 ^ 8 * (2 ^ 8 * (2 ^ 8 * ((xd &&& 51) + (xd / 4 &&& 51)) + ((xc &&& 51) + (xc / 4 &&& 51))) + ((xb &&& 51) + (xb / 4 &&& 51))) + ((xa &&& 51) + (xa / 4 &&& 51)) := by
    rw [show (858993459 : Nat) = 2 ^ 8 * (2 ^ 8 * (2 ^ 8 * 51 + 51) + 51) + 51 by decide, gst2_s sa, gst2_s sb, gst2_s sc]
    rfl
  generalize hya : (xa &&& 51) + (xa / 4 &&& 51) = ya at *
  generalize hyb : (xb &&& 51) + (xb / 4 &&& 51) = yb at *
  generalize hyc : (xc &&& 51) + (xc / 4 &&& 51) = yc at *
  generalize hyd : (xd &&& 51) + (xd / 4 &&& 51) = yd at *
  have e3 : gst3 252645135 (2 ^ 8 * (2 ^ 8 * (2 ^ 8 * yd + yc) + yb) + ya) = 2 ^ 8 * (2 ^ 8 * (2 ^ 8 * popN 8 d + popN 8 c) + popN 8 b) + popN 8 a := by
    rw [show (252645135 : Nat) = 2 ^ 8 * (2 ^ 8 * (2 ^ 8 * 15 + 15) + 15) + 15 by decide, gst3_s (by omega) (by omega), gst3_s (by omega) (by omega), gst3_s (by omega) (by omega), pa.2.2.2.2.1, pb.2.2.2.2.1, pc.2.2.2.2.1]
    show 2 ^ 8 * (2 ^ 8 * (2 ^ 8 * ((yd + yd / 16) &&& 15) + _) + _) + _ = _
    rw [pd.2.2.2.2.1]
  have e4 : popN 32 (2 ^ 8 * (2 ^ 8 * (2 ^ 8 * d + c) + b) + a) = popN 8 a + popN 8 b + popN 8 c + popN 8 d := by
    rw [popN_add 8 24, popN_add 8 16, popN_add 8 8, ← popN_mod 8 (2 ^ 8 * (2 ^ 8 * (2 ^ 8 * d + c) + b) + a), show (2 ^ 8 * (2 ^ 8 * (2 ^ 8 * d + c) + b) + a) % 2 ^ 8 = a by omega, show (2 ^ 8 * (2 ^ 8 * (2 ^ 8 * d + c) + b) + a) / 2 ^ 8 = 2 ^ 8 * (2 ^ 8 * d + c) + b by omega, ← popN_mod 8 (2 ^ 8 * (2 ^ 8 * d + c) + b), show (2 ^ 8 * (2 ^ 8 * d + c) + b) % 2 ^ 8 = b by omega, show (2 ^ 8 * (2 ^ 8 * d + c) + b) / 2 ^ 8 = 2 ^ 8 * d + c by omega, ← popN_mod 8 (2 ^ 8 * d + c), show (2 ^ 8 * d + c) % 2 ^ 8 = c by omega, show (2 ^ 8 * d + c) / 2 ^ 8 = d by omega]
    omega
  rw [e4]
  simp only [e1, e2, e3]
  have h1 := pa.2.2.2.2.2
  have h2 := pb.2.2.2.2.2
  have h3 := pc.2.2.2.2.2
  have h4 := pd.2.2.2.2.2
  have hf := pop_fin h1 h2 h3 h4
  simp only at hf
  refine ⟨by omega, by omega, by omega, hf.1, hf.2.1, hf.2.2, by omega⟩
def nU (x : Int32) : Nat := x.toBitVec.toNat
theorem nU_lt (x : Int32) : nU x < 4294967296 := x.toBitVec.isLt
theorem nU_ushr (x : Int32) {s : Nat} (h : s < 32) : nU (ushr x (iI (s : Int))) = nU x / 2 ^ s := by
  rw [ushr_s x s h]
  show (x.toBitVec >>> s).toNat = _
  rw [BitVec.toNat_ushiftRight, Nat.shiftRight_eq_div_pow]
  rfl
theorem nU_and (x y : Int32) : nU (x &&& y) = nU x &&& nU y := by
  unfold nU
  rw [Int32.toBitVec_and, BitVec.toNat_and]
theorem nU_add (x y : Int32) (h : nU x + nU y < 4294967296) : nU (x + y) = nU x + nU y := by
  unfold nU at *
  rw [Int32.toBitVec_add, BitVec.toNat_add]
  exact Nat.mod_eq_of_lt h
theorem nU_sub (x y : Int32) (h : nU y ≤ nU x) : nU (x - y) = nU x - nU y := by
  unfold nU at *
  rw [Int32.toBitVec_sub]
  exact BitVec.toNat_sub_of_le h
theorem nU_of (x : Int32) : iI (nU x : Int) = x := by
  unfold nU iI
  apply Int32.toBitVec_inj.mp
  apply BitVec.eq_of_toNat_eq
  show (Int32.ofInt (x.toBitVec.toNat : Int)).toBitVec.toNat = _
  rw [Int32.ofInt_eq_ofNat]
  show (BitVec.ofNat 32 _).toNat = _
  simp
def bcN (x : Int32) : Int := sumN (fun s => if bHas x (iI (s : Int)) = true then 1 else 0) 32
theorem bHas_n (x : Int32) {s : Nat} (h : s < 32) : (bHas x (iI (s : Int)) = true) ↔ nU x / 2 ^ s % 2 = 1 := by
  rw [bHas_bit x h]
  show x.toBitVec.toNat.testBit s = true ↔ _
  rw [Nat.testBit_eq_decide_div_mod_eq]
  simp [nU]
theorem bc_pop (x : Int32) : ∀ n, n ≤ 32 → sumN (fun s => if bHas x (iI (s : Int)) = true then 1 else 0) n = (popN n (nU x) : Int) := by
  intro n
  induction n with
  | zero => intro _; rfl
  | succ n ih =>
    intro h
    show sumN _ n + (if bHas x (iI (n : Int)) = true then (1 : Int) else 0) = _
    rw [ih (by omega), popN_add n 1]
    have h2 := bHas_n x (s := n) (by omega)
    have h3 : popN 1 (nU x / 2 ^ n) = nU x / 2 ^ n % 2 := by
      show nU x / 2 ^ n % 2 + popN 0 _ = _
      rfl
    rw [h3]
    by_cases c : bHas x (iI (n : Int)) = true
    · rw [if_pos c]
      have := h2.mp c
      omega
    · rw [if_neg c]
      have : ¬ nU x / 2 ^ n % 2 = 1 := fun q => c (h2.mpr q)
      omega
theorem e_bitCount (x : Int32) (hs : Hs) : f_J6_bitCount_0f7a4 x hs = some (.ok (iI (bcN x)), hs) := by
  unfold f_J6_bitCount_0f7a4
  simp only [e_lets]
  have hp := pop_32 (nU_lt x)
  simp only at hp
  obtain ⟨p1, p2, p3, p4, p5, p6, p7⟩ := hp
  have u1 : ∀ y : Int32, nU (ushr y (1 : Int32)) = nU y / 2 := fun y => by rw [li_1]; exact nU_ushr y (s := 1) (by decide)
  have u2 : ∀ y : Int32, nU (ushr y (2 : Int32)) = nU y / 4 := fun y => by rw [li_2]; exact nU_ushr y (s := 2) (by decide)
  have u4 : ∀ y : Int32, nU (ushr y (4 : Int32)) = nU y / 16 := fun y => by rw [li_4]; exact nU_ushr y (s := 4) (by decide)
  have u8 : ∀ y : Int32, nU (ushr y (8 : Int32)) = nU y / 256 := fun y => by rw [li_8]; exact nU_ushr y (s := 8) (by decide)
  have u16 : ∀ y : Int32, nU (ushr y (16 : Int32)) = nU y / 65536 := fun y => by rw [li_16]; exact nU_ushr y (s := 16) (by decide)
  have c1 : nU (1431655765 : Int32) = 1431655765 := by decide
  have c2 : nU (858993459 : Int32) = 858993459 := by decide
  have c3 : nU (252645135 : Int32) = 252645135 := by decide
  have c4 : nU (63 : Int32) = 63 := by decide
  have v1 : nU (x - (ushr x (1 : Int32) &&& (1431655765 : Int32))) = gst1 1431655765 (nU x) := by
    rw [nU_sub _ _ (by rw [nU_and, u1, c1]; exact Nat.le_trans Nat.and_le_left (Nat.div_le_self _ _)), nU_and, u1, c1]
    rfl
  generalize x - (ushr x (1 : Int32) &&& (1431655765 : Int32)) = y1 at v1 ⊢
  have v2 : nU ((y1 &&& (858993459 : Int32)) + (ushr y1 (2 : Int32) &&& (858993459 : Int32))) = gst2 858993459 (nU y1) := by
    rw [nU_add _ _ (by rw [nU_and, nU_and, u2, c2, v1]; exact p2), nU_and, nU_and, u2, c2]
    rfl
  generalize (y1 &&& (858993459 : Int32)) + (ushr y1 (2 : Int32) &&& (858993459 : Int32)) = y2 at v2 ⊢
  rw [v1] at v2
  have v3 : nU ((y2 + ushr y2 (4 : Int32)) &&& (252645135 : Int32)) = gst3 252645135 (nU y2) := by
    rw [nU_and, nU_add _ _ (by rw [u4, v2]; exact p3), u4, c3]
    rfl
  generalize (y2 + ushr y2 (4 : Int32)) &&& (252645135 : Int32) = y3 at v3 ⊢
  rw [v2] at v3
  have v4 : nU (y3 + ushr y3 (8 : Int32)) = nU y3 + nU y3 / 256 := by
    rw [nU_add _ _ (by rw [u8, v3]; exact p4), u8]
  generalize y3 + ushr y3 (8 : Int32) = y4 at v4 ⊢
  rw [v3] at v4
  have v5 : nU (y4 + ushr y4 (16 : Int32)) = nU y4 + nU y4 / 65536 := by
    rw [nU_add _ _ (by rw [u16, v4]; exact p5), u16]
  generalize y4 + ushr y4 (16 : Int32) = y5 at v5 ⊢
  rw [v4] at v5
  have v6 : nU (y5 &&& (63 : Int32)) = popN 32 (nU x) := by
    rw [nU_and, c4, v5, ← p6]
    exact Nat.and_two_pow_sub_one_eq_mod _ 6
  show some (Except.ok (y5 &&& (63 : Int32)), hs) = _
  have v7 : y5 &&& (63 : Int32) = iI (bcN x) := by
    rw [← nU_of (y5 &&& (63 : Int32)), v6]
    unfold bcN
    rw [bc_pop x 32 (by decide)]
  rw [v7]
theorem bcN_b (x : Int32) : 0 ≤ bcN x ∧ bcN x ≤ 32 := by
  unfold bcN
  rw [bc_pop x 32 (by decide)]
  have := (pop_32 (nU_lt x)).2.2.2.2.2.2
  omega
