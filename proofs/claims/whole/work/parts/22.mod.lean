/-! PURE LAYER: the reference's cells. S f i: field f at i; f = 20: the numbers thrown, rooms, teachers, groups, lessons, versions, today, weeks -/
def mA (m0 k : Nat) : Nat := m0 + 1 + k
def mTy (k : Nat) : Nat := if k = 7 ∨ k = 8 then 1 else 0
def mLen (k : Nat) : Nat := [8, 8, 8, 8, 8, 8, 240, 8, 16, 16, 16, 16, 16, 16, 16, 4, 96, 16, 3, 16].getD k 0
abbrev SS : Type := Nat → Int → Int
def mO (m0 : Nat) (S : SS) : Ce := aO 12 ((List.range 20).map (fun k : Nat => Value.ref (mA m0 k)) ++ (List.range 8).map (fun k : Nat => Value.int (iI (S 20 (k : Int)))))
def MR (S : SS) (m0 : Nat) (hs : Hs) : Prop := hs.1 m0 = some (mO m0 S) ∧ ∀ k, k < 20 → hs.1 (mA m0 k) = some (aI (mTy k) (mLen k) (fun i => iI (S k (i : Int))))
theorem mO_ref (m0 : Nat) (S : SS) {k : Nat} (hk : k < 20) : ((List.range 20).map (fun k : Nat => Value.ref (mA m0 k)) ++ (List.range 8).map (fun k : Nat => Value.int (iI (S 20 (k : Int)))))[k]? = some (.ref (mA m0 k)) := by
  rw [List.getElem?_append_left (by simpa using hk)]
  simp [hk]
theorem mO_int (m0 : Nat) (S : SS) {k : Nat} (h1 : 20 ≤ k) (hk : k < 28) : ((List.range 20).map (fun k : Nat => Value.ref (mA m0 k)) ++ (List.range 8).map (fun k : Nat => Value.int (iI (S 20 (k : Int)))))[k]? = some (.int (iI (S 20 ((k - 20 : Nat) : Int)))) := by
  rw [List.getElem?_append_right (by simpa using h1)]
  simp only [List.length_map, List.length_range, List.getElem?_map]
  rw [List.getElem?_range (by omega)]
  rfl
theorem x_gR {R : Type} {a c k x : Nat} {fs : List Value} {K : Option Nat → OO R} {hs : Hs} (h1 : hs.1 a = some (.inr (c, fs))) (h2 : fs[k]? = some (.ref x)) : gR (some a) c k K hs = K (some x) hs := by
  simp only [gR, h1, h2, if_true]
theorem x_gN {R : Type} {a c k : Nat} {fs : List Value} {K : Option Nat → OO R} {hs : Hs} (h1 : hs.1 a = some (.inr (c, fs))) (h2 : fs[k]? = some .null) : gR (some a) c k K hs = K none hs := by
  simp only [gR, h1, h2, if_true]
theorem x_gI {R : Type} {a c k : Nat} {x : Int32} {fs : List Value} {K : Int32 → OO R} {hs : Hs} (h1 : hs.1 a = some (.inr (c, fs))) (h2 : fs[k]? = some (.int x)) : gI (some a) c k K hs = K x hs := by
  simp only [gI, h1, h2, if_true]
theorem x_rcv {R : Type} {a c : Nat} {fs : List Value} {K : Nat → OO R} {hs : Hs} (h1 : hs.1 a = some (.inr (c, fs))) : rcv (some a) c K hs = K a hs := by
  simp only [rcv, h1, if_true]
theorem x_ld {R : Type} {a t n : Nat} {f : Nat → Int32} {i : Int32} {K : Int32 → OO R} {hs : Hs} (h1 : hs.1 a = some (.inl (t, n, .inl f))) (h2 : ¬ (i < 0 ∨ n ≤ i.toNatClampNeg)) : ldI t (some a) i K hs = K (f i.toNatClampNeg) hs := by
  simp only [ldI, h1, h2, true_and, not_false_eq_true, if_true]
theorem mLen_le (k : Nat) : mLen k ≤ 240 := by
  by_cases hk : k < 20
  · exact (show ∀ k : Fin 20, mLen k.val ≤ 240 by decide) ⟨k, hk⟩
  · unfold mLen
    rw [List.getD_eq_getElem?_getD, List.getElem?_eq_none (by simpa using hk)]
    decide
section MM
variable {S : SS} {m0 : Nat} {hs : Hs} {R : Type}
theorem m_gR (h : MR S m0 hs) {k : Nat} {K : Option Nat → OO R} (hk : k < 20) : gR (some m0) 12 k K hs = K (some (mA m0 k)) hs := x_gR h.1 (mO_ref m0 S hk)
theorem m_gI (h : MR S m0 hs) {k : Nat} {K : Int32 → OO R} (h1 : 20 ≤ k) (hk : k < 28) : gI (some m0) 12 k K hs = K (iI (S 20 ((k - 20 : Nat) : Int))) hs := x_gI h.1 (mO_int m0 S h1 hk)
theorem m_rcv (h : MR S m0 hs) {K : Nat → OO R} : rcv (some m0) 12 K hs = K m0 hs := x_rcv h.1
theorem m_ld (h : MR S m0 hs) {k : Nat} {i : Int} {K : Int32 → OO R} (t : Nat) (hk : k < 20) (ht : mTy k = t) (h0 : 0 ≤ i) (h1 : i < mLen k) : ldI t (some (mA m0 k)) (iI i) K hs = K (iI (S k i)) hs := by
  have hl := mLen_le k
  subst ht
  rw [x_ld (h.2 k hk) (iI_in h0 h1 (by omega)), iI_clamp h0 (by omega), Int.toNat_of_nonneg h0]
end MM
theorem e_rtn {R : Type} (r : R) (hs : Hs) : rtn r hs = some (.ok r, hs) := rfl
theorem e_ret0 (hs : Hs) : retZ 0 hs = some (.ok 0, hs) := rfl
theorem e_ret1 (hs : Hs) : retZ 1 hs = some (.ok 1, hs) := rfl
theorem e_call {R S1 : Type} {m : OO S1} {K : S1 → OO R} {KX : Nat → OO R} {hs hs1 : Hs} {r : S1} (h : m hs = some (.ok r, hs1)) : call m K KX hs = K r hs1 := by
  unfold call
  rw [h]
theorem e_dvz {R : Type} {y : Int32} {K : OO R} {hs : Hs} (h : ¬ y = 0) : dvz y K hs = K hs := by
  unfold dvz
  rw [if_neg h]
theorem e_ite {R : Type} {c : Prop} [Decidable c] (A B : OO R) (hs : Hs) : (if c then A else B) hs = if c then A hs else B hs := by
  split <;> rfl

theorem li_0 : (0 : Int32) = iI 0 := by decide +kernel
theorem li_1 : (1 : Int32) = iI 1 := by decide +kernel
theorem li_2 : (2 : Int32) = iI 2 := by decide +kernel
theorem li_3 : (3 : Int32) = iI 3 := by decide +kernel
theorem li_4 : (4 : Int32) = iI 4 := by decide +kernel
theorem li_5 : (5 : Int32) = iI 5 := by decide +kernel
theorem li_6 : (6 : Int32) = iI 6 := by decide +kernel
theorem li_7 : (7 : Int32) = iI 7 := by decide +kernel
theorem li_8 : (8 : Int32) = iI 8 := by decide +kernel
theorem li_9 : (9 : Int32) = iI 9 := by decide +kernel
theorem li_10 : (10 : Int32) = iI 10 := by decide +kernel
theorem li_11 : (11 : Int32) = iI 11 := by decide +kernel
theorem li_12 : (12 : Int32) = iI 12 := by decide +kernel
theorem li_13 : (13 : Int32) = iI 13 := by decide +kernel
theorem li_14 : (14 : Int32) = iI 14 := by decide +kernel
theorem li_15 : (15 : Int32) = iI 15 := by decide +kernel
theorem li_16 : (16 : Int32) = iI 16 := by decide +kernel
theorem li_17 : (17 : Int32) = iI 17 := by decide +kernel
theorem li_18 : (18 : Int32) = iI 18 := by decide +kernel
theorem li_19 : (19 : Int32) = iI 19 := by decide +kernel
theorem li_20 : (20 : Int32) = iI 20 := by decide +kernel
theorem li_21 : (21 : Int32) = iI 21 := by decide +kernel
theorem li_22 : (22 : Int32) = iI 22 := by decide +kernel
theorem li_23 : (23 : Int32) = iI 23 := by decide +kernel
theorem li_24 : (24 : Int32) = iI 24 := by decide +kernel
theorem li_25 : (25 : Int32) = iI 25 := by decide +kernel
theorem li_26 : (26 : Int32) = iI 26 := by decide +kernel
theorem li_27 : (27 : Int32) = iI 27 := by decide +kernel
theorem li_28 : (28 : Int32) = iI 28 := by decide +kernel
theorem li_29 : (29 : Int32) = iI 29 := by decide +kernel
theorem li_30 : (30 : Int32) = iI 30 := by decide +kernel
theorem li_31 : (31 : Int32) = iI 31 := by decide +kernel
theorem li_32 : (32 : Int32) = iI 32 := by decide +kernel
theorem li_63 : (63 : Int32) = iI 63 := by decide +kernel
theorem li_64 : (64 : Int32) = iI 64 := by decide +kernel
theorem li_99 : (99 : Int32) = iI 99 := by decide +kernel
theorem li_100 : (100 : Int32) = iI 100 := by decide +kernel
theorem li_128 : (128 : Int32) = iI 128 := by decide +kernel
theorem li_240 : (240 : Int32) = iI 240 := by decide +kernel
theorem li_256 : (256 : Int32) = iI 256 := by decide +kernel
theorem li_512 : (512 : Int32) = iI 512 := by decide +kernel
theorem li_960 : (960 : Int32) = iI 960 := by decide +kernel
theorem li_1000 : (1000 : Int32) = iI 1000 := by decide +kernel
theorem li_1022 : (1022 : Int32) = iI 1022 := by decide +kernel
theorem li_1023 : (1023 : Int32) = iI 1023 := by decide +kernel
theorem li_100000 : (100000 : Int32) = iI 100000 := by decide +kernel
theorem li_m1 : (-1 : Int32) = iI (-1) := by decide +kernel
theorem m_ld0 {S : SS} {m0 : Nat} {hs : Hs} {R : Type} (h : MR S m0 hs) {i : Int} {K : Int32 → OO R} (h0 : 0 ≤ i) (h1 : i < 8) : ldI 0 (some (mA m0 0)) (iI i) K hs = K (iI (S 0 i)) hs := m_ld h 0 (by decide) rfl h0 (by exact h1)
theorem m_g0 {S : SS} {m0 : Nat} {hs : Hs} {R : Type} (h : MR S m0 hs) {K : Option Nat → OO R} : gR (some m0) 12 0 K hs = K (some (mA m0 0)) hs := m_gR h (by decide)
theorem m_ld1 {S : SS} {m0 : Nat} {hs : Hs} {R : Type} (h : MR S m0 hs) {i : Int} {K : Int32 → OO R} (h0 : 0 ≤ i) (h1 : i < 8) : ldI 0 (some (mA m0 1)) (iI i) K hs = K (iI (S 1 i)) hs := m_ld h 0 (by decide) rfl h0 (by exact h1)
theorem m_g1 {S : SS} {m0 : Nat} {hs : Hs} {R : Type} (h : MR S m0 hs) {K : Option Nat → OO R} : gR (some m0) 12 1 K hs = K (some (mA m0 1)) hs := m_gR h (by decide)
theorem m_ld2 {S : SS} {m0 : Nat} {hs : Hs} {R : Type} (h : MR S m0 hs) {i : Int} {K : Int32 → OO R} (h0 : 0 ≤ i) (h1 : i < 8) : ldI 0 (some (mA m0 2)) (iI i) K hs = K (iI (S 2 i)) hs := m_ld h 0 (by decide) rfl h0 (by exact h1)
theorem m_g2 {S : SS} {m0 : Nat} {hs : Hs} {R : Type} (h : MR S m0 hs) {K : Option Nat → OO R} : gR (some m0) 12 2 K hs = K (some (mA m0 2)) hs := m_gR h (by decide)
theorem m_ld3 {S : SS} {m0 : Nat} {hs : Hs} {R : Type} (h : MR S m0 hs) {i : Int} {K : Int32 → OO R} (h0 : 0 ≤ i) (h1 : i < 8) : ldI 0 (some (mA m0 3)) (iI i) K hs = K (iI (S 3 i)) hs := m_ld h 0 (by decide) rfl h0 (by exact h1)
theorem m_g3 {S : SS} {m0 : Nat} {hs : Hs} {R : Type} (h : MR S m0 hs) {K : Option Nat → OO R} : gR (some m0) 12 3 K hs = K (some (mA m0 3)) hs := m_gR h (by decide)
theorem m_ld4 {S : SS} {m0 : Nat} {hs : Hs} {R : Type} (h : MR S m0 hs) {i : Int} {K : Int32 → OO R} (h0 : 0 ≤ i) (h1 : i < 8) : ldI 0 (some (mA m0 4)) (iI i) K hs = K (iI (S 4 i)) hs := m_ld h 0 (by decide) rfl h0 (by exact h1)
theorem m_g4 {S : SS} {m0 : Nat} {hs : Hs} {R : Type} (h : MR S m0 hs) {K : Option Nat → OO R} : gR (some m0) 12 4 K hs = K (some (mA m0 4)) hs := m_gR h (by decide)
theorem m_ld5 {S : SS} {m0 : Nat} {hs : Hs} {R : Type} (h : MR S m0 hs) {i : Int} {K : Int32 → OO R} (h0 : 0 ≤ i) (h1 : i < 8) : ldI 0 (some (mA m0 5)) (iI i) K hs = K (iI (S 5 i)) hs := m_ld h 0 (by decide) rfl h0 (by exact h1)
theorem m_g5 {S : SS} {m0 : Nat} {hs : Hs} {R : Type} (h : MR S m0 hs) {K : Option Nat → OO R} : gR (some m0) 12 5 K hs = K (some (mA m0 5)) hs := m_gR h (by decide)
theorem m_ld6 {S : SS} {m0 : Nat} {hs : Hs} {R : Type} (h : MR S m0 hs) {i : Int} {K : Int32 → OO R} (h0 : 0 ≤ i) (h1 : i < 240) : ldI 0 (some (mA m0 6)) (iI i) K hs = K (iI (S 6 i)) hs := m_ld h 0 (by decide) rfl h0 (by exact h1)
theorem m_g6 {S : SS} {m0 : Nat} {hs : Hs} {R : Type} (h : MR S m0 hs) {K : Option Nat → OO R} : gR (some m0) 12 6 K hs = K (some (mA m0 6)) hs := m_gR h (by decide)
theorem m_ld7 {S : SS} {m0 : Nat} {hs : Hs} {R : Type} (h : MR S m0 hs) {i : Int} {K : Int32 → OO R} (h0 : 0 ≤ i) (h1 : i < 8) : ldI 1 (some (mA m0 7)) (iI i) K hs = K (iI (S 7 i)) hs := m_ld h 1 (by decide) rfl h0 (by exact h1)
theorem m_g7 {S : SS} {m0 : Nat} {hs : Hs} {R : Type} (h : MR S m0 hs) {K : Option Nat → OO R} : gR (some m0) 12 7 K hs = K (some (mA m0 7)) hs := m_gR h (by decide)
theorem m_ld8 {S : SS} {m0 : Nat} {hs : Hs} {R : Type} (h : MR S m0 hs) {i : Int} {K : Int32 → OO R} (h0 : 0 ≤ i) (h1 : i < 16) : ldI 1 (some (mA m0 8)) (iI i) K hs = K (iI (S 8 i)) hs := m_ld h 1 (by decide) rfl h0 (by exact h1)
theorem m_g8 {S : SS} {m0 : Nat} {hs : Hs} {R : Type} (h : MR S m0 hs) {K : Option Nat → OO R} : gR (some m0) 12 8 K hs = K (some (mA m0 8)) hs := m_gR h (by decide)
theorem m_ld9 {S : SS} {m0 : Nat} {hs : Hs} {R : Type} (h : MR S m0 hs) {i : Int} {K : Int32 → OO R} (h0 : 0 ≤ i) (h1 : i < 16) : ldI 0 (some (mA m0 9)) (iI i) K hs = K (iI (S 9 i)) hs := m_ld h 0 (by decide) rfl h0 (by exact h1)
theorem m_g9 {S : SS} {m0 : Nat} {hs : Hs} {R : Type} (h : MR S m0 hs) {K : Option Nat → OO R} : gR (some m0) 12 9 K hs = K (some (mA m0 9)) hs := m_gR h (by decide)
theorem m_ld10 {S : SS} {m0 : Nat} {hs : Hs} {R : Type} (h : MR S m0 hs) {i : Int} {K : Int32 → OO R} (h0 : 0 ≤ i) (h1 : i < 16) : ldI 0 (some (mA m0 10)) (iI i) K hs = K (iI (S 10 i)) hs := m_ld h 0 (by decide) rfl h0 (by exact h1)
theorem m_g10 {S : SS} {m0 : Nat} {hs : Hs} {R : Type} (h : MR S m0 hs) {K : Option Nat → OO R} : gR (some m0) 12 10 K hs = K (some (mA m0 10)) hs := m_gR h (by decide)
theorem m_ld11 {S : SS} {m0 : Nat} {hs : Hs} {R : Type} (h : MR S m0 hs) {i : Int} {K : Int32 → OO R} (h0 : 0 ≤ i) (h1 : i < 16) : ldI 0 (some (mA m0 11)) (iI i) K hs = K (iI (S 11 i)) hs := m_ld h 0 (by decide) rfl h0 (by exact h1)
theorem m_g11 {S : SS} {m0 : Nat} {hs : Hs} {R : Type} (h : MR S m0 hs) {K : Option Nat → OO R} : gR (some m0) 12 11 K hs = K (some (mA m0 11)) hs := m_gR h (by decide)
theorem m_ld12 {S : SS} {m0 : Nat} {hs : Hs} {R : Type} (h : MR S m0 hs) {i : Int} {K : Int32 → OO R} (h0 : 0 ≤ i) (h1 : i < 16) : ldI 0 (some (mA m0 12)) (iI i) K hs = K (iI (S 12 i)) hs := m_ld h 0 (by decide) rfl h0 (by exact h1)
theorem m_g12 {S : SS} {m0 : Nat} {hs : Hs} {R : Type} (h : MR S m0 hs) {K : Option Nat → OO R} : gR (some m0) 12 12 K hs = K (some (mA m0 12)) hs := m_gR h (by decide)
theorem m_ld13 {S : SS} {m0 : Nat} {hs : Hs} {R : Type} (h : MR S m0 hs) {i : Int} {K : Int32 → OO R} (h0 : 0 ≤ i) (h1 : i < 16) : ldI 0 (some (mA m0 13)) (iI i) K hs = K (iI (S 13 i)) hs := m_ld h 0 (by decide) rfl h0 (by exact h1)
theorem m_g13 {S : SS} {m0 : Nat} {hs : Hs} {R : Type} (h : MR S m0 hs) {K : Option Nat → OO R} : gR (some m0) 12 13 K hs = K (some (mA m0 13)) hs := m_gR h (by decide)
theorem m_ld14 {S : SS} {m0 : Nat} {hs : Hs} {R : Type} (h : MR S m0 hs) {i : Int} {K : Int32 → OO R} (h0 : 0 ≤ i) (h1 : i < 16) : ldI 0 (some (mA m0 14)) (iI i) K hs = K (iI (S 14 i)) hs := m_ld h 0 (by decide) rfl h0 (by exact h1)
theorem m_g14 {S : SS} {m0 : Nat} {hs : Hs} {R : Type} (h : MR S m0 hs) {K : Option Nat → OO R} : gR (some m0) 12 14 K hs = K (some (mA m0 14)) hs := m_gR h (by decide)
theorem m_ld15 {S : SS} {m0 : Nat} {hs : Hs} {R : Type} (h : MR S m0 hs) {i : Int} {K : Int32 → OO R} (h0 : 0 ≤ i) (h1 : i < 4) : ldI 0 (some (mA m0 15)) (iI i) K hs = K (iI (S 15 i)) hs := m_ld h 0 (by decide) rfl h0 (by exact h1)
theorem m_g15 {S : SS} {m0 : Nat} {hs : Hs} {R : Type} (h : MR S m0 hs) {K : Option Nat → OO R} : gR (some m0) 12 15 K hs = K (some (mA m0 15)) hs := m_gR h (by decide)
theorem m_ld16 {S : SS} {m0 : Nat} {hs : Hs} {R : Type} (h : MR S m0 hs) {i : Int} {K : Int32 → OO R} (h0 : 0 ≤ i) (h1 : i < 96) : ldI 0 (some (mA m0 16)) (iI i) K hs = K (iI (S 16 i)) hs := m_ld h 0 (by decide) rfl h0 (by exact h1)
theorem m_g16 {S : SS} {m0 : Nat} {hs : Hs} {R : Type} (h : MR S m0 hs) {K : Option Nat → OO R} : gR (some m0) 12 16 K hs = K (some (mA m0 16)) hs := m_gR h (by decide)
theorem m_ld17 {S : SS} {m0 : Nat} {hs : Hs} {R : Type} (h : MR S m0 hs) {i : Int} {K : Int32 → OO R} (h0 : 0 ≤ i) (h1 : i < 16) : ldI 0 (some (mA m0 17)) (iI i) K hs = K (iI (S 17 i)) hs := m_ld h 0 (by decide) rfl h0 (by exact h1)
theorem m_g17 {S : SS} {m0 : Nat} {hs : Hs} {R : Type} (h : MR S m0 hs) {K : Option Nat → OO R} : gR (some m0) 12 17 K hs = K (some (mA m0 17)) hs := m_gR h (by decide)
theorem m_ld18 {S : SS} {m0 : Nat} {hs : Hs} {R : Type} (h : MR S m0 hs) {i : Int} {K : Int32 → OO R} (h0 : 0 ≤ i) (h1 : i < 3) : ldI 0 (some (mA m0 18)) (iI i) K hs = K (iI (S 18 i)) hs := m_ld h 0 (by decide) rfl h0 (by exact h1)
theorem m_g18 {S : SS} {m0 : Nat} {hs : Hs} {R : Type} (h : MR S m0 hs) {K : Option Nat → OO R} : gR (some m0) 12 18 K hs = K (some (mA m0 18)) hs := m_gR h (by decide)
theorem m_ld19 {S : SS} {m0 : Nat} {hs : Hs} {R : Type} (h : MR S m0 hs) {i : Int} {K : Int32 → OO R} (h0 : 0 ≤ i) (h1 : i < 16) : ldI 0 (some (mA m0 19)) (iI i) K hs = K (iI (S 19 i)) hs := m_ld h 0 (by decide) rfl h0 (by exact h1)
theorem m_g19 {S : SS} {m0 : Nat} {hs : Hs} {R : Type} (h : MR S m0 hs) {K : Option Nat → OO R} : gR (some m0) 12 19 K hs = K (some (mA m0 19)) hs := m_gR h (by decide)
theorem m_g20 {S : SS} {m0 : Nat} {hs : Hs} {R : Type} (h : MR S m0 hs) {K : Int32 → OO R} : gI (some m0) 12 20 K hs = K (iI (S 20 0)) hs := m_gI h (by decide) (by decide)
theorem m_g21 {S : SS} {m0 : Nat} {hs : Hs} {R : Type} (h : MR S m0 hs) {K : Int32 → OO R} : gI (some m0) 12 21 K hs = K (iI (S 20 1)) hs := m_gI h (by decide) (by decide)
theorem m_g22 {S : SS} {m0 : Nat} {hs : Hs} {R : Type} (h : MR S m0 hs) {K : Int32 → OO R} : gI (some m0) 12 22 K hs = K (iI (S 20 2)) hs := m_gI h (by decide) (by decide)
theorem m_g23 {S : SS} {m0 : Nat} {hs : Hs} {R : Type} (h : MR S m0 hs) {K : Int32 → OO R} : gI (some m0) 12 23 K hs = K (iI (S 20 3)) hs := m_gI h (by decide) (by decide)
theorem m_g24 {S : SS} {m0 : Nat} {hs : Hs} {R : Type} (h : MR S m0 hs) {K : Int32 → OO R} : gI (some m0) 12 24 K hs = K (iI (S 20 4)) hs := m_gI h (by decide) (by decide)
theorem m_g25 {S : SS} {m0 : Nat} {hs : Hs} {R : Type} (h : MR S m0 hs) {K : Int32 → OO R} : gI (some m0) 12 25 K hs = K (iI (S 20 5)) hs := m_gI h (by decide) (by decide)
theorem m_g26 {S : SS} {m0 : Nat} {hs : Hs} {R : Type} (h : MR S m0 hs) {K : Int32 → OO R} : gI (some m0) 12 26 K hs = K (iI (S 20 6)) hs := m_gI h (by decide) (by decide)
theorem m_g27 {S : SS} {m0 : Nat} {hs : Hs} {R : Type} (h : MR S m0 hs) {K : Int32 → OO R} : gI (some m0) 12 27 K hs = K (iI (S 20 7)) hs := m_gI h (by decide) (by decide)
theorem e_r0 (hs : Hs) : retZ (iI 0) hs = some (.ok (iI 0), hs) := by rw [← li_0]; rfl
theorem e_r1 (hs : Hs) : retZ (iI 1) hs = some (.ok (iI 1), hs) := by rw [← li_1]; rfl
theorem e_lets {R α : Type} (x : α) (K : α → OO R) : lets x K = K x := rfl
theorem e_dv {R : Type} {b : Int} {K : OO R} {hs : Hs} (h1 : 0 < b) (h2 : b < 2147483648) : dvz (iI b) K hs = K hs := e_dvz (fun h => by
  rw [li_0] at h
  have := (iI_eq (by omega) (by omega) (by omega) (by omega)).mp h
  omega)
theorem iI_lit0 : iI 0 = 0 := li_0.symm
def clV {R S1 : Type} (x : Option (Except Nat S1 × Hs)) (K : S1 → OO R) (KX : Nat → OO R) : Option (Except Nat R × Hs) := match x with
  | some (.ok r, hs1) => K r hs1
  | some (.error k, hs1) => KX k hs1
  | none => none
theorem e_cal {R S1 : Type} (m : OO S1) (K : S1 → OO R) (KX : Nat → OO R) (hs : Hs) : call m K KX hs = clV (m hs) K KX := rfl
theorem e_cal2 {R S1 : Type} (r : S1) (hs1 : Hs) (K : S1 → OO R) (KX : Nat → OO R) : clV (some (.ok r, hs1)) K KX = K r hs1 := rfl
theorem e_X9_isPlaced {S : SS} {m0 : Nat} {hs : Hs} (h : MR S m0 hs) {l : Int} (h0l : 0 ≤ l) (h1l : l < 16) (hpl : -1 ≤ S 14 l ∧ S 14 l < 240)  : f_X9_isPlaced m0 (iI l) hs = some (.ok (iI (if 0 ≤ S 14 l then 1 else 0)), hs) := by
  unfold f_X9_isPlaced
  simp (disch := omega) only [↓reduceIte, ↓e_lets, ↓e_ite, ↓e_cal, e_cal2, ↓u_f_X9_both, e_rtn, e_r0, e_r1, e_dv, ↓m_rcv h, iI_add, iI_sub, iI_mul, iI_div, iI_rem, iI_lt, iI_le, iI_eq, li_0, li_1, li_2, li_3, li_4, li_5, li_6, li_7, li_8, li_9, li_10, li_11, li_12, li_13, li_14, li_15, li_16, li_17, li_18, li_19, li_20, li_21, li_22, li_23, li_24, li_25, li_26, li_27, li_28, li_29, li_30, li_31, li_32, li_63, li_64, li_99, li_100, li_128, li_240, li_256, li_512, li_960, li_1000, li_1022, li_1023, li_100000, li_m1, m_ld0 h, m_ld1 h, m_ld2 h, m_ld3 h, m_ld4 h, m_ld5 h, m_ld6 h, m_ld7 h, m_ld8 h, m_ld9 h, m_ld10 h, m_ld11 h, m_ld12 h, m_ld13 h, m_ld14 h, m_ld15 h, m_ld16 h, m_ld17 h, m_ld18 h, m_ld19 h, ↓m_g0 h, ↓m_g1 h, ↓m_g2 h, ↓m_g3 h, ↓m_g4 h, ↓m_g5 h, ↓m_g6 h, ↓m_g7 h, ↓m_g8 h, ↓m_g9 h, ↓m_g10 h, ↓m_g11 h, ↓m_g12 h, ↓m_g13 h, ↓m_g14 h, ↓m_g15 h, ↓m_g16 h, ↓m_g17 h, ↓m_g18 h, ↓m_g19 h, ↓m_g20 h, ↓m_g21 h, ↓m_g22 h, ↓m_g23 h, ↓m_g24 h, ↓m_g25 h, ↓m_g26 h, ↓m_g27 h]
  all_goals repeat' split
  all_goals first | rfl | (exfalso; omega) | skip
theorem e_X9_slotOf {S : SS} {m0 : Nat} {hs : Hs} (h : MR S m0 hs) {l : Int} (h0l : 0 ≤ l) (h1l : l < 16) (hp : 0 ≤ S 14 l ∧ S 14 l < 240) : f_X9_slotOf m0 (iI l) hs = some (.ok (iI (S 14 l / 8)), hs) := by
  unfold f_X9_slotOf
  simp (disch := omega) only [↓reduceIte, ↓e_lets, ↓e_ite, ↓e_cal, e_cal2, ↓u_f_X9_both, e_rtn, e_r0, e_r1, e_dv, ↓m_rcv h, iI_add, iI_sub, iI_mul, iI_div, iI_rem, iI_lt, iI_le, iI_eq, li_0, li_1, li_2, li_3, li_4, li_5, li_6, li_7, li_8, li_9, li_10, li_11, li_12, li_13, li_14, li_15, li_16, li_17, li_18, li_19, li_20, li_21, li_22, li_23, li_24, li_25, li_26, li_27, li_28, li_29, li_30, li_31, li_32, li_63, li_64, li_99, li_100, li_128, li_240, li_256, li_512, li_960, li_1000, li_1022, li_1023, li_100000, li_m1, m_ld0 h, m_ld1 h, m_ld2 h, m_ld3 h, m_ld4 h, m_ld5 h, m_ld6 h, m_ld7 h, m_ld8 h, m_ld9 h, m_ld10 h, m_ld11 h, m_ld12 h, m_ld13 h, m_ld14 h, m_ld15 h, m_ld16 h, m_ld17 h, m_ld18 h, m_ld19 h, ↓m_g0 h, ↓m_g1 h, ↓m_g2 h, ↓m_g3 h, ↓m_g4 h, ↓m_g5 h, ↓m_g6 h, ↓m_g7 h, ↓m_g8 h, ↓m_g9 h, ↓m_g10 h, ↓m_g11 h, ↓m_g12 h, ↓m_g13 h, ↓m_g14 h, ↓m_g15 h, ↓m_g16 h, ↓m_g17 h, ↓m_g18 h, ↓m_g19 h, ↓m_g20 h, ↓m_g21 h, ↓m_g22 h, ↓m_g23 h, ↓m_g24 h, ↓m_g25 h, ↓m_g26 h, ↓m_g27 h]
theorem e_X9_endFrom {S : SS} {m0 : Nat} {hs : Hs} (h : MR S m0 hs) {l : Int} (h0l : 0 ≤ l) (h1l : l < 16) {s : Int} (hs0 : 0 ≤ s) (hs1 : s < 30) (hl : 1 ≤ S 12 l ∧ S 12 l ≤ 3) : f_X9_endFrom m0 (iI l) (iI s) hs = some (.ok (iI (if 6 * (s / 6) + 6 ≤ s + S 12 l then 6 * (s / 6) + 6 else s + S 12 l)), hs) := by
  unfold f_X9_endFrom
  simp (disch := omega) only [↓reduceIte, ↓e_lets, ↓e_ite, ↓e_cal, e_cal2, ↓u_f_X9_both, e_rtn, e_r0, e_r1, e_dv, ↓m_rcv h, iI_add, iI_sub, iI_mul, iI_div, iI_rem, iI_lt, iI_le, iI_eq, li_0, li_1, li_2, li_3, li_4, li_5, li_6, li_7, li_8, li_9, li_10, li_11, li_12, li_13, li_14, li_15, li_16, li_17, li_18, li_19, li_20, li_21, li_22, li_23, li_24, li_25, li_26, li_27, li_28, li_29, li_30, li_31, li_32, li_63, li_64, li_99, li_100, li_128, li_240, li_256, li_512, li_960, li_1000, li_1022, li_1023, li_100000, li_m1, m_ld0 h, m_ld1 h, m_ld2 h, m_ld3 h, m_ld4 h, m_ld5 h, m_ld6 h, m_ld7 h, m_ld8 h, m_ld9 h, m_ld10 h, m_ld11 h, m_ld12 h, m_ld13 h, m_ld14 h, m_ld15 h, m_ld16 h, m_ld17 h, m_ld18 h, m_ld19 h, ↓m_g0 h, ↓m_g1 h, ↓m_g2 h, ↓m_g3 h, ↓m_g4 h, ↓m_g5 h, ↓m_g6 h, ↓m_g7 h, ↓m_g8 h, ↓m_g9 h, ↓m_g10 h, ↓m_g11 h, ↓m_g12 h, ↓m_g13 h, ↓m_g14 h, ↓m_g15 h, ↓m_g16 h, ↓m_g17 h, ↓m_g18 h, ↓m_g19 h, ↓m_g20 h, ↓m_g21 h, ↓m_g22 h, ↓m_g23 h, ↓m_g24 h, ↓m_g25 h, ↓m_g26 h, ↓m_g27 h]
  all_goals repeat' split
  all_goals first | rfl | (exfalso; omega) | skip
