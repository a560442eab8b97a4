/-! PURE LAYER: the invariant at the start; what was left -/
def S0 : SS := fun f i => if f = 15 ∧ 0 ≤ i ∧ i < 4 then 1 else 0
def K0 : KK := fun _ _ _ => 0
def oF : Nat → Int → Nat
  | 10, i => 16 + i.toNat
  | 11, i => if i = 0 then 1 else 2 + i.toNat
  | 13, _ => 2 | 14, _ => 8 | 15, _ => 10 | 16, _ => 13 | 17, _ => 15 | 18, _ => 22 | 19, _ => 23 | 20, _ => 6 | 21, _ => 7 | 22, _ => 9 | 23, _ => 11 | 24, _ => 12 | 25, _ => 14 | _, _ => 0
def A0 (z e : Nat) : AA := fun k i => if k = 26 then e else z + oF k i
def oI : Nat → Nat × Int
  | 0 => (0, 0)
  | 1 => (11, 0)
  | 2 => (13, 0)
  | 3 => (11, 1)
  | 4 => (11, 2)
  | 5 => (11, 3)
  | 6 => (20, 0)
  | 7 => (21, 0)
  | 8 => (14, 0)
  | 9 => (22, 0)
  | 10 => (15, 0)
  | 11 => (23, 0)
  | 12 => (24, 0)
  | 13 => (16, 0)
  | 14 => (25, 0)
  | 15 => (17, 0)
  | 16 => (10, 0)
  | 17 => (10, 1)
  | 18 => (10, 2)
  | 19 => (10, 3)
  | 20 => (10, 4)
  | 21 => (10, 5)
  | 22 => (18, 0)
  | 23 => (19, 0)
  | _ => (0, 0)
theorem S0_n {f : Nat} {i : Int} (h : f ≠ 15) : S0 f i = 0 := if_neg (fun w => h w.1)
theorem S0_l (i : Int) : lcnt S0 i = 0 := by
  unfold lcnt
  rw [S0_n (by decide), S0_n (by decide), S0_n (by decide), S0_n (by decide)]
  exact (ite_congr rfl (fun _ => rfl) (fun _ => (ite_congr rfl (fun _ => rfl) (fun _ => ite_self _)).trans (ite_self _))).trans (ite_self _)
theorem live0 {Q : Nat → Int → Prop} (h0_0 : Q 0 0) (h11_0 : Q 11 0) (h13_0 : Q 13 0) (h11_1 : Q 11 1) (h11_2 : Q 11 2) (h11_3 : Q 11 3) (h20_0 : Q 20 0) (h21_0 : Q 21 0) (h14_0 : Q 14 0) (h22_0 : Q 22 0) (h15_0 : Q 15 0) (h23_0 : Q 23 0) (h24_0 : Q 24 0) (h16_0 : Q 16 0) (h25_0 : Q 25 0) (h17_0 : Q 17 0) (h10_0 : Q 10 0) (h10_1 : Q 10 1) (h10_2 : Q 10 2) (h10_3 : Q 10 3) (h10_4 : Q 10 4) (h10_5 : Q 10 5) (h18_0 : Q 18 0) (h19_0 : Q 19 0) : ∀ k i, live S0 k i → Q k i := by
  intro k i h
  obtain ⟨hk, i0, i1, i12⟩ := h
  revert i i0
  refine lt26 (Q := fun k => ∀ i : Int, 0 ≤ i → i < numK S0 k → (k = 12 → 0 < lcnt S0 i) → Q k i) ?_ ?_ ?_ ?_ ?_ ?_ ?_ ?_ ?_ ?_ ?_ ?_ ?_ ?_ ?_ ?_ ?_ ?_ ?_ ?_ ?_ ?_ ?_ ?_ ?_ ?_ k hk
  · intro i i0 i1 _
    have i1 : i < 1 := i1
    obtain rfl : i = 0 := by omega
    exact h0_0
  · exact fun i i0 i1 _ => absurd (show i < 0 from i1) (by omega)
  · exact fun i i0 i1 _ => absurd (show i < 0 from i1) (by omega)
  · exact fun i i0 i1 _ => absurd (show i < 0 from i1) (by omega)
  · exact fun i i0 i1 _ => absurd (show i < 0 from i1) (by omega)
  · exact fun i i0 i1 _ => absurd (show i < 0 from i1) (by omega)
  · exact fun i i0 i1 _ => absurd (show i < 0 from i1) (by omega)
  · exact fun i i0 i1 _ => absurd (show i < 0 from i1) (by omega)
  · exact fun i i0 i1 _ => absurd (show i < 0 from i1) (by omega)
  · exact fun i i0 i1 _ => absurd (show i < 0 from i1) (by omega)
  · intro i i0 i1 _
    have i1 : i < 6 := i1
    rcases (show i = 0 ∨ i = 1 ∨ i = 2 ∨ i = 3 ∨ i = 4 ∨ i = 5 by omega) with rfl | rfl | rfl | rfl | rfl | rfl
    · exact h10_0
    · exact h10_1
    · exact h10_2
    · exact h10_3
    · exact h10_4
    · exact h10_5
  · intro i i0 i1 _
    have i1 : i < 4 := i1
    rcases (show i = 0 ∨ i = 1 ∨ i = 2 ∨ i = 3 by omega) with rfl | rfl | rfl | rfl
    · exact h11_0
    · exact h11_1
    · exact h11_2
    · exact h11_3
  · exact fun i _ _ h => absurd (h rfl) (by rw [S0_l]; decide)
  · intro i i0 i1 _
    have i1 : i < 1 := i1
    obtain rfl : i = 0 := by omega
    exact h13_0
  · intro i i0 i1 _
    have i1 : i < 1 := i1
    obtain rfl : i = 0 := by omega
    exact h14_0
  · intro i i0 i1 _
    have i1 : i < 1 := i1
    obtain rfl : i = 0 := by omega
    exact h15_0
  · intro i i0 i1 _
    have i1 : i < 1 := i1
    obtain rfl : i = 0 := by omega
    exact h16_0
  · intro i i0 i1 _
    have i1 : i < 1 := i1
    obtain rfl : i = 0 := by omega
    exact h17_0
  · intro i i0 i1 _
    have i1 : i < 1 := i1
    obtain rfl : i = 0 := by omega
    exact h18_0
  · intro i i0 i1 _
    have i1 : i < 1 := i1
    obtain rfl : i = 0 := by omega
    exact h19_0
  · intro i i0 i1 _
    have i1 : i < 1 := i1
    obtain rfl : i = 0 := by omega
    exact h20_0
  · intro i i0 i1 _
    have i1 : i < 1 := i1
    obtain rfl : i = 0 := by omega
    exact h21_0
  · intro i i0 i1 _
    have i1 : i < 1 := i1
    obtain rfl : i = 0 := by omega
    exact h22_0
  · intro i i0 i1 _
    have i1 : i < 1 := i1
    obtain rfl : i = 0 := by omega
    exact h23_0
  · intro i i0 i1 _
    have i1 : i < 1 := i1
    obtain rfl : i = 0 := by omega
    exact h24_0
  · intro i i0 i1 _
    have i1 : i < 1 := i1
    obtain rfl : i = 0 := by omega
    exact h25_0
theorem oI_o : ∀ k i, live S0 k i → oI (oF k i) = (k, i) ∧ oF k i < 24 := live0 (Q := fun k i => oI (oF k i) = (k, i) ∧ oF k i < 24) ⟨rfl, by decide⟩ ⟨rfl, by decide⟩ ⟨rfl, by decide⟩ ⟨rfl, by decide⟩ ⟨rfl, by decide⟩ ⟨rfl, by decide⟩ ⟨rfl, by decide⟩ ⟨rfl, by decide⟩ ⟨rfl, by decide⟩ ⟨rfl, by decide⟩ ⟨rfl, by decide⟩ ⟨rfl, by decide⟩ ⟨rfl, by decide⟩ ⟨rfl, by decide⟩ ⟨rfl, by decide⟩ ⟨rfl, by decide⟩ ⟨rfl, by decide⟩ ⟨rfl, by decide⟩ ⟨rfl, by decide⟩ ⟨rfl, by decide⟩ ⟨rfl, by decide⟩ ⟨rfl, by decide⟩ ⟨rfl, by decide⟩ ⟨rfl, by decide⟩
theorem A0_n {z e k : Nat} {i : Int} (h : k ≠ 26) : A0 z e k i = z + oF k i := if_neg h
theorem A0_l {z e k : Nat} {i : Int} (h : live S0 k i) : A0 z e k i = z + oF k i ∧ oF k i < 24 := ⟨A0_n (by have := h.1; omega), (oI_o k i h).2⟩
theorem AL0 {z e : Nat} : AL (A0 z e) S0 := fun k k2 i i2 h h2 q => by
  have e1 := oI_o k i h
  have e2 := oI_o k2 i2 h2
  rw [(A0_l h).1, (A0_l h2).1] at q
  have q2 : oF k i = oF k2 i2 := by omega
  rw [q2, e2.1] at e1
  exact ⟨(congrArg Prod.fst e1.1).symm, (congrArg Prod.snd e1.1).symm⟩
section
variable {e z : Nat}
theorem hz_c {o : Nat} {c : Ce} (ho : o < 24) (hc : (C24 z e)[o]? = some c) : HZ e z (z + o) = some c := by
  unfold HZ
  rw [LZ_lo (by omega), LZ_lo (by omega)]
  exact LZ_at hc
theorem hz_m {k : Nat} {c : Ce} (hk : k < 21) (hc : (M21 (z + 24))[k]? = some c) : HZ e z (z + 24 + k) = some c := by
  unfold HZ
  rw [LZ_lo (by omega)]
  exact LZ_at hc
theorem hz_e (h : e < z) : HZ e z e = some ce0 := by
  unfold HZ
  rw [LZ_lo (by omega), LZ_lo (by omega), LZ_lo h]
  exact if_pos rfl
theorem hz_B (h : e < z) : Bd (HZ e z) (z + 47) := fun a c ha => by
  by_cases q : a < z + 47
  · exact q
  · unfold HZ at ha
    rw [LZ_hi (by show z + 45 + 2 ≤ a; omega), LZ_hi (by show z + 24 + 21 ≤ a; omega), LZ_hi (by show z + 24 ≤ a; omega)] at ha
    unfold HE at ha
    rw [if_neg (by omega)] at ha
    exact absurd ha (by simp)
theorem w4_e : w4 = fun j : Nat => iI (S0 15 (j : Int)) := by
  funext j
  unfold w4 S0
  by_cases c : j < 4
  · rw [if_pos ⟨rfl, by omega, by omega⟩]
    rcases (show j = 0 ∨ j = 1 ∨ j = 2 ∨ j = 3 by omega) with rfl | rfl | rfl | rfl <;> exact li_1
  · rw [if_neg (fun w => c (by omega))]
    show (if j = 3 then (1 : Int32) else if j = 2 then 1 else if j = 1 then 1 else if j = 0 then 1 else 0) = _
    rw [if_neg (by omega), if_neg (by omega), if_neg (by omega), if_neg (by omega)]
    exact li_0
theorem z0_e {f : Nat} (h : f ≠ 15) : (fun i : Nat => iI (S0 f (i : Int))) = fun _ => 0 := by
  funext i
  rw [S0_n h]
  exact li_0.symm
theorem CH0 : CH (A0 z e) S0 K0 (HZ e z) := by
  have i5 : iI (S0 20 5) = 0 := by rw [S0_n (by decide)]; exact li_0.symm
  have i6 : iI (S0 20 6) = 0 := by rw [S0_n (by decide)]; exact li_0.symm
  have i7 : iI (S0 20 7) = 0 := by rw [S0_n (by decide)]; exact li_0.symm
  have l0 : ∀ i : Int, cell (A0 z e) S0 K0 11 i = aO 2 [.int 0, .ref e, .int 0] := fun i => by
    show aO 2 [.int (iI (lcnt S0 i)), .ref (if lcnt S0 i = 0 then A0 z e 26 0 else A0 z e 12 i), .int (iI (lcnt S0 i))] = _
    rw [S0_l, if_pos rfl, ← li_0]
    rfl
  have v0 : ∀ i : Int, cell (A0 z e) S0 K0 10 i = aI 0 16 (fun _ => 0) := fun i => by
    show aI 0 16 (fun j => if (j : Int) < 16 then iI (S0 16 (16 * i + (j : Int))) else iI 0) = _
    refine congrArg (aI 0 16) (funext fun j => ?_)
    rw [S0_n (by decide), ← li_0]
    exact ite_self _
  have t0 : cell (A0 z e) S0 K0 17 0 = aR 5 6 (fun i => if i < 6 then some (z + 15 + 1 + i) else none) := by
    show aR 5 6 (fun j => if j < 6 then some (z + (16 + (j : Int).toNat)) else none) = _
    refine congrArg (aR 5 6) (funext fun j => ?_)
    rw [Int.toNat_natCast, show z + (16 + j) = z + 15 + 1 + j by omega]
  have c0 : cell (A0 z e) S0 K0 0 0 = aO 11 [.ref (z + 1), .ref (z + 2), .ref (z + 8), .ref (z + 10), .ref (z + 13), .ref (z + 15), .ref (z + 22), .ref (z + 23), .int 0, .int 0] := by
    show aO 11 [.ref (z + 1), .ref (z + 2), .ref (z + 8), .ref (z + 10), .ref (z + 13), .ref (z + 15), .ref (z + 22), .ref (z + 23), .int (iI (S0 20 5)), .int (iI (S0 20 7))] = _
    rw [i5, i7]
  have c13 : cell (A0 z e) S0 K0 13 0 = aO 9 [.ref (z + 3), .ref (z + 4), .ref (z + 5), .ref (z + 6), .ref (z + 7), .int 0] := by
    show aO 9 [.ref (z + 3), .ref (z + 4), .ref (z + 5), .ref (z + 6), .ref (z + 7), .int (iI (S0 20 6))] = _
    rw [i6]
  have c20 : cell (A0 z e) S0 K0 20 0 = aI 0 4 w4 := by
    show aI 0 4 (fun j => iI (S0 15 (j : Int))) = _
    rw [w4_e]
  refine live0 (Q := fun k i => HZ e z (A0 z e k i) = some (cell (A0 z e) S0 K0 k i)) ?_ ?_ ?_ ?_ ?_ ?_ ?_ ?_ ?_ ?_ ?_ ?_ ?_ ?_ ?_ ?_ ?_ ?_ ?_ ?_ ?_ ?_ ?_ ?_
  · rw [c0]
    exact hz_c (o := 0) (by decide) rfl
  · rw [l0]
    exact hz_c (o := 1) (by decide) rfl
  · rw [c13]
    exact hz_c (o := 2) (by decide) rfl
  · rw [l0]
    exact hz_c (o := 3) (by decide) rfl
  · rw [l0]
    exact hz_c (o := 4) (by decide) rfl
  · rw [l0]
    exact hz_c (o := 5) (by decide) rfl
  · rw [c20]
    exact hz_c (o := 6) (by decide) rfl
  · exact hz_c (o := 7) (by decide) rfl
  · exact hz_c (o := 8) (by decide) rfl
  · exact hz_c (o := 9) (by decide) rfl
  · exact hz_c (o := 10) (by decide) rfl
  · exact hz_c (o := 11) (by decide) rfl
  · exact hz_c (o := 12) (by decide) rfl
  · exact hz_c (o := 13) (by decide) rfl
  · exact hz_c (o := 14) (by decide) rfl
  · rw [t0]
    exact hz_c (o := 15) (by decide) rfl
  · rw [v0]
    exact hz_c (o := 16) (by decide) rfl
  · rw [v0]
    exact hz_c (o := 17) (by decide) rfl
  · rw [v0]
    exact hz_c (o := 18) (by decide) rfl
  · rw [v0]
    exact hz_c (o := 19) (by decide) rfl
  · rw [v0]
    exact hz_c (o := 20) (by decide) rfl
  · rw [v0]
    exact hz_c (o := 21) (by decide) rfl
  · exact hz_c (o := 22) (by decide) rfl
  · exact hz_c (o := 23) (by decide) rfl
theorem mO0 (m : Nat) : mO m S0 = aO 12 [.ref (m + 1), .ref (m + 2), .ref (m + 3), .ref (m + 4), .ref (m + 5), .ref (m + 6), .ref (m + 7), .ref (m + 8), .ref (m + 9), .ref (m + 10), .ref (m + 11), .ref (m + 12), .ref (m + 13), .ref (m + 14), .ref (m + 15), .ref (m + 16), .ref (m + 17), .ref (m + 18), .ref (m + 19), .ref (m + 20), .int 0, .int 0, .int 0, .int 0, .int 0, .int 0, .int 0, .int 0] := by
  have h : ∀ k : Nat, iI (S0 20 (k : Int)) = 0 := fun k => by rw [S0_n (by decide)]; exact li_0.symm
  unfold mO
  simp only [h]
  rfl
theorem MR0 {y : Nat × Nat} : MR S0 (z + 24) (HZ e z, y) := by
  refine ⟨?_, fun k hk => ?_⟩
  · rw [mO0]
    exact hz_m (k := 0) (by decide) rfl
  · show HZ e z (z + 24 + 1 + k) = _
    rw [show z + 24 + 1 + k = z + 24 + (k + 1) by omega]
    refine hz_m (by omega) ?_
    by_cases c : k = 15
    · subst c
      rw [← w4_e]
      rfl
    · rw [z0_e c]
      rcases (show k = 0 ∨ k = 1 ∨ k = 2 ∨ k = 3 ∨ k = 4 ∨ k = 5 ∨ k = 6 ∨ k = 7 ∨ k = 8 ∨ k = 9 ∨ k = 10 ∨ k = 11 ∨ k = 12 ∨ k = 13 ∨ k = 14 ∨ k = 16 ∨ k = 17 ∨ k = 18 ∨ k = 19 by omega) with rfl | rfl | rfl | rfl | rfl | rfl | rfl | rfl | rfl | rfl | rfl | rfl | rfl | rfl | rfl | rfl | rfl | rfl | rfl <;> rfl
theorem GI0 : GI S0 := by
  have h : ∀ f i, f ≠ 15 → S0 f i = 0 := fun f i hf => S0_n hf
  have h15 : ∀ i, 0 ≤ S0 15 i ∧ S0 15 i < 10 := fun i => by
    unfold S0
    split <;> decide
  have hn : Bn S0 := fun i => by
    rw [h 0 i (by decide), h 1 i (by decide), h 2 i (by decide), h 3 i (by decide), h 4 i (by decide), h 5 i (by decide), h 6 i (by decide), h 7 i (by decide), h 8 i (by decide), h 9 i (by decide), h 10 i (by decide), h 11 i (by decide), h 12 i (by decide), h 13 i (by decide), h 14 i (by decide), h 16 i (by decide)]
    exact ⟨by decide, by decide, by decide, by decide, by decide, by decide, by decide, by decide, by decide, by decide, by decide, by decide, by decide, by decide, by decide, h15 i, by decide⟩
  have hm : Bm S0 := by
    unfold Bm
    rw [h 20 1 (by decide), h 20 2 (by decide), h 20 3 (by decide), h 20 4 (by decide), h 20 5 (by decide), h 20 6 (by decide)]
    decide
  have hl : ∀ k : Int, 0 ≤ k → ¬ k < S0 20 4 := fun k k0 => by rw [h 20 4 (by decide)]; omega
  refine ⟨⟨⟨hn, hm, fun l l0 l1 => absurd l1 (hl l l0)⟩, fun k k0 k1 => absurd k1 (hl k k0), fun k k0 k1 => absurd k1 (hl k k0)⟩, fun g g0 g1 => absurd g1 (by rw [h 20 3 (by decide)]; omega), fun n _ => h 7 n (by decide), fun n _ => ⟨h 8 n (by decide), by rw [h 14 n (by decide)]; decide⟩, fun n _ => h 4 n (by decide), fun n _ => h 6 n (by decide)⟩
theorem CI0 : CI S0 K0 := fun p p0 p1 => by
  have h : amt S0 p = 0 := by
    unfold amt
    rw [S0_n (f := 20) (i := 3) (by decide), S0_n (f := 20) (i := 4) (by decide)]
    show (if p = 0 then (0 : Int) else if p = 1 then 0 else if p = 2 then 0 else 0) = 0
    split
    · rfl
    · split
      · rfl
      · split <;> rfl
  rw [h]
  exact li_0
theorem inv0 (h : e < z) : InvS z (z + 24) (z + 45) (z + 46) (HZ e z, (z + 47, e)) := by
  refine ⟨S0, GI0, ⟨A0 z e, K0, rfl, AL0, CH0, rfl, hz_e h, CI0, fun k i hl => ?_⟩, MR0, ⟨fun _ => 0, ?_⟩, ⟨fun _ => 0, ?_⟩, ⟨by omega, by show e ≠ _; omega, by show e ≠ _; omega, by omega, by omega, by show e < _ ∨ _ < e; omega⟩, hz_B h⟩
  · have := A0_l (z := z) (e := e) hl
    rw [this.1]
    omega
  · show HZ e z (z + 45) = _
    exact LZ_at (j := 0) rfl
  · show HZ e z (z + 45 + 1) = _
    exact LZ_at (j := 1) rfl
end
theorem pure_goal : PureGoal := fun e z h => ⟨z, z + 24, z + 45, z + 46, (HZ e z, (z + 47, e)), InvS z (z + 24) (z + 45) (z + 46), i_start e z, inv0 h, fun _ hi v a1 a2 a3 a4 a5 => law_step hi v a1 a2 a3 a4 a5⟩
