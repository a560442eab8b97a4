/-! PURE LAYER: a list of the class takes one more (class) -/
def adF (A : AA) (q n : Int) (o : Nat) : Nat → Option Nat := fun j => if (j : Int) = n then some o else some (A (okind q) (j : Int))
theorem adF_c {A : AA} {q n : Int} {o : Nat} : (fun j : Nat => if (j : Int) < n then some (A (okind q) (j : Int)) else none) = lsF (adF A q n o) n := by
  funext j
  unfold lsF adF
  by_cases c : (j : Int) < n
  · rw [if_pos c, if_pos c, if_neg (by omega)]
  · rw [if_neg c, if_neg c]
theorem adF_n {A : AA} {q n : Int} {o : Nat} (hn : 0 ≤ n) : adF A q n o n.toNat = some o := if_pos (by omega)
theorem add_list {A : AA} {S : SS} {K : KK} {h : Hp} {z : Nat × Nat} {q : Int} {o c : Nat} {fs : List Value} (hn : 0 ≤ lcnt S q) (hn2 : lcnt S q ≤ 15) (h1 : h (A 11 q) = some (cell A S K 11 q)) (h2 : 0 < lcnt S q → h (A 12 q) = some (cell A S K 12 q)) (he : h (A 26 0) = some ce0) (hz2 : z.2 = A 26 0) (ho : h o = some (aO c fs)) (hc2 : c ∈ [5, 7, 8, 10]) (hL : 10 ≤ lcnt S q → ∀ j : Nat, (j : Int) < lcnt S q → ∃ ws, h (A (okind q) (j : Int)) = some (aO 7 ws)) (hz : h z.1 = none) : ∃ (h3 : Hp) (z3 b3 : Nat), f_Jx4a65c_add_9ea2d (A 11 q) (some o) (h, z) = some (.ok (iI 1), (h3, (z3, z.2))) ∧ h3 (A 11 q) = some (lsC (lcnt S q + 1) b3) ∧ h3 b3 = some (aR 4 (capN (lcnt S q + 1)) (lsF (adF A q (lcnt S q) o) (lcnt S q + 1))) ∧ (b3 = z.1 ∨ 0 < lcnt S q ∧ b3 = A 12 q) ∧ ∀ x, x ≠ A 11 q → x ≠ b3 → h3 x = h x := by
  have hF : adF A q (lcnt S q) o (lcnt S q).toNat = some o := adF_n hn
  have hao : A 11 q ≠ o := fun e => by
    rw [e, ho] at h1
    injection h1 with h1
    injection h1 with h1
    injection h1 with h1 _
    rw [h1] at hc2
    exact absurd hc2 (by decide)
  by_cases c0 : lcnt S q = 0
  · have g1 : h (A 11 q) = some (lsC (lcnt S q) (A 26 0)) := by
      rw [h1]
      show some (aO 2 [.int (iI (lcnt S q)), .ref (if lcnt S q = 0 then A 26 0 else A 12 q), .int (iI (lcnt S q))]) = _
      rw [if_pos c0]
      rfl
    have hab : A 11 q ≠ A 26 0 := fun e => by
      rw [e, he] at g1
      injection g1 with g1
      cases g1
    obtain ⟨h3, e1, e2, e3, e4⟩ := add_new (F := adF A q (lcnt S q) o) c0 g1 hz2.symm he ho hc2 hF hab hao hz
    refine ⟨h3, z.1 + 1, z.1, e1, e2, ?_, Or.inl rfl, e4⟩
    rw [e3, show capN (lcnt S q + 1) = 10 by rw [c0]; rfl]
  · have g1 : h (A 11 q) = some (lsC (lcnt S q) (A 12 q)) := by
      rw [h1]
      show some (aO 2 [.int (iI (lcnt S q)), .ref (if lcnt S q = 0 then A 26 0 else A 12 q), .int (iI (lcnt S q))]) = _
      rw [if_neg c0]
      rfl
    have g2 : h (A 12 q) = some (lsB (adF A q (lcnt S q) o) (lcnt S q)) := by
      rw [h2 (by omega)]
      show some (aR 4 (capN (lcnt S q)) (fun j : Nat => if (j : Int) < lcnt S q then some (A (okind q) (j : Int)) else none)) = _
      rw [adF_c (o := o)]
      rfl
    have hab : A 11 q ≠ A 12 q := fun e => by
      rw [e, g2] at g1
      injection g1 with g1
      cases g1
    by_cases c1 : lcnt S q = 10
    · obtain ⟨h3, e1, e2, e3, e4⟩ := add_g10 (F := adF A q (lcnt S q) o) c1 g1 g2 (fun j hj => by
        obtain ⟨ws, e⟩ := hL (by omega) j (by omega)
        exact ⟨_, ws, if_neg (by omega), e⟩) ho hc2 hF hab hao hz
      refine ⟨h3, z.1 + 1, z.1, e1, e2, ?_, Or.inl rfl, e4⟩
      rw [e3, show capN (lcnt S q + 1) = 15 by rw [c1]; rfl]
    · by_cases c2 : lcnt S q = 15
      · obtain ⟨h3, e1, e2, e3, e4⟩ := add_g15 (F := adF A q (lcnt S q) o) c2 g1 g2 (fun j hj => by
          obtain ⟨ws, e⟩ := hL (by omega) j (by omega)
          exact ⟨_, ws, if_neg (by omega), e⟩) ho hc2 hF hab hao hz
        refine ⟨h3, z.1 + 1, z.1, e1, e2, ?_, Or.inl rfl, e4⟩
        rw [e3, show capN (lcnt S q + 1) = 22 by rw [c2]; rfl]
      · have hcp : lcnt S q < (capN (lcnt S q) : Int) ∧ capN (lcnt S q + 1) = capN (lcnt S q) := by
          unfold capN
          by_cases d : lcnt S q ≤ 10
          · rw [if_pos d, if_pos (by omega)]
            exact ⟨by omega, rfl⟩
          · have d2 : ¬ lcnt S q + 1 ≤ 10 := by omega
            have d3 : lcnt S q ≤ 15 := by omega
            have d4 : lcnt S q + 1 ≤ 15 := by omega
            rw [if_neg d, if_neg d2, if_pos d3, if_pos d4]
            exact ⟨by omega, rfl⟩
        obtain ⟨h3, e1, e2, e3, e4⟩ := add_keep (z := z) (F := adF A q (lcnt S q) o) (by omega) hcp.1 g1 g2 ho hc2 hF hab hao
        refine ⟨h3, z.1, A 12 q, e1, e2, ?_, Or.inr ⟨by omega, rfl⟩, e4⟩
        rw [e3, hcp.2]
