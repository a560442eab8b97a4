/-! PURE LAYER: the reference in one canonical heap -/
def Hm (m0 : Nat) (P : Hp) (S : SS) : Hp := fun q => if q = m0 then some (mO m0 S) else if m0 < q ∧ q ≤ m0 + 20 then some (aI (mTy (q - m0 - 1)) (mLen (q - m0 - 1)) (fun i => iI (S (q - m0 - 1) (i : Int)))) else P q
theorem MR_Hm {m0 : Nat} {P : Hp} {S : SS} {z : Nat × Nat} : MR S m0 (Hm m0 P S, z) := by
  refine ⟨if_pos rfl, fun k hk => ?_⟩
  show Hm m0 P S (mA m0 k) = _
  unfold Hm mA
  have h1 : ¬ m0 + 1 + k = m0 := by omega
  have h2 : m0 < m0 + 1 + k ∧ m0 + 1 + k ≤ m0 + 20 := by omega
  have h3 : m0 + 1 + k - m0 - 1 = k := by omega
  rw [if_neg h1, if_pos h2, h3]
theorem Hm_ext {m0 : Nat} {P h : Hp} {S : SS} (h1 : h m0 = some (mO m0 S)) (h2 : ∀ k, k < 20 → h (mA m0 k) = some (aI (mTy k) (mLen k) (fun i => iI (S k (i : Int))))) (h3 : ∀ q, q < m0 ∨ m0 + 20 < q → h q = P q) : h = Hm m0 P S := by
  funext q
  unfold Hm
  by_cases c : q = m0
  · rw [if_pos c, c, h1]
  · rw [if_neg c]
    by_cases d : m0 < q ∧ q ≤ m0 + 20
    · rw [if_pos d, ← h2 (q - m0 - 1) (by omega)]
      unfold mA
      rw [show m0 + 1 + (q - m0 - 1) = q by omega]
    · rw [if_neg d, h3 q (by omega)]
theorem Hm_self {m0 : Nat} {S : SS} {hs : Hs} (h : MR S m0 hs) : hs.1 = Hm m0 hs.1 S := Hm_ext h.1 h.2 (fun _ _ => rfl)
theorem upd_i {S : SS} {k : Nat} {i x : Int} (h0 : 0 ≤ i) : upd (fun j : Nat => iI (S k (j : Int))) i.toNat (iI x) = fun j : Nat => iI (upS S k i x k (j : Int)) := by
  funext j
  unfold upd upS
  by_cases c : j = i.toNat
  · rw [if_pos c, if_pos ⟨rfl, by omega⟩]
  · rw [if_neg c, if_neg (fun z => c (by omega))]
theorem mO_up {m0 : Nat} {S : SS} {k : Nat} {i x : Int} (h : k ≠ 20) : mO m0 (upS S k i x) = mO m0 S := by
  unfold mO
  rw [upS_g (Ne.symm h)]
theorem Hm_st {m0 : Nat} {P : Hp} {S : SS} {k : Nat} {i x : Int} (hk : k < 20) (h0 : 0 ≤ i) : hset (Hm m0 P S) (mA m0 k) (aI (mTy k) (mLen k) (upd (fun j : Nat => iI (S k (j : Int))) i.toNat (iI x))) = Hm m0 P (upS S k i x) := by
  refine Hm_ext ?_ (fun k2 hk2 => ?_) (fun q hq => ?_)
  · rw [hset_n (by unfold mA; omega), mO_up (by omega)]
    exact if_pos rfl
  · by_cases c : k2 = k
    · rw [c, hset_s, upd_i h0]
    · rw [hset_n (by unfold mA; omega), upS_g c]
      exact (MR_Hm (P := P) (z := (0, 0))).2 k2 hk2
  · rw [hset_n (by unfold mA; omega)]
    unfold Hm
    rw [if_neg (by omega), if_neg (by omega)]
theorem m_st {m0 : Nat} {P : Hp} {S : SS} {z : Nat × Nat} {R : Type} {k : Nat} {i x : Int} {Kc : OO R} (hk : k < 20) (ht : mTy k = 0) (h0 : 0 ≤ i) (h1 : i < mLen k) : stI (some (mA m0 k)) (iI i) (iI x) Kc (Hm m0 P S, z) = Kc (Hm m0 P (upS S k i x), z) := by
  have hl := mLen_le k
  have h2 := (MR_Hm (m0 := m0) (P := P) (S := S) (z := z)).2 k hk
  rw [ht] at h2
  rw [x_stI h2 (iI_in h0 (by omega) (by omega)), iI_clamp h0 (by omega)]
  show Kc (hset (Hm m0 P S) _ _, z) = _
  rw [← Hm_st hk h0, ht]
theorem m_stZ {m0 : Nat} {P : Hp} {S : SS} {z : Nat × Nat} {R : Type} {k : Nat} {i x : Int} {Kc : OO R} (hk : k < 20) (ht : mTy k = 1) (h0 : 0 ≤ i) (h1 : i < mLen k) (hx : x = 0 ∨ x = 1) : stZ (some (mA m0 k)) (iI i) (iI x) Kc (Hm m0 P S, z) = Kc (Hm m0 P (upS S k i x), z) := by
  have hl := mLen_le k
  have h2 := (MR_Hm (m0 := m0) (P := P) (S := S) (z := z)).2 k hk
  rw [ht] at h2
  have h3 := iI_in h0 h1 (by omega)
  have h4 : iI x = 0 ∨ iI x = 1 := by
    rcases hx with rfl | rfl
    · exact Or.inl (by decide)
    · exact Or.inr (by decide)
  have h5 : Hm m0 P S (mA m0 k) = some (aI 1 (mLen k) (fun i => iI (S k (i : Int)))) := h2
  rw [← Hm_st hk h0, ht]
  simp only [stZ, h5, h3, h4, true_and, not_false_eq_true, if_true]
  rw [iI_clamp h0 (by omega)]
theorem m_pI {m0 : Nat} {P : Hp} {S : SS} {z : Nat × Nat} {R : Type} {k : Nat} {x : Int} {Kc : OO R} (hk : k < 8) : pI (some m0) 12 (20 + k) (iI x) Kc (Hm m0 P S, z) = Kc (Hm m0 P (upS S 20 (k : Int) x), z) := by
  have h1 : Hm m0 P S m0 = some (mO m0 S) := if_pos rfl
  show pV (some m0) 12 (20 + k) (.int (iI x)) Kc (Hm m0 P S, z) = _
  rw [x_pV (hs := (Hm m0 P S, z)) h1 (by simp; omega)]
  show Kc (hset (Hm m0 P S) m0 _, z) = _
  have e : hset (Hm m0 P S) m0 (.inr (12, ((List.range 20).map (fun k : Nat => Value.ref (mA m0 k)) ++ (List.range 8).map (fun k : Nat => Value.int (iI (S 20 (k : Int))))).set (20 + k) (.int (iI x)))) = Hm m0 P (upS S 20 (k : Int) x) := by
    refine Hm_ext ?_ (fun k2 hk2 => ?_) (fun q hq => ?_)
    · rw [hset_s]
      unfold mO
      refine congrArg (fun l => some (aO 12 l)) ?_
      rw [List.set_append_right _ _ (by simp)]
      refine congrArg (fun l => (List.range 20).map (fun k : Nat => Value.ref (mA m0 k)) ++ l) ?_
      have hh : ∀ k : Fin 8, ((List.range 8).map (fun j : Nat => Value.int (iI (S 20 (j : Int))))).set (20 + k.val - ((List.range 20).map (fun k : Nat => Value.ref (mA m0 k))).length) (.int (iI x)) = (List.range 8).map (fun j : Nat => Value.int (iI (upS S 20 (k.val : Int) x 20 (j : Int)))) := by
        intro k
        rw [List.length_map, List.length_range]
        match k with
        | 0 => rfl
        | 1 => rfl
        | 2 => rfl
        | 3 => rfl
        | 4 => rfl
        | 5 => rfl
        | 6 => rfl
        | 7 => rfl
      exact hh ⟨k, hk⟩
    · rw [hset_n (by unfold mA; omega), upS_g (by omega)]
      exact (MR_Hm (P := P) (z := (0, 0))).2 k2 hk2
    · rw [hset_n (by omega)]
      unfold Hm
      rw [if_neg (by omega), if_neg (by omega)]
  exact congrArg (fun h => Kc (h, z)) e
