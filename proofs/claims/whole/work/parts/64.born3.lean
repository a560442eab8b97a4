/-! PURE LAYER: what an add leaves behind is canonical, the whole (class) -/
theorem cls_o {A : AA} {S : SS} {K : KK} {q n : Int} (q0 : 0 ≤ q) (q1 : q < 4) : ∃ c fs, cell A S K (okind q) n = aO c fs ∧ c ∈ [5, 7, 8, 10] := by
  rcases (show q = 0 ∨ q = 1 ∨ q = 2 ∨ q = 3 by omega) with rfl | rfl | rfl | rfl
  · exact ⟨10, cTea A S n, rfl, by decide⟩
  · exact ⟨8, cRoom S n, rfl, by decide⟩
  · exact ⟨5, _, rfl, by decide⟩
  · exact ⟨7, cLes A S K n, rfl, by decide⟩
theorem okv {q : Int} (q0 : 0 ≤ q) (q1 : q < 4) : okind q = 1 ∨ okind q = 2 ∨ okind q = 4 ∨ okind q = 5 := by
  rcases (show q = 0 ∨ q = 1 ∨ q = 2 ∨ q = 3 by omega) with rfl | rfl | rfl | rfl <;> decide
theorem lcnt_b {S : SS} (hm : Bm S) {q : Int} (q0 : 0 ≤ q) (q1 : q < 4) : 0 ≤ lcnt S q ∧ lcnt S q ≤ 16 ∧ (8 < lcnt S q → q = 3) := by
  unfold Bm at hm
  rcases (show q = 0 ∨ q = 1 ∨ q = 2 ∨ q = 3 by omega) with rfl | rfl | rfl | rfl
  · show 0 ≤ S 20 2 ∧ S 20 2 ≤ 16 ∧ (8 < S 20 2 → (0 : Int) = 3)
    omega
  · show 0 ≤ S 20 1 ∧ S 20 1 ≤ 16 ∧ (8 < S 20 1 → (1 : Int) = 3)
    omega
  · show 0 ≤ S 20 3 ∧ S 20 3 ≤ 16 ∧ (8 < S 20 3 → (2 : Int) = 3)
    omega
  · show 0 ≤ S 20 4 ∧ S 20 4 ≤ 16 ∧ (8 < S 20 4 → (3 : Int) = 3)
    omega
theorem nlv {S : SS} {q : Int} (q0 : 0 ≤ q) (q1 : q < 4) : numK S (okind q) = lcnt S q := by
  rcases (show q = 0 ∨ q = 1 ∨ q = 2 ∨ q = 3 by omega) with rfl | rfl | rfl | rfl <;> rfl
theorem born_of {A : AA} {P P2 : Hp} {S S2 : SS} {K K2 : KK} {z : Nat × Nat} {z1 : Nat} {q : Int} {out : Nat} {f : Nat → Int64} {v : Int} (hA : GA A) (hV : VS S) (hC2 : CI S2 K2) (q0 : 0 ≤ q) (q1 : q < 4) (hn : lcnt S q ≤ 15) (hS : lcnt S2 q = lcnt S q + 1) (hold : ∀ k i, live S k i → A k i < z.1) (h26 : z.2 = A 26 0) (he : P2 (A 26 0) = some ce0) (hO : OutI A P out f) (ho : out < z.1) (hP : ∀ x, x < z.1 → P2 x = P x) (hz1 : z.1 < z1 ∧ (okind q = 2 → z.1 + 2 ≤ z1) ∧ (okind q = 5 → z.1 + 5 ≤ z1)) (hPz : P2 z1 = none) (hnw2 : ∀ k i, nwC (okind q) (lcnt S q) k i → ∀ b, P2 (z.1 + (if k = okind q then 0 else if k = 3 then 1 else k - 5)) = some (cell (adA A (okind q) (lcnt S q) z.1 q b) S2 K2 k i)) (hcell : ∀ (B : AA) k i, live S k i → ¬ (k = 11 ∧ i = q) → ¬ (k = 12 ∧ i = q) → cell B S2 K2 k i = cell B S K k i) (hlv : ∀ k i, live S2 k i → ¬ (k = 12 ∧ i = q) → ¬ nwC (okind q) (lcnt S q) k i → live S k i) (hnw : ∀ k i, live S k i → ¬ nwC (okind q) (lcnt S q) k i) : ∃ (h3 : Hp) (z3 : Nat), f_Jx4a65c_add_9ea2d (A 11 q) (some z.1) (Hc A P2 S K, (z1, z.2)) = some (.ok (iI 1), (h3, (z3, z.2))) ∧ h3 out = some (aL 1 f) ∧ Born A P S S2 out f v z (hset h3 out (aL 1 (vp_updL f 0 (iI v).toInt64))) (z3, z.2) := by
  have hm := hV.2.1
  have hb := lcnt_b hm q0 q1
  have hk := okv q0 q1
  have l11 : live S 11 q := lv1 (by decide) q0 q1 (by decide)
  have l12 : 0 < lcnt S q → live S 12 q := fun h => ⟨by decide, q0, q1, fun _ => h⟩
  have nlo : ¬ live S (okind q) (lcnt S q) := fun h => hnw _ _ h ⟨rfl, Or.inl rfl⟩
  have hno : ∀ x, z.1 ≤ x → Hc A P2 S K x = P2 x := fun x hx => hc_no (fun k i hl e => by have := hold k i hl; omega)
  have he2 : Hc A P2 S K (A 26 0) = some ce0 := by
    rw [hc_no (fun k i hl e => by
      have := hA 26 k 0 i (by decide) (Nat.lt_succ_of_lt hl.1) (by decide) hl.2.1 e
      have h2 := hl.1
      omega), he]
  have n1 := hnw2 (okind q) (lcnt S q) ⟨rfl, Or.inl rfl⟩
  rw [if_pos rfl] at n1
  obtain ⟨c, fs, ec, hc2⟩ := cls_o (A := adA A (okind q) (lcnt S q) z.1 q 0) (S := S2) (K := K2) (n := lcnt S q) q0 q1
  have ho2 : Hc A P2 S K z.1 = some (aO c fs) := by
    rw [hno z.1 (Nat.le_refl _), ← ec]
    exact n1 0
  obtain ⟨h3, z3, b3, e1, e2, e3, e4, e5⟩ := add_list (S := S) (z := (z1, z.2)) (q := q) hb.1 hn (hc_at hA l11) (fun h => hc_at hA (l12 h)) he2 h26 ho2 hc2 (fun h j hj => by
    have q3 : q = 3 := hb.2.2 (by omega)
    subst q3
    exact ⟨_, hc_at hA (k := 5) (i := (j : Int)) (lv1 (by decide) (by omega) hj (by decide))⟩) (by rw [hno z1 (by omega)]; exact hPz)
  have b4 : b3 = z1 ∨ live S 12 q ∧ b3 = A 12 q := e4.elim Or.inl (fun h => Or.inr ⟨l12 h.1, h.2⟩)
  obtain ⟨a1, a2⟩ := AL_ad hA hk nlo hold hz1 hlv hnw b4
  generalize hB : adA A (okind q) (lcnt S q) z.1 q b3 = B at a1 a2
  have B11 : B 11 q = A 11 q := by
    rw [← hB]
    exact adA_o (by omega) (Or.inr ⟨by omega, Or.inl (by decide), Or.inr (Or.inl (by decide))⟩)
  have B12 : B 12 q = b3 := by
    rw [← hB]
    exact adA_q (by omega)
  have B00 : B 0 0 = A 0 0 := by
    rw [← hB]
    exact adA_o (by omega) (Or.inr ⟨by omega, Or.inl (by decide), Or.inl (by decide)⟩)
  have B26 : B 26 0 = A 26 0 := by
    rw [← hB]
    exact adA_o (by omega) (Or.inr ⟨by omega, Or.inl (by decide), Or.inr (Or.inl (by decide))⟩)
  have hout : ∀ k i, live S k i → A k i ≠ out := fun k i hl => hO.2 k i (Nat.lt_succ_of_lt hl.1) hl.2.1
  have o11 : out ≠ A 11 q := (hout 11 q l11).symm
  have ob3 : out ≠ b3 := by
    rcases b4 with h | h
    · omega
    · rw [h.2]
      exact (hout 12 q h.1).symm
  refine ⟨h3, z3, e1, ?_, B, K2, rfl, B26, B00, a1, fun k i hl => ?_, hC2, a2, fun x hx hxa => ?_, ?_⟩
  · rw [e5 out o11 ob3, hc_no (fun k i hl => (hout k i hl).symm), hP out ho]
    exact hO.1
  · have hne : B k i ≠ out := by
      rcases a2 k i hl with ⟨r1, r2⟩ | r1
      · rw [r1]
        exact hout k i r2
      · omega
    rw [hset_n hne]
    by_cases c11 : k = 11 ∧ i = q
    · obtain ⟨rfl, rfl⟩ := c11
      rw [B11, e2]
      show _ = some (aO 2 [.int (iI (lcnt S2 i)), .ref (if lcnt S2 i = 0 then B 26 0 else B 12 i), .int (iI (lcnt S2 i))])
      rw [hS, if_neg (by omega), B12]
      rfl
    · by_cases c12 : k = 12 ∧ i = q
      · obtain ⟨rfl, rfl⟩ := c12
        rw [B12, e3]
        show _ = some (aR 4 (capN (lcnt S2 i)) (fun j : Nat => if (j : Int) < lcnt S2 i then some (B (okind i) (j : Int)) else none))
        rw [hS]
        refine congrArg (fun g => some (aR 4 (capN (lcnt S i + 1)) g)) (funext fun j => ?_)
        unfold lsF adF
        by_cases d : (j : Int) < lcnt S i + 1
        · rw [if_pos d, if_pos d]
          by_cases g : (j : Int) = lcnt S i
          · rw [if_pos g, g, ← hB, adA_s]
          · rw [if_neg g, ← hB, adA_o (by have := ok12 i; omega) (Or.inl g)]
        · rw [if_neg d, if_neg d]
      · by_cases cn : nwC (okind q) (lcnt S q) k i
        · have eb := adA_b (A := A) (o := z.1) (q := q) (b := b3) hk cn
          rw [hB] at eb
          have hx : B k i ≠ A 11 q := fun e => by have := hold 11 q l11; omega
          have hy : B k i ≠ b3 := fun e => by
            rcases b4 with h | h
            · obtain ⟨r1, r2⟩ := cn
              rw [eb, h] at e
              split at e
              · omega
              · split at e <;> omega
            · have := hold 12 q h.1
              omega
          rw [e5 _ hx hy, eb, hno _ (by omega), ← hB]
          exact hnw2 k i cn b3
        · have hl1 := hlv k i hl c12 cn
          rcases a2 k i hl with ⟨r1, r2⟩ | r1
          · have hx : A k i ≠ A 11 q := fun e => c11 (hA k 11 i q (Nat.lt_succ_of_lt hl1.1) (by decide) hl1.2.1 q0 e)
            have hy : A k i ≠ b3 := fun e => by
              rcases b4 with h | h
              · have := hold k i hl1
                omega
              · rw [h.2] at e
                exact c12 (hA k 12 i q (Nat.lt_succ_of_lt hl1.1) (by decide) hl1.2.1 q0 e)
            rw [r1, e5 _ hx hy, hc_at hA hl1, hcell B k i hl1 c11 c12]
            refine congrArg some (cell_A2 hV (fun k2 i2 hl2 hk2 => ?_) B26 (fun h => ?_) hl1).symm
            · rw [← hB]
              refine adA_o (by omega) ?_
              have := hnw k2 i2 hl2
              unfold nwC at this
              by_cases g : i2 = lcnt S q
              · right; omega
              · exact Or.inl g
            · rw [← hB]
              exact adA_o (by omega) (Or.inr ⟨by omega, Or.inl (by decide), Or.inr (Or.inl (by decide))⟩)
          · exfalso
            have h4 : B k i = A k i := by
              rw [← hB]
              refine adA_o c12 ?_
              unfold nwC at cn
              by_cases g : i = lcnt S q
              · right; omega
              · exact Or.inl g
            have := hold k i hl1
            omega
  · unfold PO
    by_cases c : x = out
    · rw [c, hset_s, hset_s]
    · have hx1 : x ≠ A 11 q := (hxa 11 q (by decide) q0).symm
      have hx2 : x ≠ b3 := by
        rcases b4 with h | h
        · omega
        · rw [h.2]
          exact (hxa 12 q (by decide) q0).symm
      rw [hset_n c, hset_n c, e5 x hx1 hx2, hc_no (fun k i hl => (hxa k i (Nat.lt_succ_of_lt hl.1) hl.2.1).symm), hP x hx]
  · have ne : A 26 0 ≠ b3 := fun e => by
      rcases b4 with h | h
      · rw [e, h, hPz] at he
        exact absurd he (by simp)
      · rw [h.2] at e
        exact absurd (hA 26 12 0 q (by decide) (by decide) (by decide) q0 e).1 (by decide)
    rw [hset_n (hO.2 26 0 (by decide) (by decide)), e5 (A 26 0) (fun e => absurd (hA 26 11 0 q (by decide) (by decide) (by decide) q0 e).1 (by decide)) ne, he2]
