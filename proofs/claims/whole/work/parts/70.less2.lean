/-! PURE LAYER: a lesson is added (class) -/
def zrK (K : KK) (n : Int) : KK := fun k i j => if (5 ≤ k ∧ k ≤ 9) ∧ i = n then 0 else K k i j
section
variable {S U : SS} {n : Nat}
theorem busy_L (h20 : U 20 4 = (n : Int) + 1) (h2 : S 20 4 = (n : Int)) (h : ∀ k : Int, k ≠ (n : Int) → U 9 k = S 9 k ∧ U 10 k = S 10 k ∧ U 12 k = S 12 k ∧ U 13 k = S 13 k) (h14 : U 14 = S 14) (hn : S 14 (n : Int) = -1) (g t : Int) : busyP U g t = busyP S g t := by
  refine eq_tt ?_
  rw [busy_iff, busy_iff, h20, h2, h14]
  constructor
  · rintro ⟨j, j1, j9, j0, j2, j3⟩
    have c : j ≠ n := fun c => by
      rw [c, hn] at j0
      exact absurd j0 (by decide)
    have hj := h (j : Int) (by omega)
    rw [hj.1] at j9
    rw [hj.2.2.1] at j3
    exact ⟨j, by omega, j9, j0, j2, j3⟩
  · rintro ⟨j, j1, j9, j0, j2, j3⟩
    have hj := h (j : Int) (by omega)
    rw [← hj.1] at j9
    rw [← hj.2.2.1] at j3
    exact ⟨j, by omega, j9, j0, j2, j3⟩
theorem amt_addL (h20 : U 20 4 = (n : Int) + 1) (h2 : S 20 4 = (n : Int)) (h3 : U 20 3 = S 20 3) (h : ∀ k : Int, k ≠ (n : Int) → U 9 k = S 9 k ∧ U 10 k = S 10 k ∧ U 12 k = S 12 k ∧ U 13 k = S 13 k) (h14 : U 14 = S 14) (h4 : U 4 = S 4) (h6 : U 6 = S 6) (hn : S 14 (n : Int) = -1) (p : Int) : amt U p = amt S p := by
  have e0 : ∀ k : Int, gapK U k = gapK S k := fun k => gpF_eq 6 _ _ _ (fun t _ _ => busy_L h20 h2 h h14 hn _ t)
  have eS : ∀ f g : Nat → Int, (∀ k, k < n → f k = g k) → f n = 0 → sumN f (U 20 4).toNat = sumN g (S 20 4).toNat := fun f g hk h0 => by
    rw [h20, h2, show ((n : Int) + 1).toNat = n + 1 by omega, show ((n : Nat) : Int).toNat = n by omega]
    show sumN f n + f n = _
    rw [h0, Int.add_zero]
    exact sumN_c n hk
  have nn : ¬ (0 : Int) ≤ -1 := by decide
  unfold amt
  rw [h3]
  by_cases c0 : p = 0
  · rw [if_pos c0, if_pos c0]
    simp only [e0]
  · rw [if_neg c0, if_neg c0]
    by_cases c1 : p = 1
    · rw [if_pos c1, if_pos c1]
      refine eS _ _ (fun k hk => ?_) ?_
      · have hj := h (k : Int) (by omega)
        show lateK U (k : Int) = lateK S (k : Int)
        unfold lateK
        rw [h14, hj.2.2.1, h4, hj.2.1]
      · show lateK U (n : Int) = 0
        unfold lateK
        rw [h14, hn]
        exact if_neg (fun w => nn w.1)
    · rw [if_neg c1, if_neg c1]
      by_cases c2 : p = 2
      · rw [if_pos c2, if_pos c2]
        refine eS _ _ (fun k hk => ?_) ?_
        · have hj := h (k : Int) (by omega)
          show wsI U (k : Int) = wsI S (k : Int)
          unfold wsI
          rw [h14, hj.2.2.1, h6, hj.2.1]
        · show wsI U (n : Int) = 0
          unfold wsI
          rw [h14, hn]
          exact if_neg nn
      · rw [if_neg c2, if_neg c2]
        refine eS _ _ (fun k hk => sumN_c k (fun j hj2 => ?_)) (sm_z n (fun j _ => ?_))
        · have hj := h (k : Int) (by omega)
          have hi := h (j : Int) (by omega)
          show crI U (k : Int) (j : Int) = crI S (k : Int) (j : Int)
          unfold crI
          rw [h14, hj.1, hi.1, hj.2.2.2, hi.2.2.2]
        · show crI U (n : Int) (j : Int) = 0
          unfold crI
          rw [h14, hn]
          exact if_neg (fun w => nn w.1)
end
theorem aL_f2 {S : SS} {a b c d e n m l : Int} (hl : l ≠ n) : (upS (upS (upS (upS (upS (upS S 9 n a) 10 n b) 11 n c) 12 n d) 13 n e) 20 4 m) 9 l = S 9 l ∧ (upS (upS (upS (upS (upS (upS S 9 n a) 10 n b) 11 n c) 12 n d) 13 n e) 20 4 m) 10 l = S 10 l ∧ (upS (upS (upS (upS (upS (upS S 9 n a) 10 n b) 11 n c) 12 n d) 13 n e) 20 4 m) 12 l = S 12 l ∧ (upS (upS (upS (upS (upS (upS S 9 n a) 10 n b) 11 n c) 12 n d) 13 n e) 20 4 m) 13 l = S 13 l := by
  refine ⟨?_, ?_, ?_, ?_⟩
  · rw [upS_g (by decide), upS_g (by decide), upS_g (by decide), upS_g (by decide), upS_g (by decide), upS_i hl]
  · rw [upS_g (by decide), upS_g (by decide), upS_g (by decide), upS_g (by decide), upS_i hl, upS_g (by decide)]
  · rw [upS_g (by decide), upS_g (by decide), upS_i hl, upS_g (by decide), upS_g (by decide), upS_g (by decide)]
  · rw [upS_g (by decide), upS_i hl, upS_g (by decide), upS_g (by decide), upS_g (by decide), upS_g (by decide)]
theorem CI_addLT {S : SS} {K : KK} {a b c d e : Int} (hV : VS S) (hC : CI S K) (h14 : S 14 (S 20 4) = -1) : CI (upS (upS (upS (upS (upS (upS S 9 (S 20 4) a) 10 (S 20 4) b) 11 (S 20 4) c) 12 (S 20 4) d) 13 (S 20 4) e) 20 4 ((S 20 4) + 1)) (zrK K (S 20 4)) := fun p p0 p1 => by
  have hm := hV.2.1
  unfold Bm at hm
  have hn : (((S 20 4).toNat : Nat) : Int) = S 20 4 := by omega
  have e1 : zrK K (S 20 4) 21 0 p = K 21 0 p := if_neg (fun w => absurd w.1.2 (by decide))
  have e2 := amt_addL (S := S) (U := upS (upS (upS (upS (upS (upS S 9 (S 20 4) a) 10 (S 20 4) b) 11 (S 20 4) c) 12 (S 20 4) d) 13 (S 20 4) e) 20 4 ((S 20 4) + 1)) (n := (S 20 4).toNat) (by rw [hn]; rfl) hn.symm rfl (fun k hk => aL_f2 (by omega)) (by rw [upS_g (by decide), upS_g (by decide), upS_g (by decide), upS_g (by decide), upS_g (by decide), upS_g (by decide)]) (by rw [upS_g (by decide), upS_g (by decide), upS_g (by decide), upS_g (by decide), upS_g (by decide), upS_g (by decide)]) (by rw [upS_g (by decide), upS_g (by decide), upS_g (by decide), upS_g (by decide), upS_g (by decide), upS_g (by decide)]) (by rw [hn]; exact h14) p
  rw [e1, e2]
  exact hC p p0 p1
theorem CI_addL {S : SS} {K : KK} {a b c d e : Int} (hV : VS S) (hC : CI S K) (h14 : S 14 (S 20 4) = -1) : CI (upS (upS (upS (upS (upS (upS S 9 (S 20 4) a) 10 (S 20 4) b) 11 (S 20 4) c) 12 (S 20 4) d) 13 (S 20 4) e) 20 4 ((S 20 4) + 1)) (zrK K (S 20 4)) := CI_addLT hV hC h14
theorem c_addLesson_0 {A : AA} {P : Hp} {S : SS} {K : KK} {z : Nat × Nat} (hA : GA A) (hV : VS S) (hC : CI S K) {out : Nat} {f : Nat → Int64} (hO : OutI A P out f) (ho : out < z.1) (hF : Fr A P S z) (h8 : S 8 (S 20 4) = 0) (h14 : S 14 (S 20 4) = -1) {a b c d e : Int} (ha : 0 ≤ a ∧ a < S 20 3) (hb : 0 ≤ b ∧ b < S 20 2) (hc : 0 ≤ c ∧ c ≤ 3) (hd : 1 ≤ d ∧ d ≤ 3) (he : 0 ≤ e ∧ e ≤ 9) (h2 : S 20 4 < 16) : ∃ h2 z2, f_L_addLesson (some (A 0 0)) (iI a) (iI b) (iI c) (iI d) (iI e) (some out) (Hc A P S K, z) = some (.ok (iI 0), (h2, z2)) ∧ Born A P S (upS (upS (upS (upS (upS (upS S 9 (S 20 4) a) 10 (S 20 4) b) 11 (S 20 4) c) 12 (S 20 4) d) 13 (S 20 4) e) 20 4 ((S 20 4) + 1)) out f (S 20 4) z h2 z2 := by
  have hm := hV.2.1
  have hm2 := hm
  unfold Bm at hm2
  have f0 : ∀ (k : Nat) (i : Int), k < 27 → 0 ≤ i → A k i ≠ z.1 := hF.no (j := 0) (by decide)
  obtain ⟨P2, ei, p0, p1, p2, p3, p4, p5⟩ := e_X4_init (P := P) (S := S) (K := K) hA (o := z.1) (e0 := z.2) (g := A 4 a) (t := A 2 b) (n := iI (S 20 4)) (k := iI c) (c := iI e) hd.1 hd.2 (fun j hj => hF.no (j := j) (by omega))
  simp only [li_0] at ei
  obtain ⟨w1, w2, w3, w4, w5, w6⟩ := hF
  have hl := live_ad (S2 := (upS (upS (upS (upS (upS (upS S 9 (S 20 4) a) 10 (S 20 4) b) 11 (S 20 4) c) 12 (S 20 4) d) 13 (S 20 4) e) 20 4 ((S 20 4) + 1))) hm (q := 3) (by decide) (by decide) rfl (fun j j0 j1 j2 => by
    rcases (show j = 0 ∨ j = 1 ∨ j = 2 by omega) with rfl | rfl | rfl <;> rfl)
  obtain ⟨h3, z3, e1, e2, e3⟩ := born_of (K := K) (P2 := P2) (z1 := z.1 + 5) (K2 := zrK K (S 20 4)) (q := 3) (v := S 20 4) (S2 := (upS (upS (upS (upS (upS (upS S 9 (S 20 4) a) 10 (S 20 4) b) 11 (S 20 4) c) 12 (S 20 4) d) 13 (S 20 4) e) 20 4 ((S 20 4) + 1))) hA hV (CI_addL hV hC h14) (by decide) (by decide) (by show S 20 4 ≤ 15; omega) rfl w1 w3 ((p5 _ (by omega)).trans w4) hO ho (fun x hx => p5 x (by omega)) ⟨by omega, fun h => absurd h (by decide), fun _ => by omega⟩ ((p5 _ (by omega)).trans (w6 _ (by omega))) (fun k i hn bb => by
      obtain ⟨rfl, hn⟩ := hn
      have o2 : okind 3 = 5 := rfl
      rw [o2] at hn
      have zk : ∀ k j, 5 ≤ k → k ≤ 9 → zrK K (S 20 4) k (S 20 4) j = 0 := fun k j h1 h2 => if_pos ⟨⟨h1, h2⟩, rfl⟩
      have k4 : k = 5 ∨ k = 6 ∨ k = 7 ∨ k = 8 ∨ k = 9 := by omega
      rcases k4 with rfl | rfl | rfl | rfl | rfl
      · refine p0.trans ?_
        have x9 : (upS (upS (upS (upS (upS (upS S 9 (S 20 4) a) 10 (S 20 4) b) 11 (S 20 4) c) 12 (S 20 4) d) 13 (S 20 4) e) 20 4 ((S 20 4) + 1)) 9 (S 20 4) = a := by rw [upS_g (by decide), upS_g (by decide), upS_g (by decide), upS_g (by decide), upS_g (by decide), upS_s]
        have x10 : (upS (upS (upS (upS (upS (upS S 9 (S 20 4) a) 10 (S 20 4) b) 11 (S 20 4) c) 12 (S 20 4) d) 13 (S 20 4) e) 20 4 ((S 20 4) + 1)) 10 (S 20 4) = b := by rw [upS_g (by decide), upS_g (by decide), upS_g (by decide), upS_g (by decide), upS_s]
        have x11 : (upS (upS (upS (upS (upS (upS S 9 (S 20 4) a) 10 (S 20 4) b) 11 (S 20 4) c) 12 (S 20 4) d) 13 (S 20 4) e) 20 4 ((S 20 4) + 1)) 11 (S 20 4) = c := by rw [upS_g (by decide), upS_g (by decide), upS_g (by decide), upS_s]
        have x12 : (upS (upS (upS (upS (upS (upS S 9 (S 20 4) a) 10 (S 20 4) b) 11 (S 20 4) c) 12 (S 20 4) d) 13 (S 20 4) e) 20 4 ((S 20 4) + 1)) 12 (S 20 4) = d := by rw [upS_g (by decide), upS_g (by decide), upS_s]
        have x13 : (upS (upS (upS (upS (upS (upS S 9 (S 20 4) a) 10 (S 20 4) b) 11 (S 20 4) c) 12 (S 20 4) d) 13 (S 20 4) e) 20 4 ((S 20 4) + 1)) 13 (S 20 4) = e := by rw [upS_g (by decide), upS_s]
        have x14 : (upS (upS (upS (upS (upS (upS S 9 (S 20 4) a) 10 (S 20 4) b) 11 (S 20 4) c) 12 (S 20 4) d) 13 (S 20 4) e) 20 4 ((S 20 4) + 1)) 14 (S 20 4) = -1 := by rw [upS_g (by decide), upS_g (by decide), upS_g (by decide), upS_g (by decide), upS_g (by decide), upS_g (by decide), h14]
        have x8 : (upS (upS (upS (upS (upS (upS S 9 (S 20 4) a) 10 (S 20 4) b) 11 (S 20 4) c) 12 (S 20 4) d) 13 (S 20 4) e) 20 4 ((S 20 4) + 1)) 8 (S 20 4) = 0 := by rw [upS_g (by decide), upS_g (by decide), upS_g (by decide), upS_g (by decide), upS_g (by decide), upS_g (by decide), h8]
        show _ = some (aO 7 (cLes (adA A 5 (S 20 4) z.1 3 bb) (upS (upS (upS (upS (upS (upS S 9 (S 20 4) a) 10 (S 20 4) b) 11 (S 20 4) c) 12 (S 20 4) d) 13 (S 20 4) e) 20 4 ((S 20 4) + 1)) (zrK K (S 20 4)) (S 20 4)))
        unfold cLes
        rw [x9, x10, x11, x12, x13, x14, x8, zk 5 11 (by decide) (by decide), zk 5 12 (by decide) (by decide), zk 5 13 (by decide) (by decide), zk 5 16 (by decide) (by decide), adA_o (k := 4) (by omega) (Or.inr ⟨by decide, by decide, by decide⟩), adA_o (k := 2) (by omega) (Or.inr ⟨by decide, by decide, by decide⟩), adA_b (k := 6) (by decide) ⟨rfl, by decide⟩, adA_b (k := 7) (by decide) ⟨rfl, by decide⟩, adA_b (k := 8) (by decide) ⟨rfl, by decide⟩, adA_b (k := 9) (by decide) ⟨rfl, by decide⟩]
        rfl
      · exact p1.trans (congrArg (fun g => some (aI 0 8 g)) (funext fun j => (zk 6 _ (by decide) (by decide)).symm))
      · exact p2.trans (congrArg (fun g => some (aI 0 8 g)) (funext fun j => (zk 7 _ (by decide) (by decide)).symm))
      · exact p3.trans (congrArg (fun g => some (aI 0 3 g)) (funext fun j => (zk 8 _ (by decide) (by decide)).symm))
      · exact p4.trans (congrArg (fun g => some (aI 0 5 g)) (funext fun j => (zk 9 _ (by decide) (by decide)).symm))) (fun B k i hl c1 c2 => by
      have l2 := hl.2.2.1
      have hz : ∀ k2 j, (k2 < 5 ∨ 9 < k2) → zrK K (S 20 4) k2 i j = K k2 i j := fun k2 j hk => if_neg (fun z => by omega)
      have hy : ∀ k2 j, i ≠ S 20 4 → zrK K (S 20 4) k2 i j = K k2 i j := fun k2 j hk => if_neg (fun z => hk z.2)
      unfold cell
      split
      all_goals first
        | rfl
        | skip
      · have l3 : i < S 20 4 := l2
        have y9 : (upS (upS (upS (upS (upS (upS S 9 (S 20 4) a) 10 (S 20 4) b) 11 (S 20 4) c) 12 (S 20 4) d) 13 (S 20 4) e) 20 4 ((S 20 4) + 1)) 9 i = S 9 i := by rw [upS_g (by decide), upS_g (by decide), upS_g (by decide), upS_g (by decide), upS_g (by decide), upS_i (by omega)]
        have y10 : (upS (upS (upS (upS (upS (upS S 9 (S 20 4) a) 10 (S 20 4) b) 11 (S 20 4) c) 12 (S 20 4) d) 13 (S 20 4) e) 20 4 ((S 20 4) + 1)) 10 i = S 10 i := by rw [upS_g (by decide), upS_g (by decide), upS_g (by decide), upS_g (by decide), upS_i (by omega), upS_g (by decide)]
        have y11 : (upS (upS (upS (upS (upS (upS S 9 (S 20 4) a) 10 (S 20 4) b) 11 (S 20 4) c) 12 (S 20 4) d) 13 (S 20 4) e) 20 4 ((S 20 4) + 1)) 11 i = S 11 i := by rw [upS_g (by decide), upS_g (by decide), upS_g (by decide), upS_i (by omega), upS_g (by decide), upS_g (by decide)]
        have y12 : (upS (upS (upS (upS (upS (upS S 9 (S 20 4) a) 10 (S 20 4) b) 11 (S 20 4) c) 12 (S 20 4) d) 13 (S 20 4) e) 20 4 ((S 20 4) + 1)) 12 i = S 12 i := by rw [upS_g (by decide), upS_g (by decide), upS_i (by omega), upS_g (by decide), upS_g (by decide), upS_g (by decide)]
        have y13 : (upS (upS (upS (upS (upS (upS S 9 (S 20 4) a) 10 (S 20 4) b) 11 (S 20 4) c) 12 (S 20 4) d) 13 (S 20 4) e) 20 4 ((S 20 4) + 1)) 13 i = S 13 i := by rw [upS_g (by decide), upS_i (by omega), upS_g (by decide), upS_g (by decide), upS_g (by decide), upS_g (by decide)]
        have y14 : (upS (upS (upS (upS (upS (upS S 9 (S 20 4) a) 10 (S 20 4) b) 11 (S 20 4) c) 12 (S 20 4) d) 13 (S 20 4) e) 20 4 ((S 20 4) + 1)) 14 i = S 14 i := by rw [upS_g (by decide), upS_g (by decide), upS_g (by decide), upS_g (by decide), upS_g (by decide), upS_g (by decide)]
        have y8 : (upS (upS (upS (upS (upS (upS S 9 (S 20 4) a) 10 (S 20 4) b) 11 (S 20 4) c) 12 (S 20 4) d) 13 (S 20 4) e) 20 4 ((S 20 4) + 1)) 8 i = S 8 i := by rw [upS_g (by decide), upS_g (by decide), upS_g (by decide), upS_g (by decide), upS_g (by decide), upS_g (by decide)]
        unfold cLes
        rw [y9, y10, y11, y12, y13, y14, y8, hy 5 11 (by omega), hy 5 12 (by omega), hy 5 13 (by omega), hy 5 16 (by omega)]
      · have l4 : i < 4 := l2
        have l0 := hl.2.1
        rcases (show i = 0 ∨ i = 1 ∨ i = 2 by omega) with rfl | rfl | rfl <;> rfl
      · have l4 : i < 4 := l2
        have l0 := hl.2.1
        rcases (show i = 0 ∨ i = 1 ∨ i = 2 by omega) with rfl | rfl | rfl <;> rfl
      · exact congrArg (aI 0 8) (funext fun j => hy 6 _ (by have l3 : i < S 20 4 := l2; omega))
      · exact congrArg (aI 0 8) (funext fun j => hy 7 _ (by have l3 : i < S 20 4 := l2; omega))
      · exact congrArg (aI 0 3) (funext fun j => hy 8 _ (by have l3 : i < S 20 4 := l2; omega))
      · exact congrArg (aI 0 5) (funext fun j => hy 9 _ (by have l3 : i < S 20 4 := l2; omega))) hl.1 hl.2
  refine ⟨_, _, ?_, e3⟩
  unfold f_L_addLesson f_X8_addLesson
  simp -implicitDefEqProofs (disch := omega) only [↓reduceIte, ↓e_lets, ↓e_ite, ↓e_cal, e_cal2, e_cal3, e_thr, e_nthrow, e_rtn, e_r0, e_r1, e_dv, iI_add, iI_sub, iI_mul, iI_neg, iI_div, iI_rem, iI_lt, iI_le, iI_eq, b_eq0, b_eq1, Int.reduceAdd, Int.reduceMul, Int.reduceSub, Int.reduceNeg, Int.reduceDiv, Int.reduceMod, Nat.reduceAdd, Bool.false_eq_true, eq_self, ltT, ltF, leT, leF, eqT, eqF, true_and, and_true, false_and, and_false, and_self, or_true, true_or, or_false, false_or, ne_eq, not_true_eq_false, not_false_eq_true, if_true, if_false, ite_true, ite_false, ite_not, some_none, some_some, none_some, none_none, A_eq hA, li_0, li_1, li_2, li_3, li_4, li_5, li_6, li_7, li_8, li_9, li_10, li_11, li_12, li_13, li_14, li_15, li_16, li_17, li_18, li_19, li_20, li_21, li_22, li_23, li_24, li_25, li_26, li_27, li_28, li_29, li_30, li_31, li_32, li_63, li_64, li_99, li_100, li_128, li_240, li_256, li_512, li_960, li_1000, li_1022, li_1023, li_100000, li_m1, li_m1000, ↓r_v0 hA, ↓r_c0 hA, ↓r_0_0 hA, ↓r_0_1 hA, ↓r_0_2 hA, ↓r_0_3 hA, ↓r_0_4 hA, ↓r_0_5 hA, ↓r_0_6 hA, ↓r_0_7 hA, ↓r_0_8 hA, ↓r_0_9 hA, ↓r_v1 hA, ↓r_c1 hA, ↓r_1_0 hA, ↓r_1_1 hA, ↓r_1_2 hA, ↓r_1_3 hA, ↓r_1_4 hA, ↓r_v2 hA, ↓r_c2 hA, ↓r_2_0 hA, ↓r_2_1 hA, ↓r_2_2 hA, ↓r_v4 hA, ↓r_c4 hA, ↓r_4_0 hA, ↓r_v5 hA, ↓r_c5 hA, ↓r_5_0 hA, ↓r_5_1 hA, ↓r_5_2 hA, ↓r_5_3 hA, ↓r_5_4 hA, ↓r_5_5 hA, ↓r_5_6p hA, ↓r_5_6n hA, ↓r_5_7p hA, ↓r_5_7n hA, ↓r_5_8 hA, ↓r_5_9 hA, ↓r_5_10 hA, ↓r_5_11 hA, ↓r_5_12 hA, ↓r_5_13 hA, ↓r_5_14 hA, ↓r_5_15 hA, ↓r_5_16 hA, ↓r_5_17 hA, ↓r_v11 hA, ↓r_c11 hA, ↓r_11_0 hA, ↓r_11_1p hA, ↓r_11_2 hA, ↓r_v13 hA, ↓r_c13 hA, ↓r_13_0 hA, ↓r_13_1 hA, ↓r_13_2 hA, ↓r_13_3 hA, ↓r_13_4 hA, ↓r_13_5 hA, ↓r_v14 hA, ↓r_c14 hA, ↓r_14_0 hA, ↓r_v15 hA, ↓r_c15 hA, ↓r_15_0 hA, ↓r_15_1 hA, ↓r_v16 hA, ↓r_c16 hA, ↓r_16_0 hA, r_l3 hA, ↓r_l3 hA, ↓r_n3 hA, r_a3 hA, r_l10 hA, ↓r_l10 hA, ↓r_n10 hA, r_a10 hA, r_l20 hA, ↓r_l20 hA, ↓r_n20 hA, r_a20 hA, r_l6 hA, ↓r_l6 hA, ↓r_n6 hA, r_a6 hA, r_l7 hA, ↓r_l7 hA, ↓r_n7 hA, r_a7 hA, r_l8 hA, ↓r_l8 hA, ↓r_n8 hA, r_a8 hA, r_l9 hA, ↓r_l9 hA, ↓r_n9 hA, r_a9 hA, r_l18 hA, ↓r_l18 hA, ↓r_n18 hA, r_a18 hA, r_l19 hA, ↓r_l19 hA, ↓r_n19 hA, r_a19 hA, r_l21 hA, ↓r_l21 hA, ↓r_n21 hA, r_a21 hA, r_l22 hA, ↓r_l22 hA, ↓r_n22 hA, r_a22 hA, r_l23 hA, ↓r_l23 hA, ↓r_n23 hA, r_a23 hA, r_l24 hA, ↓r_l24 hA, ↓r_n24 hA, r_a24 hA, r_l25 hA, ↓r_l25 hA, ↓r_n25 hA, r_a25 hA, r_l17 hA, ↓r_l17 hA, ↓r_n17 hA, r_sz0 hA, r_gt0 hA, r_sz1 hA, r_gt1 hA, r_sz2 hA, r_gt2 hA, r_sz3 hA, r_gt3 hA, w_s6 hA, w_s7 hA, w_s8 hA, w_s9 hA, w_s18 hA, w_s19 hA, w_s21 hA, w_s22 hA, w_s23 hA, w_s24 hA, w_s25 hA, w_f11 hA, w_f12 hA, w_f13 hA, w_f16 hA, Nat.reduceEqDiff, ↓w_nw hA f0, e_gnum1 hA hm, e_tnum1 hA hm, ei, e1, x_stL (hs := (h3, z3, z.2)) e2, e_out0, e_out1]
