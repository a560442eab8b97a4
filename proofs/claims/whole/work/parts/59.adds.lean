/-! PURE LAYER: what is added to a list; the adds (class) -/
theorem x_stO {R : Type} {ca : List Nat} {a b n c : Nat} {fs : List Value} {f : Nat → Option Nat} {i : Int32} {K : OO R} {hs : Hs} (h1 : hs.1 a = some (aR 4 n f)) (h2 : hs.1 b = some (aO c fs)) (h3 : c ∈ ca) (h4 : ¬ (i < 0 ∨ n ≤ i.toNatClampNeg)) : stO ca (some a) i (some b) K hs = K (hset hs.1 a (aR 4 n (va_up f i.toNatClampNeg (some b))), hs.2) := by
  simp only [stO, h1, h2, h3, h4, true_and, and_true, not_false_eq_true, if_true]
theorem x_nwO {R : Type} {n : Int32} {B : Nat} {K : Nat → OO R} {hs : Hs} (h : ¬ n < 0 ∧ n.toNatClampNeg ≤ B) : nwO n B K hs = K hs.2.1 (hset hs.1 hs.2.1 (aR 4 n.toNatClampNeg (fun _ => none)), hs.2.1 + 1, hs.2.2) := if_pos h
theorem x_arrO {R : Type} {a n : Nat} {f : Nat → Option Nat} {K : OO R} {hs : Hs} (h1 : hs.1 a = some (aR 4 n f)) : arrO (some a) K hs = K hs := by
  simp only [arrO, h1, if_true]
theorem x_cpy {R : Type} {a b n m : Nat} {f g : Nat → Option Nat} {k : Int32} {K : OO R} {hs : Hs} (h1 : hs.1 a = some (aR 4 n f)) (h2 : hs.1 b = some (aR 4 m g)) (h3 : ¬ k < 0 ∧ k.toNatClampNeg ≤ n ∧ k.toNatClampNeg ≤ m ∧ 0 < m ∧ 0 < n ∧ lesUp hs.1 f k.toNatClampNeg = true) : cpy (some a) (some b) k K hs = K (hset hs.1 b (aR 4 m (va_cpy f g 0 0 k.toNatClampNeg)), hs.2) := by
  simp only [cpy, h1, h2, h3, true_and, and_true, not_false_eq_true, if_true]
def lsF (F : Nat → Option Nat) (n : Int) : Nat → Option Nat := fun j => if (j : Int) < n then F j else none
theorem lsF_up {F : Nat → Option Nat} {n : Int} {o : Nat} (hn : 0 ≤ n) (hF : F n.toNat = some o) : va_up (lsF F n) n.toNat (some o) = lsF F (n + 1) := by
  funext j
  unfold va_up lsF
  by_cases c : j = n.toNat
  · rw [if_pos c, if_pos (by omega), c, hF]
  · rw [if_neg c]
    by_cases d : (j : Int) < n
    · rw [if_pos d, if_pos (by omega)]
    · rw [if_neg d, if_neg (by omega)]
theorem lsF_cpy {F : Nat → Option Nat} {n : Nat} : va_cpy (lsF F (n : Int)) (fun _ => none) 0 0 n = lsF F (n : Int) := by
  funext j
  unfold va_cpy lsF
  by_cases d : (j : Int) < (n : Int)
  · rw [if_pos ⟨by omega, by omega⟩]
    show (if ((0 + (j - 0) : Nat) : Int) < (n : Int) then F (0 + (j - 0)) else none) = _
    rw [show 0 + (j - 0) = j by omega]
  · rw [if_neg (fun z => d (by omega)), if_neg d]
theorem lsF_none {F : Nat → Option Nat} : (fun _ => none) = lsF F 0 := by
  funext j
  unfold lsF
  rw [if_neg (by omega)]
/-- what a list's cell and the array behind it are, with n entries F -/
def lsC (n : Int) (b : Nat) : Ce := aO 2 [.int (iI n), .ref b, .int (iI n)]
def lsB (F : Nat → Option Nat) (n : Int) : Ce := aR 4 (capN n) (lsF F n)
theorem add_in {h : Hp} {z : Nat × Nat} {a b o c : Nat} {fs : List Value} {n : Int} {cp : Nat} {F : Nat → Option Nat} {m : Int} (hn : 0 ≤ n) (hn2 : n < (cp : Int)) (hc : cp ≤ 22) (hm : 0 ≤ m) (h1 : h a = some (aO 2 [.int (iI m), .ref b, .int (iI n)])) (h2 : h b = some (aR 4 cp (lsF F n))) (ho : h o = some (aO c fs)) (hc2 : c ∈ [5, 7, 8, 10]) (hF : F n.toNat = some o) (hab : a ≠ b) : j_Jx4a65c_add_72be8_11 (some a) (some o) (some b) (iI n) (h, z) = some (.ok (), (hset (hset h b (aR 4 cp (lsF F (n + 1)))) a (aO 2 [.int (iI m), .ref b, .int (iI (n + 1))]), z)) := by
  unfold j_Jx4a65c_add_72be8_11
  rw [x_stO (hs := (h, z)) h2 ho hc2 (iI_in hn (by omega) (by omega)), iI_clamp hn (by omega), lsF_up hn hF]
  show (pI (some a) 2 2 (iI n + iI 1) (rtn ())) (hset h b (aR 4 cp (lsF F (n + 1))), z) = _
  rw [iI_add]
  exact x_pV (hs := (hset h b (aR 4 cp (lsF F (n + 1))), z)) (c := 2) (k := 2) (fs := [.int (iI m), .ref b, .int (iI n)]) ((hset_n hab).trans h1) (by show 2 < 3; decide)
theorem add_keep {h : Hp} {z : Nat × Nat} {a b o c : Nat} {fs : List Value} {n : Int} {F : Nat → Option Nat} (hn : 0 < n) (hn2 : n < (capN n : Int)) (h1 : h a = some (lsC n b)) (h2 : h b = some (lsB F n)) (ho : h o = some (aO c fs)) (hc2 : c ∈ [5, 7, 8, 10]) (hF : F n.toNat = some o) (hab : a ≠ b) (hao : a ≠ o) : ∃ h3 : Hp, f_Jx4a65c_add_9ea2d a (some o) (h, z) = some (.ok (iI 1), (h3, z)) ∧ h3 a = some (lsC (n + 1) b) ∧ h3 b = some (aR 4 (capN n) (lsF F (n + 1))) ∧ ∀ q, q ≠ a → q ≠ b → h3 q = h q := by
  have hcp : (capN n : Int) ≤ 22 := by
    unfold capN
    split
    · decide
    · split <;> decide
  generalize hX : aO 2 [.int (iI (n + 1)), .ref b, .int (iI n)] = X
  have g1 : hset h a X a = some (aO 2 [.int (iI (n + 1)), .ref b, .int (iI n)]) := by rw [hset_s, hX]
  have g2 : hset h a X b = some (aR 4 (capN n) (lsF F n)) := (hset_n hab.symm).trans h2
  have g3 : hset h a X o = some (aO c fs) := (hset_n hao.symm).trans ho
  have g4 := add_in (z := z) (m := n + 1) (h := hset h a X) (by omega) hn2 (by omega) (by omega) g1 g2 g3 hc2 hF hab
  have n1 : iI n + (1 : Int32) = iI (n + 1) := by
    rw [li_1, iI_add]
  have ea : f_Jx4a65c_add_72be8 a (some o) (some b) (iI n) (hset h a X, z) = some (.ok (), (hset (hset (hset h a X) b (aR 4 (capN n) (lsF F (n + 1)))) a (aO 2 [.int (iI (n + 1)), .ref b, .int (iI (n + 1))]), z)) := by
    unfold f_Jx4a65c_add_72be8
    rw [x_alen (hs := (hset h a X, z)) g2 (by decide)]
    have hne : ¬ iI n = Int32.ofNat (capN n) := by
      rw [show Int32.ofNat (capN n) = iI (capN n : Int) from (Int32.ofInt_eq_ofNat).symm]
      intro e
      have := (iI_eq (by omega) (by omega) (by omega) (by omega)).mp e
      omega
    rw [if_pos hne, g4]
  refine ⟨hset (hset (hset h a X) b (aR 4 (capN n) (lsF F (n + 1)))) a (aO 2 [.int (iI (n + 1)), .ref b, .int (iI (n + 1))]), ?_, hset_s, ?_, ?_⟩
  · unfold f_Jx4a65c_add_9ea2d
    rw [x_gI (hs := (h, z)) (x := iI n) h1 rfl, n1]
    show pV (some a) 2 0 (.int (iI (n + 1))) _ (h, z) = _
    rw [x_pV (hs := (h, z)) (c := 2) (k := 0) (fs := [.int (iI n), .ref b, .int (iI n)]) h1 (by show 0 < 3; decide)]
    show (gR (some a) 2 1 fun v2 => _) (hset h a (aO 2 [.int (iI (n + 1)), .ref b, .int (iI n)]), z) = _
    rw [hX, x_gR (hs := (hset h a X, z)) (x := b) g1 rfl, x_gI (hs := (hset h a X, z)) (x := iI n) g1 rfl, x_rcv (hs := (hset h a X, z)) g1, e_call ea]
    rfl
  · rw [hset_n hab.symm, hset_s]
  · intro q q1 q2
    rw [hset_n q1, hset_n q2, hset_n q1]
theorem add_new {h : Hp} {z : Nat × Nat} {a b o c : Nat} {fs : List Value} {n : Int} {F : Nat → Option Nat} (hn : n = 0) (h1 : h a = some (lsC n b)) (hb : b = z.2) (h2 : h b = some ce0) (ho : h o = some (aO c fs)) (hc2 : c ∈ [5, 7, 8, 10]) (hF : F n.toNat = some o) (hab : a ≠ b) (hao : a ≠ o) (hz : h z.1 = none) : ∃ h3 : Hp, f_Jx4a65c_add_9ea2d a (some o) (h, z) = some (.ok (iI 1), (h3, (z.1 + 1, z.2))) ∧ h3 a = some (lsC (n + 1) z.1) ∧ h3 z.1 = some (aR 4 10 (lsF F (n + 1))) ∧ ∀ q, q ≠ a → q ≠ z.1 → h3 q = h q := by
  generalize hX : aO 2 [.int (iI (n + 1)), .ref b, .int (iI n)] = X
  have g1 : hset h a X a = some (aO 2 [.int (iI (n + 1)), .ref b, .int (iI n)]) := by rw [hset_s, hX]
  have g3 : hset h a X o = some (aO c fs) := (hset_n hao.symm).trans ho
  have haz : a ≠ z.1 := fun e => by rw [e, hz] at h1; cases h1
  have hoz : o ≠ z.1 := fun e => by rw [e, hz] at ho; cases ho
  have n1 : iI n + (1 : Int32) = iI (n + 1) := by
    rw [li_1, iI_add]
  have g2 : hset h a X b = some ce0 := (hset_n hab.symm).trans h2
  have ew : f_Jx4a65c_grow_d5877 a (hset h a X, z) = some (.ok (some z.1), (hset (hset (hset h a X) z.1 (aR 4 10 (lsF F n))) a (aO 2 [.int (iI (n + 1)), .ref z.1, .int (iI n)]), (z.1 + 1, z.2))) := by
    have eg : f_Jx4a65c_grow_92f84 a (iI (n + 1)) (hset h a X, z) = some (.ok (some z.1), (hset (hset (hset h a X) z.1 (aR 4 10 (lsF F n))) a (aO 2 [.int (iI (n + 1)), .ref z.1, .int (iI n)]), (z.1 + 1, z.2))) := by
      unfold f_Jx4a65c_grow_92f84
      rw [x_gR (hs := (hset h a X, z)) (x := b) g1 rfl, x_alen (hs := (hset h a X, z)) g2 (by decide), e_lets, if_neg (by decide), x_gR (hs := (hset h a X, z)) (x := b) g1 rfl]
      show (if some b = some z.2 then _ else _ : OO (Option Nat)) (hset h a X, z) = _
      rw [if_pos (by rw [hb]), hn, show (if (10 : Int32) < iI (0 + 1) then iI (0 + 1) else (10 : Int32)) = 10 by decide +kernel, x_nwO (by decide)]
      show pV (some a) 2 1 (.ref z.1) _ (hset (hset h a X) z.1 (aR 4 10 (fun _ => none)), (z.1 + 1, z.2)) = _
      rw [lsF_none (F := F), x_pV (hs := (hset (hset h a X) z.1 (aR 4 10 (lsF F 0)), (z.1 + 1, z.2))) (c := 2) (k := 1) (fs := [.int (iI (n + 1)), .ref b, .int (iI n)]) ((hset_n haz).trans g1) (by show 1 < 3; decide), hn]
      rfl
    unfold f_Jx4a65c_grow_d5877
    rw [x_gI (hs := (hset h a X, z)) (x := iI n) g1 rfl, x_rcv (hs := (hset h a X, z)) g1, n1, e_call eg]
    rfl
  generalize hY : aO 2 [.int (iI (n + 1)), .ref z.1, .int (iI n)] = Y at ew
  have g4 := add_in (z := (z.1 + 1, z.2)) (m := n + 1) (h := hset (hset (hset h a X) z.1 (aR 4 10 (lsF F n))) a Y) (a := a) (b := z.1) (o := o) (c := c) (fs := fs) (n := n) (cp := 10) (F := F) (by omega) (by omega) (by omega) (by omega) (by rw [hset_s, hY]) ((hset_n haz.symm).trans hset_s) ((hset_n hao.symm).trans ((hset_n hoz).trans g3)) hc2 hF haz
  have ea : f_Jx4a65c_add_72be8 a (some o) (some b) (iI n) (hset h a X, z) = some (.ok (), (hset (hset (hset (hset (hset h a X) z.1 (aR 4 10 (lsF F n))) a Y) z.1 (aR 4 10 (lsF F (n + 1)))) a (aO 2 [.int (iI (n + 1)), .ref z.1, .int (iI (n + 1))]), (z.1 + 1, z.2))) := by
    unfold f_Jx4a65c_add_72be8
    rw [x_alen (hs := (hset h a X, z)) g2 (by decide), if_neg (by rw [hn]; decide), x_rcv (hs := (hset h a X, z)) g1, e_call ew, e_lets, g4]
  refine ⟨hset (hset (hset (hset (hset h a X) z.1 (aR 4 10 (lsF F n))) a Y) z.1 (aR 4 10 (lsF F (n + 1)))) a (aO 2 [.int (iI (n + 1)), .ref z.1, .int (iI (n + 1))]), ?_, hset_s, (hset_n haz.symm).trans hset_s, ?_⟩
  · unfold f_Jx4a65c_add_9ea2d
    rw [x_gI (hs := (h, z)) (x := iI n) h1 rfl, n1]
    show pV (some a) 2 0 (.int (iI (n + 1))) _ (h, z) = _
    rw [x_pV (hs := (h, z)) (c := 2) (k := 0) (fs := [.int (iI n), .ref b, .int (iI n)]) h1 (by show 0 < 3; decide)]
    show (gR (some a) 2 1 fun v2 => _) (hset h a (aO 2 [.int (iI (n + 1)), .ref b, .int (iI n)]), z) = _
    rw [hX, x_gR (hs := (hset h a X, z)) (x := b) g1 rfl, x_gI (hs := (hset h a X, z)) (x := iI n) g1 rfl, x_rcv (hs := (hset h a X, z)) g1, e_call ea]
    rfl
  · intro q q1 q2
    rw [hset_n q1, hset_n q2, hset_n q1, hset_n q2, hset_n q1]
theorem nl_10 (hs : Hs) : f_J8_newLength_cabcc (iI 10) (iI (10 + 1) - iI 10) (iI 10 >>> ((1 : Int32) &&& 31)) hs = some (.ok (iI 15), hs) := by
  unfold f_J8_newLength_cabcc
  rw [show iI 10 + (if iI (10 + 1) - iI 10 < (iI 10 >>> ((1 : Int32) &&& 31)) then (iI 10 >>> ((1 : Int32) &&& 31)) else iI (10 + 1) - iI 10) = iI 15 by decide +kernel, e_lets, if_neg (by decide +kernel), if_neg (by decide +kernel)]
  rfl

theorem nl_15 (hs : Hs) : f_J8_newLength_cabcc (iI 15) (iI (15 + 1) - iI 15) (iI 15 >>> ((1 : Int32) &&& 31)) hs = some (.ok (iI 22), hs) := by
  unfold f_J8_newLength_cabcc
  rw [show iI 15 + (if iI (15 + 1) - iI 15 < (iI 15 >>> ((1 : Int32) &&& 31)) then (iI 15 >>> ((1 : Int32) &&& 31)) else iI (15 + 1) - iI 15) = iI 22 by decide +kernel, e_lets, if_neg (by decide +kernel), if_neg (by decide +kernel)]
  rfl

theorem add_g10 {h : Hp} {z : Nat × Nat} {a b o c : Nat} {fs : List Value} {n : Int} {F : Nat → Option Nat} (hn : n = 10) (h1 : h a = some (lsC n b)) (h2 : h b = some (lsB F n)) (hL : ∀ j, j < 10 → ∃ w ws, F j = some w ∧ h w = some (aO 7 ws)) (ho : h o = some (aO c fs)) (hc2 : c ∈ [5, 7, 8, 10]) (hF : F n.toNat = some o) (hab : a ≠ b) (hao : a ≠ o) (hz : h z.1 = none) : ∃ h3 : Hp, f_Jx4a65c_add_9ea2d a (some o) (h, z) = some (.ok (iI 1), (h3, (z.1 + 1, z.2))) ∧ h3 a = some (lsC (n + 1) z.1) ∧ h3 z.1 = some (aR 4 15 (lsF F (n + 1))) ∧ ∀ q, q ≠ a → q ≠ z.1 → h3 q = h q := by
  generalize hX : aO 2 [.int (iI (n + 1)), .ref b, .int (iI n)] = X
  have g1 : hset h a X a = some (aO 2 [.int (iI (n + 1)), .ref b, .int (iI n)]) := by rw [hset_s, hX]
  have g3 : hset h a X o = some (aO c fs) := (hset_n hao.symm).trans ho
  have haz : a ≠ z.1 := fun e => by rw [e, hz] at h1; cases h1
  have hoz : o ≠ z.1 := fun e => by rw [e, hz] at ho; cases ho
  have n1 : iI n + (1 : Int32) = iI (n + 1) := by
    rw [li_1, iI_add]
  have hbz : b ≠ z.1 := fun e => by rw [e, hz] at h2; cases h2
  have g2 : hset h a X b = some (aR 4 10 (lsF F n)) := ((hset_n hab.symm).trans h2).trans (by rw [hn]; rfl)
  have hL2 : lesUp (hset (hset h a X) z.1 (aR 4 15 (lsF F 0))) (lsF F n) 10 = true := by
    unfold lesUp
    refine List.all_eq_true.mpr (fun i hi => ?_)
    obtain ⟨w, ws, e1, e2⟩ := hL i (List.mem_range.mp hi)
    have ca : w ≠ a := fun e => by
      rw [e, h1] at e2
      unfold lsC at e2
      injection e2 with e2
      injection e2 with e2
      injection e2 with e2 e4
      exact absurd e2 (by decide)
    have cz : w ≠ z.1 := fun e => by rw [e, hz] at e2; cases e2
    have e3 : lsF F n i = some w := by
      unfold lsF
      have := List.mem_range.mp hi
      rw [if_pos (by omega), e1]
    rw [e3]
    show (match hset (hset h a X) z.1 (aR 4 15 (lsF F 0)) w with | some (.inr (c, _)) => decide (c = 7) | _ => false) = true
    rw [hset_n cz, hset_n ca, e2]
    rfl
  have ec : f_J7_copyOf_1904c (some b) (iI 15) (hset h a X, z) = some (.ok (some z.1), (hset (hset (hset h a X) z.1 (aR 4 15 (lsF F 0))) z.1 (aR 4 15 (lsF F n)), (z.1 + 1, z.2))) := by
    have e0 : f_J7_copyOf_6403c (some b) (iI 15) (hset h a X, z) = some (.ok (some z.1), (hset (hset (hset h a X) z.1 (aR 4 15 (lsF F 0))) z.1 (aR 4 15 (lsF F n)), (z.1 + 1, z.2))) := by
      unfold f_J7_copyOf_6403c
      rw [x_nwO (by decide +kernel)]
      show j_J7_copyOf_6403c_24 (some b) (iI 15) (some z.1) (hset (hset h a X) z.1 (aR 4 (iI 15).toNatClampNeg (fun _ => none)), (z.1 + 1, z.2)) = _
      rw [show (iI 15).toNatClampNeg = 15 by decide +kernel, lsF_none (F := F)]
      unfold j_J7_copyOf_6403c_24
      rw [e_lets, x_alen (hs := (hset (hset h a X) z.1 (aR 4 15 (lsF F 0)), (z.1 + 1, z.2))) ((hset_n hbz).trans g2) (by decide), show (if iI 15 < Int32.ofNat 10 then iI 15 else Int32.ofNat 10) = iI 10 by decide +kernel, x_cpy (k := iI 10) (hs := (hset (hset h a X) z.1 (aR 4 15 (lsF F 0)), (z.1 + 1, z.2))) ((hset_n hbz).trans g2) hset_s ⟨by decide +kernel, by decide +kernel, by decide +kernel, by decide, by decide, by rw [show (iI 10).toNatClampNeg = 10 by decide +kernel]; exact hL2⟩, show (iI 10).toNatClampNeg = 10 by decide +kernel, ← lsF_none (F := F), hn]
      show some (Except.ok (some z.1), (hset _ z.1 (aR 4 15 (va_cpy (lsF F ((10 : Nat) : Int)) (fun _ => none) 0 0 10)), (z.1 + 1, z.2))) = _
      rw [lsF_cpy]
      rfl
    unfold f_J7_copyOf_1904c
    rw [x_arrO (hs := (hset h a X, z)) g2, e_call e0]
    rfl
  have ew : f_Jx4a65c_grow_d5877 a (hset h a X, z) = some (.ok (some z.1), (hset (hset (hset (hset h a X) z.1 (aR 4 15 (lsF F 0))) z.1 (aR 4 15 (lsF F n))) a (aO 2 [.int (iI (n + 1)), .ref z.1, .int (iI n)]), (z.1 + 1, z.2))) := by
    have eg : f_Jx4a65c_grow_92f84 a (iI (n + 1)) (hset h a X, z) = some (.ok (some z.1), (hset (hset (hset (hset h a X) z.1 (aR 4 15 (lsF F 0))) z.1 (aR 4 15 (lsF F n))) a (aO 2 [.int (iI (n + 1)), .ref z.1, .int (iI n)]), (z.1 + 1, z.2))) := by
      unfold f_Jx4a65c_grow_92f84
      rw [x_gR (hs := (hset h a X, z)) (x := b) g1 rfl, x_alen (hs := (hset h a X, z)) g2 (by decide), e_lets, if_pos (by decide)]
      unfold j_Jx4a65c_grow_92f84_20
      rw [show (Int32.ofNat 10) = iI 10 by decide +kernel, show iI (n + 1) = iI (10 + 1) by rw [hn], e_call (nl_10 _), e_lets, x_gR (hs := (hset h a X, z)) (x := b) g1 rfl, e_call ec, ← show iI (n + 1) = iI (10 + 1) by rw [hn]]
      show pV (some a) 2 1 (.ref z.1) _ (hset (hset (hset h a X) z.1 (aR 4 15 (lsF F 0))) z.1 (aR 4 15 (lsF F n)), (z.1 + 1, z.2)) = _
      rw [x_pV (hs := (hset (hset (hset h a X) z.1 (aR 4 15 (lsF F 0))) z.1 (aR 4 15 (lsF F n)), (z.1 + 1, z.2))) (c := 2) (k := 1) (fs := [.int (iI (n + 1)), .ref b, .int (iI n)]) ((hset_n haz).trans ((hset_n haz).trans g1)) (by show 1 < 3; decide)]
      rfl
    unfold f_Jx4a65c_grow_d5877
    rw [x_gI (hs := (hset h a X, z)) (x := iI n) g1 rfl, x_rcv (hs := (hset h a X, z)) g1, n1, e_call eg]
    rfl
  generalize hY : aO 2 [.int (iI (n + 1)), .ref z.1, .int (iI n)] = Y at ew
  have g4 := add_in (z := (z.1 + 1, z.2)) (m := n + 1) (h := hset (hset (hset (hset h a X) z.1 (aR 4 15 (lsF F 0))) z.1 (aR 4 15 (lsF F n))) a Y) (a := a) (b := z.1) (o := o) (c := c) (fs := fs) (n := n) (cp := 15) (F := F) (by omega) (by omega) (by omega) (by omega) (by rw [hset_s, hY]) ((hset_n haz.symm).trans hset_s) ((hset_n hao.symm).trans ((hset_n hoz).trans ((hset_n hoz).trans g3))) hc2 hF haz
  have ea : f_Jx4a65c_add_72be8 a (some o) (some b) (iI n) (hset h a X, z) = some (.ok (), (hset (hset (hset (hset (hset (hset h a X) z.1 (aR 4 15 (lsF F 0))) z.1 (aR 4 15 (lsF F n))) a Y) z.1 (aR 4 15 (lsF F (n + 1)))) a (aO 2 [.int (iI (n + 1)), .ref z.1, .int (iI (n + 1))]), (z.1 + 1, z.2))) := by
    unfold f_Jx4a65c_add_72be8
    rw [x_alen (hs := (hset h a X, z)) g2 (by decide), if_neg (by rw [hn]; decide +kernel), x_rcv (hs := (hset h a X, z)) g1, e_call ew, e_lets, g4]
  refine ⟨hset (hset (hset (hset (hset (hset h a X) z.1 (aR 4 15 (lsF F 0))) z.1 (aR 4 15 (lsF F n))) a Y) z.1 (aR 4 15 (lsF F (n + 1)))) a (aO 2 [.int (iI (n + 1)), .ref z.1, .int (iI (n + 1))]), ?_, hset_s, (hset_n haz.symm).trans hset_s, ?_⟩
  · unfold f_Jx4a65c_add_9ea2d
    rw [x_gI (hs := (h, z)) (x := iI n) h1 rfl, n1]
    show pV (some a) 2 0 (.int (iI (n + 1))) _ (h, z) = _
    rw [x_pV (hs := (h, z)) (c := 2) (k := 0) (fs := [.int (iI n), .ref b, .int (iI n)]) h1 (by show 0 < 3; decide)]
    show (gR (some a) 2 1 fun v2 => _) (hset h a (aO 2 [.int (iI (n + 1)), .ref b, .int (iI n)]), z) = _
    rw [hX, x_gR (hs := (hset h a X, z)) (x := b) g1 rfl, x_gI (hs := (hset h a X, z)) (x := iI n) g1 rfl, x_rcv (hs := (hset h a X, z)) g1, e_call ea]
    rfl
  · intro q q1 q2
    rw [hset_n q1, hset_n q2, hset_n q1, hset_n q2, hset_n q2, hset_n q1]
theorem add_g15 {h : Hp} {z : Nat × Nat} {a b o c : Nat} {fs : List Value} {n : Int} {F : Nat → Option Nat} (hn : n = 15) (h1 : h a = some (lsC n b)) (h2 : h b = some (lsB F n)) (hL : ∀ j, j < 15 → ∃ w ws, F j = some w ∧ h w = some (aO 7 ws)) (ho : h o = some (aO c fs)) (hc2 : c ∈ [5, 7, 8, 10]) (hF : F n.toNat = some o) (hab : a ≠ b) (hao : a ≠ o) (hz : h z.1 = none) : ∃ h3 : Hp, f_Jx4a65c_add_9ea2d a (some o) (h, z) = some (.ok (iI 1), (h3, (z.1 + 1, z.2))) ∧ h3 a = some (lsC (n + 1) z.1) ∧ h3 z.1 = some (aR 4 22 (lsF F (n + 1))) ∧ ∀ q, q ≠ a → q ≠ z.1 → h3 q = h q := by
  generalize hX : aO 2 [.int (iI (n + 1)), .ref b, .int (iI n)] = X
  have g1 : hset h a X a = some (aO 2 [.int (iI (n + 1)), .ref b, .int (iI n)]) := by rw [hset_s, hX]
  have g3 : hset h a X o = some (aO c fs) := (hset_n hao.symm).trans ho
  have haz : a ≠ z.1 := fun e => by rw [e, hz] at h1; cases h1
  have hoz : o ≠ z.1 := fun e => by rw [e, hz] at ho; cases ho
  have n1 : iI n + (1 : Int32) = iI (n + 1) := by
    rw [li_1, iI_add]
  have hbz : b ≠ z.1 := fun e => by rw [e, hz] at h2; cases h2
  have g2 : hset h a X b = some (aR 4 15 (lsF F n)) := ((hset_n hab.symm).trans h2).trans (by rw [hn]; rfl)
  have hL2 : lesUp (hset (hset h a X) z.1 (aR 4 22 (lsF F 0))) (lsF F n) 15 = true := by
    unfold lesUp
    refine List.all_eq_true.mpr (fun i hi => ?_)
    obtain ⟨w, ws, e1, e2⟩ := hL i (List.mem_range.mp hi)
    have ca : w ≠ a := fun e => by
      rw [e, h1] at e2
      unfold lsC at e2
      injection e2 with e2
      injection e2 with e2
      injection e2 with e2 e4
      exact absurd e2 (by decide)
    have cz : w ≠ z.1 := fun e => by rw [e, hz] at e2; cases e2
    have e3 : lsF F n i = some w := by
      unfold lsF
      have := List.mem_range.mp hi
      rw [if_pos (by omega), e1]
    rw [e3]
    show (match hset (hset h a X) z.1 (aR 4 22 (lsF F 0)) w with | some (.inr (c, _)) => decide (c = 7) | _ => false) = true
    rw [hset_n cz, hset_n ca, e2]
    rfl
  have ec : f_J7_copyOf_1904c (some b) (iI 22) (hset h a X, z) = some (.ok (some z.1), (hset (hset (hset h a X) z.1 (aR 4 22 (lsF F 0))) z.1 (aR 4 22 (lsF F n)), (z.1 + 1, z.2))) := by
    have e0 : f_J7_copyOf_6403c (some b) (iI 22) (hset h a X, z) = some (.ok (some z.1), (hset (hset (hset h a X) z.1 (aR 4 22 (lsF F 0))) z.1 (aR 4 22 (lsF F n)), (z.1 + 1, z.2))) := by
      unfold f_J7_copyOf_6403c
      rw [x_nwO (by decide +kernel)]
      show j_J7_copyOf_6403c_24 (some b) (iI 22) (some z.1) (hset (hset h a X) z.1 (aR 4 (iI 22).toNatClampNeg (fun _ => none)), (z.1 + 1, z.2)) = _
      rw [show (iI 22).toNatClampNeg = 22 by decide +kernel, lsF_none (F := F)]
      unfold j_J7_copyOf_6403c_24
      rw [e_lets, x_alen (hs := (hset (hset h a X) z.1 (aR 4 22 (lsF F 0)), (z.1 + 1, z.2))) ((hset_n hbz).trans g2) (by decide), show (if iI 22 < Int32.ofNat 15 then iI 22 else Int32.ofNat 15) = iI 15 by decide +kernel, x_cpy (k := iI 15) (hs := (hset (hset h a X) z.1 (aR 4 22 (lsF F 0)), (z.1 + 1, z.2))) ((hset_n hbz).trans g2) hset_s ⟨by decide +kernel, by decide +kernel, by decide +kernel, by decide, by decide, by rw [show (iI 15).toNatClampNeg = 15 by decide +kernel]; exact hL2⟩, show (iI 15).toNatClampNeg = 15 by decide +kernel, ← lsF_none (F := F), hn]
      show some (Except.ok (some z.1), (hset _ z.1 (aR 4 22 (va_cpy (lsF F ((15 : Nat) : Int)) (fun _ => none) 0 0 15)), (z.1 + 1, z.2))) = _
      rw [lsF_cpy]
      rfl
    unfold f_J7_copyOf_1904c
    rw [x_arrO (hs := (hset h a X, z)) g2, e_call e0]
    rfl
  have ew : f_Jx4a65c_grow_d5877 a (hset h a X, z) = some (.ok (some z.1), (hset (hset (hset (hset h a X) z.1 (aR 4 22 (lsF F 0))) z.1 (aR 4 22 (lsF F n))) a (aO 2 [.int (iI (n + 1)), .ref z.1, .int (iI n)]), (z.1 + 1, z.2))) := by
    have eg : f_Jx4a65c_grow_92f84 a (iI (n + 1)) (hset h a X, z) = some (.ok (some z.1), (hset (hset (hset (hset h a X) z.1 (aR 4 22 (lsF F 0))) z.1 (aR 4 22 (lsF F n))) a (aO 2 [.int (iI (n + 1)), .ref z.1, .int (iI n)]), (z.1 + 1, z.2))) := by
      unfold f_Jx4a65c_grow_92f84
      rw [x_gR (hs := (hset h a X, z)) (x := b) g1 rfl, x_alen (hs := (hset h a X, z)) g2 (by decide), e_lets, if_pos (by decide)]
      unfold j_Jx4a65c_grow_92f84_20
      rw [show (Int32.ofNat 15) = iI 15 by decide +kernel, show iI (n + 1) = iI (15 + 1) by rw [hn], e_call (nl_15 _), e_lets, x_gR (hs := (hset h a X, z)) (x := b) g1 rfl, e_call ec, ← show iI (n + 1) = iI (15 + 1) by rw [hn]]
      show pV (some a) 2 1 (.ref z.1) _ (hset (hset (hset h a X) z.1 (aR 4 22 (lsF F 0))) z.1 (aR 4 22 (lsF F n)), (z.1 + 1, z.2)) = _
      rw [x_pV (hs := (hset (hset (hset h a X) z.1 (aR 4 22 (lsF F 0))) z.1 (aR 4 22 (lsF F n)), (z.1 + 1, z.2))) (c := 2) (k := 1) (fs := [.int (iI (n + 1)), .ref b, .int (iI n)]) ((hset_n haz).trans ((hset_n haz).trans g1)) (by show 1 < 3; decide)]
      rfl
    unfold f_Jx4a65c_grow_d5877
    rw [x_gI (hs := (hset h a X, z)) (x := iI n) g1 rfl, x_rcv (hs := (hset h a X, z)) g1, n1, e_call eg]
    rfl
  generalize hY : aO 2 [.int (iI (n + 1)), .ref z.1, .int (iI n)] = Y at ew
  have g4 := add_in (z := (z.1 + 1, z.2)) (m := n + 1) (h := hset (hset (hset (hset h a X) z.1 (aR 4 22 (lsF F 0))) z.1 (aR 4 22 (lsF F n))) a Y) (a := a) (b := z.1) (o := o) (c := c) (fs := fs) (n := n) (cp := 22) (F := F) (by omega) (by omega) (by omega) (by omega) (by rw [hset_s, hY]) ((hset_n haz.symm).trans hset_s) ((hset_n hao.symm).trans ((hset_n hoz).trans ((hset_n hoz).trans g3))) hc2 hF haz
  have ea : f_Jx4a65c_add_72be8 a (some o) (some b) (iI n) (hset h a X, z) = some (.ok (), (hset (hset (hset (hset (hset (hset h a X) z.1 (aR 4 22 (lsF F 0))) z.1 (aR 4 22 (lsF F n))) a Y) z.1 (aR 4 22 (lsF F (n + 1)))) a (aO 2 [.int (iI (n + 1)), .ref z.1, .int (iI (n + 1))]), (z.1 + 1, z.2))) := by
    unfold f_Jx4a65c_add_72be8
    rw [x_alen (hs := (hset h a X, z)) g2 (by decide), if_neg (by rw [hn]; decide +kernel), x_rcv (hs := (hset h a X, z)) g1, e_call ew, e_lets, g4]
  refine ⟨hset (hset (hset (hset (hset (hset h a X) z.1 (aR 4 22 (lsF F 0))) z.1 (aR 4 22 (lsF F n))) a Y) z.1 (aR 4 22 (lsF F (n + 1)))) a (aO 2 [.int (iI (n + 1)), .ref z.1, .int (iI (n + 1))]), ?_, hset_s, (hset_n haz.symm).trans hset_s, ?_⟩
  · unfold f_Jx4a65c_add_9ea2d
    rw [x_gI (hs := (h, z)) (x := iI n) h1 rfl, n1]
    show pV (some a) 2 0 (.int (iI (n + 1))) _ (h, z) = _
    rw [x_pV (hs := (h, z)) (c := 2) (k := 0) (fs := [.int (iI n), .ref b, .int (iI n)]) h1 (by show 0 < 3; decide)]
    show (gR (some a) 2 1 fun v2 => _) (hset h a (aO 2 [.int (iI (n + 1)), .ref b, .int (iI n)]), z) = _
    rw [hX, x_gR (hs := (hset h a X, z)) (x := b) g1 rfl, x_gI (hs := (hset h a X, z)) (x := iI n) g1 rfl, x_rcv (hs := (hset h a X, z)) g1, e_call ea]
    rfl
  · intro q q1 q2
    rw [hset_n q1, hset_n q2, hset_n q1, hset_n q2, hset_n q2, hset_n q1]
