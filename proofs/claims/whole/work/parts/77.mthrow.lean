/-! PURE LAYER: the reference: bits, lessons that bar a place, others thrown out -/
theorem nU_iI {v : Int} (h0 : 0 ≤ v) (h1 : v < 4294967296) : nU (iI v) = v.toNat := by
  show (BitVec.ofInt 32 v).toNat = v.toNat
  rw [BitVec.toNat_ofInt]
  have h2 : v % ((2 ^ 32 : Nat) : Int) = v := Int.emod_eq_of_lt h0 (by omega)
  rw [h2]
theorem smod_s : ∀ s : Fin 31, (((iI (s.val : Int)) &&& iI 31).toBitVec.smod 32).toNat = s.val := by decide +kernel
theorem sar_n {v : Int} (h0 : 0 ≤ v) (h1 : v < 2147483648) {s : Nat} (hs : s < 31) : iI v >>> (iI (s : Int) &&& iI 31) = iI ((v.toNat / 2 ^ s : Nat) : Int) := by
  have e0 : nU (iI v) = v.toNat := nU_iI h0 (by omega)
  have hle : v.toNat / 2 ^ s ≤ v.toNat := Nat.div_le_self _ _
  have e1 : ∀ w : Nat, w ≤ v.toNat → nU (iI (w : Int)) = w := fun w hw => by
    rw [nU_iI (by omega) (by omega), Int.toNat_natCast]
  refine Int32.toBitVec_inj.mp (BitVec.eq_of_toNat_eq ?_)
  show _ = nU (iI ((v.toNat / 2 ^ s : Nat) : Int))
  rw [e1 _ hle]
  have h2 : (iI v >>> (iI (s : Int) &&& iI 31)).toBitVec = (iI v).toBitVec.sshiftRight (((iI (s : Int)) &&& iI 31).toBitVec.smod 32).toNat := rfl
  have h3 : (((iI (s : Int)) &&& iI 31).toBitVec.smod 32).toNat = s := smod_s ⟨s, hs⟩
  have h4 : (iI v).toBitVec.msb = false := by
    rw [BitVec.msb_eq_decide]
    refine decide_eq_false ?_
    show ¬ 2 ^ (32 - 1) ≤ nU (iI v)
    rw [e0]
    omega
  rw [h2, h3, BitVec.sshiftRight_eq_of_msb_false h4, BitVec.toNat_ushiftRight, Nat.shiftRight_eq_div_pow]
  show nU (iI v) / 2 ^ s = _
  rw [e0]
theorem sar_b {v : Int} (h0 : 0 ≤ v) (h1 : v < 2147483648) {s : Nat} (hs : s < 31) : irem (iI v >>> (iI (s : Int) &&& iI 31)) (iI 2) = iI (if bHas (iI v) (iI (s : Int)) = true then 1 else 0) := by
  have hle : v.toNat / 2 ^ s ≤ v.toNat := Nat.div_le_self _ _
  have h2 := bHas_n (iI v) (s := s) (by omega)
  rw [nU_iI h0 (by omega)] at h2
  rw [sar_n h0 h1 hs]
  generalize v.toNat / 2 ^ s = w at hle h2 ⊢
  rw [iI_rem (by omega) (by omega) (by decide) (by decide)]
  by_cases c : w % 2 = 1
  · rw [if_pos (h2.mpr c)]
    exact congrArg iI (by omega)
  · rw [if_neg (fun q => c (h2.mp q))]
    exact congrArg iI (by omega)
def sN (q : Nat → Bool) : Nat → Nat
  | 0 => 0
  | n + 1 => sN q n + (if q n = true then 2 ^ n else 0)
theorem sN_lt (q : Nat → Bool) : ∀ n, sN q n < 2 ^ n := by
  intro n
  induction n with
  | zero => exact Nat.one_pos
  | succ n ih =>
    unfold sN
    rw [Nat.pow_succ]
    split <;> omega
theorem sN_16 (q : Nat → Bool) {n : Nat} (h : n ≤ 16) : sN q n < 65536 := Nat.lt_of_lt_of_le (sN_lt q n) (by
  have := Nat.pow_le_pow_right (n := 2) (by decide) h
  omega)
theorem sN_bit (q : Nat → Bool) : ∀ n b, sN q n / 2 ^ b % 2 = 1 ↔ (b < n ∧ q b = true) := by
  intro n
  induction n with
  | zero => intro b; unfold sN; rw [Nat.zero_div]; exact ⟨fun h => absurd h (by decide), fun h => absurd h.1 (by omega)⟩
  | succ n ih =>
    intro b
    have hl := sN_lt q n
    have e : sN q (n + 1) = sN q n + (if q n = true then 2 ^ n else 0) := rfl
    rcases Nat.lt_trichotomy b n with c | c | c
    · have h1 : sN q (n + 1) / 2 ^ b % 2 = sN q n / 2 ^ b % 2 := by
        rw [e]
        split
        · obtain ⟨d, rfl⟩ : ∃ d, n = b + (d + 1) := ⟨n - b - 1, by omega⟩
          rw [Nat.pow_add, Nat.add_mul_div_left _ _ (Nat.pow_pos (by decide)), Nat.pow_succ, Nat.add_mul_mod_self_right]
        · rw [Nat.add_zero]
      rw [h1, ih b]
      exact ⟨fun h => ⟨by omega, h.2⟩, fun h => ⟨c, h.2⟩⟩
    · subst c
      have h0 : sN q b / 2 ^ b = 0 := Nat.div_eq_of_lt hl
      rw [e]
      by_cases d : q b = true
      · rw [if_pos d, Nat.add_div_right _ (Nat.pow_pos (by decide)), h0]
        exact ⟨fun _ => ⟨by omega, d⟩, fun _ => rfl⟩
      · rw [if_neg d, Nat.add_zero, h0]
        exact ⟨fun h => absurd h (by decide), fun h => absurd h.2 d⟩
    · have h1 : sN q (n + 1) / 2 ^ b = 0 := Nat.div_eq_of_lt (Nat.lt_of_lt_of_le (sN_lt q (n + 1)) (Nat.pow_le_pow_right (by decide) c))
      rw [h1]
      exact ⟨fun h => absurd h (by decide), fun h => absurd h.1 (by omega)⟩
theorem sN_has (q : Nat → Bool) {n : Nat} (hn : n ≤ 16) {b : Nat} (hb : b < 32) : bHas (iI (sN q n : Int)) (iI (b : Int)) = (decide (b < n) && q b) := by
  have h1 := sN_16 q hn
  have h2 := bHas_n (iI (sN q n : Int)) hb
  rw [nU_iI (by omega) (by omega), Int.toNat_natCast, sN_bit] at h2
  cases c : bHas (iI (sN q n : Int)) (iI (b : Int))
  · cases d : (decide (b < n) && q b)
    · rfl
    · rw [Bool.and_eq_true, decide_eq_true_eq] at d
      rw [c] at h2
      exact absurd (h2.mpr d) (by decide)
  · obtain ⟨h3, h4⟩ := h2.mp c
    rw [decide_eq_true h3, h4]
    rfl
theorem sh_1 : ∀ k : Fin 16, (iI 1 <<< (iI (k.val : Int) &&& iI 31)) = iI ((2 ^ k.val : Nat) : Int) := by decide +kernel
theorem pop0 : ∀ n, popN n 0 = 0 := by
  intro n
  induction n with
  | zero => rfl
  | succ n ih => unfold popN; rw [show 0 / 2 = 0 from rfl, ih]
theorem e_L_mb (hs : Hs) (Kc : Int32 → OO Int32) : ∀ (n : Nat) (v c : Int) (fuel : Nat), 0 ≤ v → v < (2 ^ n : Nat) → n ≤ 31 → n < fuel → L_X9_manyBits_4 Kc fuel (iI c) (iI v) hs = Kc (iI (c + (popN n v.toNat : Int))) hs := by
  intro n
  induction n with
  | zero =>
    intro v c fuel h0 h1 _ hf
    obtain ⟨f, rfl⟩ : ∃ f, fuel = f + 1 := ⟨fuel - 1, by omega⟩
    have hv : v = 0 := by omega
    subst hv
    have e0 : ((popN 0 (Int.toNat 0) : Nat) : Int) = 0 := rfl
    rw [e0, Int.add_zero, u_L_X9_manyBits_4]
    simp -implicitDefEqProofs (disch := omega) only [↓reduceIte, ↓e_lets, ↓e_ite, ↓e_cal, e_cal2, e_cal3, e_thr, e_nthrow, e_rtn, e_r0, e_r1, e_dv, iI_add, iI_sub, iI_mul, iI_neg, iI_div, iI_rem, iI_lt, iI_le, iI_eq, b_eq0, b_eq1, Int.reduceAdd, Int.reduceMul, Int.reduceSub, Int.reduceNeg, Int.reduceDiv, Int.reduceMod, Nat.reduceAdd, Bool.false_eq_true, eq_self, ltT, ltF, leT, leF, eqT, eqF, true_and, and_true, false_and, and_false, and_self, or_true, true_or, or_false, false_or, ne_eq, not_true_eq_false, not_false_eq_true, if_true, if_false, ite_true, ite_false, ite_not, some_none, some_some, none_some, none_none, li_0, li_1, li_2, li_3, li_4, li_5, li_6, li_7, li_8, li_9, li_10, li_11, li_12, li_13, li_14, li_15, li_16, li_17, li_18, li_19, li_20, li_21, li_22, li_23, li_24, li_25, li_26, li_27, li_28, li_29, li_30, li_31, li_32, li_63, li_64, li_99, li_100, li_128, li_240, li_256, li_512, li_960, li_1000, li_1022, li_1023, li_100000, li_m1, li_m1000, Int.add_zero, Int.natCast_zero, Int.ofNat_zero, Int.cast_ofNat_Int]
  | succ n ih =>
    intro v c fuel h0 h1 hn hf
    obtain ⟨f, rfl⟩ : ∃ f, fuel = f + 1 := ⟨fuel - 1, by omega⟩
    have hp : (2 ^ (n + 1) : Nat) ≤ 2 ^ 31 := Nat.pow_le_pow_right (by decide) hn
    have hp2 : (2 ^ (n + 1) : Nat) = 2 * 2 ^ n := by rw [Nat.pow_succ]; omega
    rw [u_L_X9_manyBits_4]
    by_cases d : v = 0
    · subst d
      rw [show Int.toNat 0 = 0 from rfl, pop0, show ((0 : Nat) : Int) = 0 from rfl, Int.add_zero]
      simp -implicitDefEqProofs (disch := omega) only [↓reduceIte, ↓e_lets, ↓e_ite, ↓e_cal, e_cal2, e_cal3, e_thr, e_nthrow, e_rtn, e_r0, e_r1, e_dv, iI_add, iI_sub, iI_mul, iI_neg, iI_div, iI_rem, iI_lt, iI_le, iI_eq, b_eq0, b_eq1, Int.reduceAdd, Int.reduceMul, Int.reduceSub, Int.reduceNeg, Int.reduceDiv, Int.reduceMod, Nat.reduceAdd, Bool.false_eq_true, eq_self, ltT, ltF, leT, leF, eqT, eqF, true_and, and_true, false_and, and_false, and_self, or_true, true_or, or_false, false_or, ne_eq, not_true_eq_false, not_false_eq_true, if_true, if_false, ite_true, ite_false, ite_not, some_none, some_some, none_some, none_none, li_0, li_1, li_2, li_3, li_4, li_5, li_6, li_7, li_8, li_9, li_10, li_11, li_12, li_13, li_14, li_15, li_16, li_17, li_18, li_19, li_20, li_21, li_22, li_23, li_24, li_25, li_26, li_27, li_28, li_29, li_30, li_31, li_32, li_63, li_64, li_99, li_100, li_128, li_240, li_256, li_512, li_960, li_1000, li_1022, li_1023, li_100000, li_m1, li_m1000, Int.add_zero, Int.natCast_zero, Int.ofNat_zero, Int.cast_ofNat_Int]
    · have e1 : popN (n + 1) v.toNat = v.toNat % 2 + popN n (v.toNat / 2) := rfl
      have e2 := ih (v / 2) (c + v % 2) f (by omega) (by omega) (by omega) (by omega)
      rw [show (v / 2).toNat = v.toNat / 2 by omega] at e2
      rw [e1]
      generalize popN n (v.toNat / 2) = w at *
      simp -implicitDefEqProofs (disch := omega) only [↓reduceIte, ↓e_lets, ↓e_ite, ↓e_cal, e_cal2, e_cal3, e_thr, e_nthrow, e_rtn, e_r0, e_r1, e_dv, iI_add, iI_sub, iI_mul, iI_neg, iI_div, iI_rem, iI_lt, iI_le, iI_eq, b_eq0, b_eq1, Int.reduceAdd, Int.reduceMul, Int.reduceSub, Int.reduceNeg, Int.reduceDiv, Int.reduceMod, Nat.reduceAdd, Bool.false_eq_true, eq_self, ltT, ltF, leT, leF, eqT, eqF, true_and, and_true, false_and, and_false, and_self, or_true, true_or, or_false, false_or, ne_eq, not_true_eq_false, not_false_eq_true, if_true, if_false, ite_true, ite_false, ite_not, some_none, some_some, none_some, none_none, li_0, li_1, li_2, li_3, li_4, li_5, li_6, li_7, li_8, li_9, li_10, li_11, li_12, li_13, li_14, li_15, li_16, li_17, li_18, li_19, li_20, li_21, li_22, li_23, li_24, li_25, li_26, li_27, li_28, li_29, li_30, li_31, li_32, li_63, li_64, li_99, li_100, li_128, li_240, li_256, li_512, li_960, li_1000, li_1022, li_1023, li_100000, li_m1, li_m1000]
      rw [e2]
      exact congrArg (fun x => Kc (iI x) hs) (by omega)
theorem e_manyBits (hs : Hs) {v : Int} (h0 : 0 ≤ v) (h1 : v < 2147483648) : f_X9_manyBits (iI v) hs = some (.ok (iI (bcN (iI v))), hs) := by
  have h2 : bcN (iI v) = (popN 31 v.toNat : Int) := by
    have h3 := bc_pop (iI v) 32 (Nat.le_refl _)
    rw [nU_iI h0 (by omega)] at h3
    unfold bcN
    rw [h3, show (32 : Nat) = 31 + 1 from rfl, popN_add, Nat.div_eq_of_lt (show v.toNat < 2 ^ 31 by omega), pop0, Nat.add_zero]
  rw [h2]
  show (lets 0 fun v1 => lets (iI v) fun v2 => L_X9_manyBits_4 (fun v5 => rtn v5) 100000 v1 v2) hs = _
  rw [e_lets, e_lets, li_0, e_L_mb hs (fun v5 => rtn v5) 31 v 0 100000 h0 (by omega) (by decide) (by decide), Int.zero_add]
  rfl
def loB (S : SS) (l x : Int) (k : Nat) : Bool := thQ S l x k && !decide (S 8 k = 0)
def baV (S : SS) (l x : Int) : Int := if x % 8 < S 20 1 ∧ sPl S l (x / 8) (x % 8) = 0 ∧ fstN (loB S l x) (S 20 4).toNat < 0 then (sN (thQ S l x) (S 20 4).toNat : Int) else -1
theorem thQ_i {S : SS} (hV : VS S) {l x k : Int} (l0 : 0 ≤ l) (l1 : l < S 20 4) (k0 : 0 ≤ k) (k1 : k < S 20 4) (x0 : 0 ≤ x) (x1 : x < 240) (hr : x % 8 < S 20 1) : thQ S l x k.toNat = true ↔ sLb S k l (x / 8) (x % 8) ≠ 0 := by
  unfold thQ
  rw [show ((k.toNat : Nat) : Int) = k by omega, oneM_has hV l0 l1 k0 k1 (by omega) hr (by omega) (by omega), sLb_n0]
theorem sLb_b (S : SS) (o l s r : Int) : 0 ≤ sLb S o l s r ∧ sLb S o l s r ≤ 960 := by
  unfold sLb
  split
  · omega
  · repeat' split
    all_goals omega
theorem sPl_b (S : SS) (l s r : Int) : 0 ≤ sPl S l s r ∧ sPl S l s r ≤ 63 := by
  unfold sPl
  repeat' split
  all_goals omega
theorem e_barring {S : SS} {m0 : Nat} {hs : Hs} (h : MR S m0 hs) (hV : VS S) {l : Int} (l0 : 0 ≤ l) (l1 : l < S 20 4) {x : Int} (x0 : 0 ≤ x) (x1 : x < 240) : f_X9_barring m0 (iI l) (iI x) hs = some (.ok (iI (baV S l x)), hs) := by
  obtain ⟨hb, hm, hv⟩ := hV
  have hm2 := hm
  unfold Bm at hm2
  have h9 : (((S 20 4).toNat : Nat) : Int) = S 20 4 := by omega
  unfold baV
  rw [u_f_X9_barring]
  by_cases c : x % 8 < S 20 1
  · have e1 := e_X9_plainLetters h hb l0 (by omega) (s := x / 8) (r := x % 8) (by omega) (by omega) (by omega) (by omega) hm
    have hpb := sPl_b S l (x / 8) (x % 8)
    by_cases c2 : sPl S l (x / 8) (x % 8) = 0
    · have hL : L_X9_barring_34 (some m0) (iI l) (iI x) (rtn (iI (-1))) (fun v12 => rtn v12) 100000 (iI (sN (thQ S l x) 0 : Int)) (iI ((0 : Nat) : Int)) hs = if fstN (loB S l x) (S 20 4).toNat < 0 then rtn (iI (sN (thQ S l x) (S 20 4).toNat : Int)) hs else rtn (iI (-1)) hs := by
        refine loopX (fun f (t : Int32 × Int32) => L_X9_barring_34 (some m0) (iI l) (iI x) (rtn (iI (-1))) (fun v12 => rtn v12) f t.1 t.2 hs) (fun m => (iI (sN (thQ S l x) m : Int), iI (m : Int))) (loB S l x) (S 20 4).toNat (fun _ => rtn (iI (-1)) hs) (rtn (iI (sN (thQ S l x) (S 20 4).toNat : Int)) hs) (fun k f hk hp => ?_) (fun k f hk hp => ?_) (fun f => ?_) 100000 (by omega)
        · show L_X9_barring_34 (some m0) (iI l) (iI x) (rtn (iI (-1))) (fun v12 => rtn v12) (f + 1) (iI (sN (thQ S l x) k : Int)) (iI (k : Int)) hs = L_X9_barring_34 (some m0) (iI l) (iI x) (rtn (iI (-1))) (fun v12 => rtn v12) f (iI ((sN (thQ S l x) k + (if thQ S l x k = true then 2 ^ k else 0) : Nat) : Int)) (iI ((k : Int) + 1)) hs
          have hk3 := hb (k : Int)
          have e2 := e_X9_lettersBy h hb (o := (k : Int)) (by omega) (by omega) l0 (by omega) (s := x / 8) (r := x % 8) (by omega) (by omega) (by omega) (by omega)
          have hlb := sLb_b S k l (x / 8) (x % 8)
          have hq := thQ_i (S := S) ⟨hb, hm, hv⟩ l0 l1 (k := (k : Int)) (by omega) (by omega) x0 x1 c
          rw [Int.toNat_natCast] at hq
          have hsh := sh_1 ⟨k, by omega⟩
          simp only at hsh
          unfold loB at hp
          rw [u_L_X9_barring_34]
          by_cases d : thQ S l x k = true
          · have d2 := hq.mp d
            rw [d, Bool.true_and, Bool.not_eq_false', decide_eq_true_eq] at hp
            rw [if_pos d, Int.natCast_add]
            simp -implicitDefEqProofs (disch := omega) only [↓reduceIte, ↓e_lets, ↓e_ite, ↓e_cal, e_cal2, e_cal3, e_thr, e_nthrow, e_rtn, e_r0, e_r1, e_dv, iI_add, iI_sub, iI_mul, iI_neg, iI_div, iI_rem, iI_lt, iI_le, iI_eq, b_eq0, b_eq1, Int.reduceAdd, Int.reduceMul, Int.reduceSub, Int.reduceNeg, Int.reduceDiv, Int.reduceMod, Nat.reduceAdd, Bool.false_eq_true, eq_self, ltT, ltF, leT, leF, eqT, eqF, true_and, and_true, false_and, and_false, and_self, or_true, true_or, or_false, false_or, ne_eq, not_true_eq_false, not_false_eq_true, if_true, if_false, ite_true, ite_false, ite_not, some_none, some_some, none_some, none_none, li_0, li_1, li_2, li_3, li_4, li_5, li_6, li_7, li_8, li_9, li_10, li_11, li_12, li_13, li_14, li_15, li_16, li_17, li_18, li_19, li_20, li_21, li_22, li_23, li_24, li_25, li_26, li_27, li_28, li_29, li_30, li_31, li_32, li_63, li_64, li_99, li_100, li_128, li_240, li_256, li_512, li_960, li_1000, li_1022, li_1023, li_100000, li_m1, li_m1000, ↓m_g0 h, ↓m_g1 h, ↓m_g2 h, ↓m_g3 h, ↓m_g4 h, ↓m_g5 h, ↓m_g6 h, ↓m_g7 h, ↓m_g8 h, ↓m_g9 h, ↓m_g10 h, ↓m_g11 h, ↓m_g12 h, ↓m_g13 h, ↓m_g14 h, ↓m_g15 h, ↓m_g16 h, ↓m_g17 h, ↓m_g18 h, ↓m_g19 h, ↓m_g20 h, ↓m_g21 h, ↓m_g22 h, ↓m_g23 h, ↓m_g24 h, ↓m_g25 h, ↓m_g26 h, ↓m_g27 h, ↓m_ld0 h, ↓m_ld1 h, ↓m_ld2 h, ↓m_ld3 h, ↓m_ld4 h, ↓m_ld5 h, ↓m_ld6 h, ↓m_ld7 h, ↓m_ld8 h, ↓m_ld9 h, ↓m_ld10 h, ↓m_ld11 h, ↓m_ld12 h, ↓m_ld13 h, ↓m_ld14 h, ↓m_ld15 h, ↓m_ld16 h, ↓m_ld17 h, ↓m_ld18 h, ↓m_ld19 h, ↓m_rcv h, e2, hsh, ↓u_j_X9_barring_83]
          · have d2 : sLb S k l (x / 8) (x % 8) = 0 := Classical.byContradiction (fun q => d (hq.mpr q))
            rw [if_neg d, Nat.add_zero]
            simp -implicitDefEqProofs (disch := omega) only [↓reduceIte, ↓e_lets, ↓e_ite, ↓e_cal, e_cal2, e_cal3, e_thr, e_nthrow, e_rtn, e_r0, e_r1, e_dv, iI_add, iI_sub, iI_mul, iI_neg, iI_div, iI_rem, iI_lt, iI_le, iI_eq, b_eq0, b_eq1, Int.reduceAdd, Int.reduceMul, Int.reduceSub, Int.reduceNeg, Int.reduceDiv, Int.reduceMod, Nat.reduceAdd, Bool.false_eq_true, eq_self, ltT, ltF, leT, leF, eqT, eqF, true_and, and_true, false_and, and_false, and_self, or_true, true_or, or_false, false_or, ne_eq, not_true_eq_false, not_false_eq_true, if_true, if_false, ite_true, ite_false, ite_not, some_none, some_some, none_some, none_none, li_0, li_1, li_2, li_3, li_4, li_5, li_6, li_7, li_8, li_9, li_10, li_11, li_12, li_13, li_14, li_15, li_16, li_17, li_18, li_19, li_20, li_21, li_22, li_23, li_24, li_25, li_26, li_27, li_28, li_29, li_30, li_31, li_32, li_63, li_64, li_99, li_100, li_128, li_240, li_256, li_512, li_960, li_1000, li_1022, li_1023, li_100000, li_m1, li_m1000, ↓m_g0 h, ↓m_g1 h, ↓m_g2 h, ↓m_g3 h, ↓m_g4 h, ↓m_g5 h, ↓m_g6 h, ↓m_g7 h, ↓m_g8 h, ↓m_g9 h, ↓m_g10 h, ↓m_g11 h, ↓m_g12 h, ↓m_g13 h, ↓m_g14 h, ↓m_g15 h, ↓m_g16 h, ↓m_g17 h, ↓m_g18 h, ↓m_g19 h, ↓m_g20 h, ↓m_g21 h, ↓m_g22 h, ↓m_g23 h, ↓m_g24 h, ↓m_g25 h, ↓m_g26 h, ↓m_g27 h, ↓m_ld0 h, ↓m_ld1 h, ↓m_ld2 h, ↓m_ld3 h, ↓m_ld4 h, ↓m_ld5 h, ↓m_ld6 h, ↓m_ld7 h, ↓m_ld8 h, ↓m_ld9 h, ↓m_ld10 h, ↓m_ld11 h, ↓m_ld12 h, ↓m_ld13 h, ↓m_ld14 h, ↓m_ld15 h, ↓m_ld16 h, ↓m_ld17 h, ↓m_ld18 h, ↓m_ld19 h, ↓m_rcv h, e2, d2, ↓u_j_X9_barring_83]
        · show L_X9_barring_34 (some m0) (iI l) (iI x) (rtn (iI (-1))) (fun v12 => rtn v12) (f + 1) (iI (sN (thQ S l x) k : Int)) (iI (k : Int)) hs = rtn (iI (-1)) hs
          have hk3 := hb (k : Int)
          have e2 := e_X9_lettersBy h hb (o := (k : Int)) (by omega) (by omega) l0 (by omega) (s := x / 8) (r := x % 8) (by omega) (by omega) (by omega) (by omega)
          have hlb := sLb_b S k l (x / 8) (x % 8)
          have hq := thQ_i (S := S) ⟨hb, hm, hv⟩ l0 l1 (k := (k : Int)) (by omega) (by omega) x0 x1 c
          rw [Int.toNat_natCast] at hq
          unfold loB at hp
          rw [Bool.and_eq_true, Bool.not_eq_true', decide_eq_false_iff_not] at hp
          have d2 := hq.mp hp.1
          have d3 := hp.2
          rw [u_L_X9_barring_34]
          simp -implicitDefEqProofs (disch := omega) only [↓reduceIte, ↓e_lets, ↓e_ite, ↓e_cal, e_cal2, e_cal3, e_thr, e_nthrow, e_rtn, e_r0, e_r1, e_dv, iI_add, iI_sub, iI_mul, iI_neg, iI_div, iI_rem, iI_lt, iI_le, iI_eq, b_eq0, b_eq1, Int.reduceAdd, Int.reduceMul, Int.reduceSub, Int.reduceNeg, Int.reduceDiv, Int.reduceMod, Nat.reduceAdd, Bool.false_eq_true, eq_self, ltT, ltF, leT, leF, eqT, eqF, true_and, and_true, false_and, and_false, and_self, or_true, true_or, or_false, false_or, ne_eq, not_true_eq_false, not_false_eq_true, if_true, if_false, ite_true, ite_false, ite_not, some_none, some_some, none_some, none_none, li_0, li_1, li_2, li_3, li_4, li_5, li_6, li_7, li_8, li_9, li_10, li_11, li_12, li_13, li_14, li_15, li_16, li_17, li_18, li_19, li_20, li_21, li_22, li_23, li_24, li_25, li_26, li_27, li_28, li_29, li_30, li_31, li_32, li_63, li_64, li_99, li_100, li_128, li_240, li_256, li_512, li_960, li_1000, li_1022, li_1023, li_100000, li_m1, li_m1000, ↓m_g0 h, ↓m_g1 h, ↓m_g2 h, ↓m_g3 h, ↓m_g4 h, ↓m_g5 h, ↓m_g6 h, ↓m_g7 h, ↓m_g8 h, ↓m_g9 h, ↓m_g10 h, ↓m_g11 h, ↓m_g12 h, ↓m_g13 h, ↓m_g14 h, ↓m_g15 h, ↓m_g16 h, ↓m_g17 h, ↓m_g18 h, ↓m_g19 h, ↓m_g20 h, ↓m_g21 h, ↓m_g22 h, ↓m_g23 h, ↓m_g24 h, ↓m_g25 h, ↓m_g26 h, ↓m_g27 h, ↓m_ld0 h, ↓m_ld1 h, ↓m_ld2 h, ↓m_ld3 h, ↓m_ld4 h, ↓m_ld5 h, ↓m_ld6 h, ↓m_ld7 h, ↓m_ld8 h, ↓m_ld9 h, ↓m_ld10 h, ↓m_ld11 h, ↓m_ld12 h, ↓m_ld13 h, ↓m_ld14 h, ↓m_ld15 h, ↓m_ld16 h, ↓m_ld17 h, ↓m_ld18 h, ↓m_ld19 h, ↓m_rcv h, e2, ↓u_j_X9_barring_83]
        · show L_X9_barring_34 (some m0) (iI l) (iI x) (rtn (iI (-1))) (fun v12 => rtn v12) (f + 1) (iI (sN (thQ S l x) (S 20 4).toNat : Int)) (iI (((S 20 4).toNat : Nat) : Int)) hs = _
          rw [h9, u_L_X9_barring_34]
          simp -implicitDefEqProofs (disch := omega) only [↓reduceIte, ↓e_lets, ↓e_ite, ↓e_cal, e_cal2, e_cal3, e_thr, e_nthrow, e_rtn, e_r0, e_r1, e_dv, iI_add, iI_sub, iI_mul, iI_neg, iI_div, iI_rem, iI_lt, iI_le, iI_eq, b_eq0, b_eq1, Int.reduceAdd, Int.reduceMul, Int.reduceSub, Int.reduceNeg, Int.reduceDiv, Int.reduceMod, Nat.reduceAdd, Bool.false_eq_true, eq_self, ltT, ltF, leT, leF, eqT, eqF, true_and, and_true, false_and, and_false, and_self, or_true, true_or, or_false, false_or, ne_eq, not_true_eq_false, not_false_eq_true, if_true, if_false, ite_true, ite_false, ite_not, some_none, some_some, none_some, none_none, li_0, li_1, li_2, li_3, li_4, li_5, li_6, li_7, li_8, li_9, li_10, li_11, li_12, li_13, li_14, li_15, li_16, li_17, li_18, li_19, li_20, li_21, li_22, li_23, li_24, li_25, li_26, li_27, li_28, li_29, li_30, li_31, li_32, li_63, li_64, li_99, li_100, li_128, li_240, li_256, li_512, li_960, li_1000, li_1022, li_1023, li_100000, li_m1, li_m1000, ↓m_g0 h, ↓m_g1 h, ↓m_g2 h, ↓m_g3 h, ↓m_g4 h, ↓m_g5 h, ↓m_g6 h, ↓m_g7 h, ↓m_g8 h, ↓m_g9 h, ↓m_g10 h, ↓m_g11 h, ↓m_g12 h, ↓m_g13 h, ↓m_g14 h, ↓m_g15 h, ↓m_g16 h, ↓m_g17 h, ↓m_g18 h, ↓m_g19 h, ↓m_g20 h, ↓m_g21 h, ↓m_g22 h, ↓m_g23 h, ↓m_g24 h, ↓m_g25 h, ↓m_g26 h, ↓m_g27 h, ↓m_ld0 h, ↓m_ld1 h, ↓m_ld2 h, ↓m_ld3 h, ↓m_ld4 h, ↓m_ld5 h, ↓m_ld6 h, ↓m_ld7 h, ↓m_ld8 h, ↓m_ld9 h, ↓m_ld10 h, ↓m_ld11 h, ↓m_ld12 h, ↓m_ld13 h, ↓m_ld14 h, ↓m_ld15 h, ↓m_ld16 h, ↓m_ld17 h, ↓m_ld18 h, ↓m_ld19 h, ↓m_rcv h]
      by_cases c3 : fstN (loB S l x) (S 20 4).toNat < 0
      · rw [if_pos c3] at hL
        rw [if_pos ⟨c, c2, c3⟩]
        have hL2 : L_X9_barring_34 (some m0) (iI l) (iI x) (rtn (iI (-1))) (fun v12 => rtn v12) 100000 (iI 0) (iI 0) hs = rtn (iI (sN (thQ S l x) (S 20 4).toNat : Int)) hs := hL
        simp -implicitDefEqProofs (disch := omega) only [↓reduceIte, ↓e_lets, ↓e_ite, ↓e_cal, e_cal2, e_cal3, e_thr, e_nthrow, e_rtn, e_r0, e_r1, e_dv, iI_add, iI_sub, iI_mul, iI_neg, iI_div, iI_rem, iI_lt, iI_le, iI_eq, b_eq0, b_eq1, Int.reduceAdd, Int.reduceMul, Int.reduceSub, Int.reduceNeg, Int.reduceDiv, Int.reduceMod, Nat.reduceAdd, Bool.false_eq_true, eq_self, ltT, ltF, leT, leF, eqT, eqF, true_and, and_true, false_and, and_false, and_self, or_true, true_or, or_false, false_or, ne_eq, not_true_eq_false, not_false_eq_true, if_true, if_false, ite_true, ite_false, ite_not, some_none, some_some, none_some, none_none, li_0, li_1, li_2, li_3, li_4, li_5, li_6, li_7, li_8, li_9, li_10, li_11, li_12, li_13, li_14, li_15, li_16, li_17, li_18, li_19, li_20, li_21, li_22, li_23, li_24, li_25, li_26, li_27, li_28, li_29, li_30, li_31, li_32, li_63, li_64, li_99, li_100, li_128, li_240, li_256, li_512, li_960, li_1000, li_1022, li_1023, li_100000, li_m1, li_m1000, ↓m_g0 h, ↓m_g1 h, ↓m_g2 h, ↓m_g3 h, ↓m_g4 h, ↓m_g5 h, ↓m_g6 h, ↓m_g7 h, ↓m_g8 h, ↓m_g9 h, ↓m_g10 h, ↓m_g11 h, ↓m_g12 h, ↓m_g13 h, ↓m_g14 h, ↓m_g15 h, ↓m_g16 h, ↓m_g17 h, ↓m_g18 h, ↓m_g19 h, ↓m_g20 h, ↓m_g21 h, ↓m_g22 h, ↓m_g23 h, ↓m_g24 h, ↓m_g25 h, ↓m_g26 h, ↓m_g27 h, ↓m_ld0 h, ↓m_ld1 h, ↓m_ld2 h, ↓m_ld3 h, ↓m_ld4 h, ↓m_ld5 h, ↓m_ld6 h, ↓m_ld7 h, ↓m_ld8 h, ↓m_ld9 h, ↓m_ld10 h, ↓m_ld11 h, ↓m_ld12 h, ↓m_ld13 h, ↓m_ld14 h, ↓m_ld15 h, ↓m_ld16 h, ↓m_ld17 h, ↓m_ld18 h, ↓m_ld19 h, ↓m_rcv h, e1, c2, hL2]
      · rw [if_neg c3] at hL
        rw [if_neg (fun q => c3 q.2.2)]
        have hL2 : L_X9_barring_34 (some m0) (iI l) (iI x) (rtn (iI (-1))) (fun v12 => rtn v12) 100000 (iI 0) (iI 0) hs = rtn (iI (-1)) hs := hL
        simp -implicitDefEqProofs (disch := omega) only [↓reduceIte, ↓e_lets, ↓e_ite, ↓e_cal, e_cal2, e_cal3, e_thr, e_nthrow, e_rtn, e_r0, e_r1, e_dv, iI_add, iI_sub, iI_mul, iI_neg, iI_div, iI_rem, iI_lt, iI_le, iI_eq, b_eq0, b_eq1, Int.reduceAdd, Int.reduceMul, Int.reduceSub, Int.reduceNeg, Int.reduceDiv, Int.reduceMod, Nat.reduceAdd, Bool.false_eq_true, eq_self, ltT, ltF, leT, leF, eqT, eqF, true_and, and_true, false_and, and_false, and_self, or_true, true_or, or_false, false_or, ne_eq, not_true_eq_false, not_false_eq_true, if_true, if_false, ite_true, ite_false, ite_not, some_none, some_some, none_some, none_none, li_0, li_1, li_2, li_3, li_4, li_5, li_6, li_7, li_8, li_9, li_10, li_11, li_12, li_13, li_14, li_15, li_16, li_17, li_18, li_19, li_20, li_21, li_22, li_23, li_24, li_25, li_26, li_27, li_28, li_29, li_30, li_31, li_32, li_63, li_64, li_99, li_100, li_128, li_240, li_256, li_512, li_960, li_1000, li_1022, li_1023, li_100000, li_m1, li_m1000, ↓m_g0 h, ↓m_g1 h, ↓m_g2 h, ↓m_g3 h, ↓m_g4 h, ↓m_g5 h, ↓m_g6 h, ↓m_g7 h, ↓m_g8 h, ↓m_g9 h, ↓m_g10 h, ↓m_g11 h, ↓m_g12 h, ↓m_g13 h, ↓m_g14 h, ↓m_g15 h, ↓m_g16 h, ↓m_g17 h, ↓m_g18 h, ↓m_g19 h, ↓m_g20 h, ↓m_g21 h, ↓m_g22 h, ↓m_g23 h, ↓m_g24 h, ↓m_g25 h, ↓m_g26 h, ↓m_g27 h, ↓m_ld0 h, ↓m_ld1 h, ↓m_ld2 h, ↓m_ld3 h, ↓m_ld4 h, ↓m_ld5 h, ↓m_ld6 h, ↓m_ld7 h, ↓m_ld8 h, ↓m_ld9 h, ↓m_ld10 h, ↓m_ld11 h, ↓m_ld12 h, ↓m_ld13 h, ↓m_ld14 h, ↓m_ld15 h, ↓m_ld16 h, ↓m_ld17 h, ↓m_ld18 h, ↓m_ld19 h, ↓m_rcv h, e1, c2, hL2]
    · rw [if_neg (fun q => c2 q.2.1)]
      simp -implicitDefEqProofs (disch := omega) only [↓reduceIte, ↓e_lets, ↓e_ite, ↓e_cal, e_cal2, e_cal3, e_thr, e_nthrow, e_rtn, e_r0, e_r1, e_dv, iI_add, iI_sub, iI_mul, iI_neg, iI_div, iI_rem, iI_lt, iI_le, iI_eq, b_eq0, b_eq1, Int.reduceAdd, Int.reduceMul, Int.reduceSub, Int.reduceNeg, Int.reduceDiv, Int.reduceMod, Nat.reduceAdd, Bool.false_eq_true, eq_self, ltT, ltF, leT, leF, eqT, eqF, true_and, and_true, false_and, and_false, and_self, or_true, true_or, or_false, false_or, ne_eq, not_true_eq_false, not_false_eq_true, if_true, if_false, ite_true, ite_false, ite_not, some_none, some_some, none_some, none_none, li_0, li_1, li_2, li_3, li_4, li_5, li_6, li_7, li_8, li_9, li_10, li_11, li_12, li_13, li_14, li_15, li_16, li_17, li_18, li_19, li_20, li_21, li_22, li_23, li_24, li_25, li_26, li_27, li_28, li_29, li_30, li_31, li_32, li_63, li_64, li_99, li_100, li_128, li_240, li_256, li_512, li_960, li_1000, li_1022, li_1023, li_100000, li_m1, li_m1000, ↓m_g0 h, ↓m_g1 h, ↓m_g2 h, ↓m_g3 h, ↓m_g4 h, ↓m_g5 h, ↓m_g6 h, ↓m_g7 h, ↓m_g8 h, ↓m_g9 h, ↓m_g10 h, ↓m_g11 h, ↓m_g12 h, ↓m_g13 h, ↓m_g14 h, ↓m_g15 h, ↓m_g16 h, ↓m_g17 h, ↓m_g18 h, ↓m_g19 h, ↓m_g20 h, ↓m_g21 h, ↓m_g22 h, ↓m_g23 h, ↓m_g24 h, ↓m_g25 h, ↓m_g26 h, ↓m_g27 h, ↓m_ld0 h, ↓m_ld1 h, ↓m_ld2 h, ↓m_ld3 h, ↓m_ld4 h, ↓m_ld5 h, ↓m_ld6 h, ↓m_ld7 h, ↓m_ld8 h, ↓m_ld9 h, ↓m_ld10 h, ↓m_ld11 h, ↓m_ld12 h, ↓m_ld13 h, ↓m_ld14 h, ↓m_ld15 h, ↓m_ld16 h, ↓m_ld17 h, ↓m_ld18 h, ↓m_ld19 h, ↓m_rcv h, e1]
  · rw [if_neg (fun q => c q.1)]
    simp -implicitDefEqProofs (disch := omega) only [↓reduceIte, ↓e_lets, ↓e_ite, ↓e_cal, e_cal2, e_cal3, e_thr, e_nthrow, e_rtn, e_r0, e_r1, e_dv, iI_add, iI_sub, iI_mul, iI_neg, iI_div, iI_rem, iI_lt, iI_le, iI_eq, b_eq0, b_eq1, Int.reduceAdd, Int.reduceMul, Int.reduceSub, Int.reduceNeg, Int.reduceDiv, Int.reduceMod, Nat.reduceAdd, Bool.false_eq_true, eq_self, ltT, ltF, leT, leF, eqT, eqF, true_and, and_true, false_and, and_false, and_self, or_true, true_or, or_false, false_or, ne_eq, not_true_eq_false, not_false_eq_true, if_true, if_false, ite_true, ite_false, ite_not, some_none, some_some, none_some, none_none, li_0, li_1, li_2, li_3, li_4, li_5, li_6, li_7, li_8, li_9, li_10, li_11, li_12, li_13, li_14, li_15, li_16, li_17, li_18, li_19, li_20, li_21, li_22, li_23, li_24, li_25, li_26, li_27, li_28, li_29, li_30, li_31, li_32, li_63, li_64, li_99, li_100, li_128, li_240, li_256, li_512, li_960, li_1000, li_1022, li_1023, li_100000, li_m1, li_m1000, ↓m_g0 h, ↓m_g1 h, ↓m_g2 h, ↓m_g3 h, ↓m_g4 h, ↓m_g5 h, ↓m_g6 h, ↓m_g7 h, ↓m_g8 h, ↓m_g9 h, ↓m_g10 h, ↓m_g11 h, ↓m_g12 h, ↓m_g13 h, ↓m_g14 h, ↓m_g15 h, ↓m_g16 h, ↓m_g17 h, ↓m_g18 h, ↓m_g19 h, ↓m_g20 h, ↓m_g21 h, ↓m_g22 h, ↓m_g23 h, ↓m_g24 h, ↓m_g25 h, ↓m_g26 h, ↓m_g27 h, ↓m_ld0 h, ↓m_ld1 h, ↓m_ld2 h, ↓m_ld3 h, ↓m_ld4 h, ↓m_ld5 h, ↓m_ld6 h, ↓m_ld7 h, ↓m_ld8 h, ↓m_ld9 h, ↓m_ld10 h, ↓m_ld11 h, ↓m_ld12 h, ↓m_ld13 h, ↓m_ld14 h, ↓m_ld15 h, ↓m_ld16 h, ↓m_ld17 h, ↓m_ld18 h, ↓m_ld19 h, ↓m_rcv h]
theorem sumN_nn {f : Nat → Int} : ∀ n, (∀ k, k < n → 0 ≤ f k) → 0 ≤ sumN f n := by
  intro n
  induction n with
  | zero => intro _; exact Int.le_refl 0
  | succ n ih =>
    intro h
    have h1 := ih (fun k hk => h k (by omega))
    have h2 := h n (by omega)
    show 0 ≤ sumN f n + f n
    omega
theorem sumN_ge {f : Nat → Int} : ∀ n, (∀ k, k < n → 0 ≤ f k) → ∀ j, j < n → f j ≤ sumN f n := by
  intro n
  induction n with
  | zero => intro _ j hj; exact absurd hj (by omega)
  | succ n ih =>
    intro h j hj
    have h1 := sumN_nn n (fun k hk => h k (by omega))
    have h2 := h n (by omega)
    show f j ≤ sumN f n + f n
    by_cases c : j = n
    · subst c; omega
    · have h3 := ih (fun k hk => h k (by omega)) j (by omega)
      omega
theorem cntN_sum (q : Nat → Bool) (n : Nat) : cntN q n = sumN (fun k => if q k = true then 1 else 0) n := rfl
theorem wo_th {S : SS} (hV : VS S) {l x : Int} (l0 : 0 ≤ l) (l1 : l < S 20 4) (x0 : 0 ≤ x) (x1 : x < 240) : (0 ≤ baV S l x ↔ woI S l x < 1000) ∧ (0 ≤ baV S l x → woI S l x = cntN (thQ S l x) (S 20 4).toNat) := by
  have hm2 := hV.2.1
  unfold Bm at hm2
  have hs := sN_16 (thQ S l x) (n := (S 20 4).toNat) (by omega)
  unfold baV
  by_cases c : x % 8 < S 20 1
  · have hop := opM_has hV l0 l1 (r := x % 8) (by omega) c (s := x / 8) (by omega) (by omega)
    by_cases c2 : sPl S l (x / 8) (x % 8) = 0
    · have e1 : opnI S l x (S 20 1) = -1000 := if_pos ⟨c, hop.mpr c2⟩
      by_cases c3 : fstN (loB S l x) (S 20 4).toNat < 0
      · have e2 : sumN (fun k => onI S l k x (S 20 1)) (S 20 4).toNat = cntN (thQ S l x) (S 20 4).toNat := by
          rw [cntN_sum]
          refine sumN_c _ (fun k hk => ?_)
          have h1 := fstN_l (loB S l x) _ k hk (Or.inl c3)
          unfold onI
          unfold loB at h1
          by_cases d : thQ S l x k = true
          · rw [if_pos d, if_pos ⟨c, d⟩]
            rw [d, Bool.true_and, Bool.not_eq_false', decide_eq_true_eq] at h1
            rw [if_pos h1]
          · rw [if_neg d, if_neg (fun q => d q.2)]
        rw [if_pos ⟨c, c2, c3⟩]
        unfold woI
        rw [e1, e2]
        have hb := sumN_b (f := fun k : Nat => if thQ S l x k = true then (1 : Int) else 0) (a := 0) (b := 1) (S 20 4).toNat (fun k _ => by split <;> omega)
        rw [← cntN_sum] at hb
        omega
      · rw [if_neg (fun q => c3 q.2.2)]
        have h1 := fstN_b (loB S l x) (S 20 4).toNat
        obtain ⟨j, hj, hp⟩ : ∃ j : Nat, j < (S 20 4).toNat ∧ loB S l x j = true := ⟨(fstN (loB S l x) (S 20 4).toNat).toNat, by omega, fstN_p (loB S l x) (S 20 4).toNat (by omega)⟩
        unfold loB at hp
        rw [Bool.and_eq_true, Bool.not_eq_true', decide_eq_false_iff_not] at hp
        have h3 : onI S l j x (S 20 1) = 1000 := by
          unfold onI
          rw [if_pos ⟨c, hp.1⟩, if_neg hp.2]
        have h4 := sumN_ge (f := fun k : Nat => onI S l k x (S 20 1)) (S 20 4).toNat (fun k _ => by
          show 0 ≤ onI S l k x (S 20 1)
          unfold onI
          repeat' split
          all_goals omega) j hj
        have h5 : onI S l j x (S 20 1) ≤ sumN (fun k => onI S l k x (S 20 1)) (S 20 4).toNat := h4
        unfold woI
        omega
    · rw [if_neg (fun q => c2 q.2.1)]
      have e1 : opnI S l x (S 20 1) = 0 := if_neg (fun q => c2 (hop.mp q.2))
      have hw := woI_b hV.2.1 l x
      omega
  · rw [if_neg (fun q => c q.1)]
    have e1 : opnI S l x (S 20 1) = 0 := if_neg (fun q => c q.1)
    have hw := woI_b hV.2.1 l x
    omega
theorem baV_b {S : SS} (hm : Bm S) (l x : Int) : -1 ≤ baV S l x ∧ baV S l x < 65536 := by
  unfold Bm at hm
  have hs := sN_16 (thQ S l x) (n := (S 20 4).toNat) (by omega)
  unfold baV
  split <;> omega
theorem mb_wo {S : SS} (hV : VS S) {l x : Int} (l0 : 0 ≤ l) (l1 : l < S 20 4) (x0 : 0 ≤ x) (x1 : x < 240) (h : 0 ≤ baV S l x) (hs : Hs) : f_X9_manyBits (iI (baV S l x)) hs = some (.ok (iI (woI S l x)), hs) := by
  have hm2 := hV.2.1
  unfold Bm at hm2
  have hb := baV_b hV.2.1 l x
  rw [e_manyBits hs h (by omega), (wo_th hV l0 l1 x0 x1).2 h]
  have e : baV S l x = (sN (thQ S l x) (S 20 4).toNat : Int) := by
    unfold baV at *
    split at h
    · rename_i c
      exact if_pos c
    · omega
  rw [e, bcN_cnt (x := iI (sN (thQ S l x) (S 20 4).toNat : Int)) (p := thQ S l x) (n := (S 20 4).toNat) (by omega) (fun s hs => sN_has (thQ S l x) (by omega) hs)]
theorem e_L_th7 {S : SS} {m0 : Nat} {hs : Hs} (h : MR S m0 hs) (hV : VS S) {l : Int} (l0 : 0 ≤ l) (l1 : l < S 20 4) (Kc : Int32 → Int32 → OO Int32) : L_X9_throwsOut_7 (some m0) (iI l) Kc 100000 (iI (-1)) (iI 0) (iI 0) hs = Kc (iI (thP S l 240)) (iI (if thP S l 240 < 0 then 0 else baV S l (thP S l 240))) hs := by
  obtain ⟨hb, hm, hv⟩ := hV
  have hm2 := hm
  unfold Bm at hm2
  have hL : L_X9_throwsOut_7 (some m0) (iI l) Kc 100000 (iI (thP S l 0)) (iI (if thP S l 0 < 0 then 0 else baV S l (thP S l 0))) (iI ((0 : Nat) : Int)) hs = Kc (iI (thP S l 240)) (iI (if thP S l 240 < 0 then 0 else baV S l (thP S l 240))) hs := by
    refine loopD (fun f (qq : Int32 × Int32 × Int32) => L_X9_throwsOut_7 (some m0) (iI l) Kc f qq.1 qq.2.1 qq.2.2 hs) (fun m => (iI (thP S l m), iI (if thP S l m < 0 then 0 else baV S l (thP S l m)), iI (m : Int))) 240 _ (fun k f hk => ?_) (fun f => ?_) 100000 (by omega)
    · show L_X9_throwsOut_7 _ _ _ (f + 1) (iI (thP S l k)) (iI (if thP S l k < 0 then 0 else baV S l (thP S l k))) (iI (k : Int)) hs = L_X9_throwsOut_7 _ _ _ f (iI (thP S l (k + 1))) (iI (if thP S l (k + 1) < 0 then 0 else baV S l (thP S l (k + 1)))) (iI ((k + 1) : Int)) hs
      have e1 := e_barring h ⟨hb, hm, hv⟩ l0 l1 (x := (k : Int)) (by omega) (by omega)
      have hw := wo_th (S := S) ⟨hb, hm, hv⟩ l0 l1 (x := (k : Int)) (by omega) (by omega)
      have hab : -1 ≤ thP S l k ∧ thP S l k < k := amin_b _ _ k
      have hak : 0 ≤ thP S l k → decide (woI S l ((thP S l k).toNat : Int) < 1000) = true := fun h => amin_ok (fun q : Nat => decide (woI S l q < 1000)) (fun q => woI S l q) k h
      have hn : decide (woI S l k < 1000) = false → thP S l (k + 1) = thP S l k := fun h => amin_no h
      have hnw : decide (woI S l k < 1000) = true → (thP S l k < 0 ∨ woI S l k < woI S l ((thP S l k).toNat : Int)) → thP S l (k + 1) = k := fun h h2 => amin_new h h2
      have ho : 0 ≤ thP S l k → woI S l ((thP S l k).toNat : Int) ≤ woI S l k → thP S l (k + 1) = thP S l k := fun h h2 => amin_old h h2
      generalize thP S l (k + 1) = a1 at *
      generalize thP S l k = b at *
      have hbk := baV_b hm l k
      have hbb := baV_b hm l b
      rw [u_L_X9_throwsOut_7]
      by_cases d : 0 ≤ baV S l k
      · have d1 := hw.1.mp d
        have e2 := mb_wo (S := S) ⟨hb, hm, hv⟩ l0 l1 (x := (k : Int)) (by omega) (by omega) d
        have hwk := woI_b hm l k
        by_cases d2 : b < 0
        · rw [hnw (decide_eq_true d1) (Or.inl d2)]
          simp -implicitDefEqProofs (disch := omega) only [↓reduceIte, ↓e_lets, ↓e_ite, ↓e_cal, e_cal2, e_cal3, e_thr, e_nthrow, e_rtn, e_r0, e_r1, e_dv, iI_add, iI_sub, iI_mul, iI_neg, iI_div, iI_rem, iI_lt, iI_le, iI_eq, b_eq0, b_eq1, Int.reduceAdd, Int.reduceMul, Int.reduceSub, Int.reduceNeg, Int.reduceDiv, Int.reduceMod, Nat.reduceAdd, Bool.false_eq_true, eq_self, ltT, ltF, leT, leF, eqT, eqF, true_and, and_true, false_and, and_false, and_self, or_true, true_or, or_false, false_or, ne_eq, not_true_eq_false, not_false_eq_true, if_true, if_false, ite_true, ite_false, ite_not, some_none, some_some, none_some, none_none, li_0, li_1, li_2, li_3, li_4, li_5, li_6, li_7, li_8, li_9, li_10, li_11, li_12, li_13, li_14, li_15, li_16, li_17, li_18, li_19, li_20, li_21, li_22, li_23, li_24, li_25, li_26, li_27, li_28, li_29, li_30, li_31, li_32, li_63, li_64, li_99, li_100, li_128, li_240, li_256, li_512, li_960, li_1000, li_1022, li_1023, li_100000, li_m1, li_m1000, ↓m_g0 h, ↓m_g1 h, ↓m_g2 h, ↓m_g3 h, ↓m_g4 h, ↓m_g5 h, ↓m_g6 h, ↓m_g7 h, ↓m_g8 h, ↓m_g9 h, ↓m_g10 h, ↓m_g11 h, ↓m_g12 h, ↓m_g13 h, ↓m_g14 h, ↓m_g15 h, ↓m_g16 h, ↓m_g17 h, ↓m_g18 h, ↓m_g19 h, ↓m_g20 h, ↓m_g21 h, ↓m_g22 h, ↓m_g23 h, ↓m_g24 h, ↓m_g25 h, ↓m_g26 h, ↓m_g27 h, ↓m_ld0 h, ↓m_ld1 h, ↓m_ld2 h, ↓m_ld3 h, ↓m_ld4 h, ↓m_ld5 h, ↓m_ld6 h, ↓m_ld7 h, ↓m_ld8 h, ↓m_ld9 h, ↓m_ld10 h, ↓m_ld11 h, ↓m_ld12 h, ↓m_ld13 h, ↓m_ld14 h, ↓m_ld15 h, ↓m_ld16 h, ↓m_ld17 h, ↓m_ld18 h, ↓m_ld19 h, ↓m_rcv h, e1, ↓u_j_X9_throwsOut_54, ↓u_j_X9_throwsOut_48]
        · have ha : ((b.toNat : Nat) : Int) = b := by omega
          rw [ha] at hnw ho hak
          have d4 := (wo_th (S := S) ⟨hb, hm, hv⟩ l0 l1 (x := b) (by omega) (by omega)).1.mpr (of_decide_eq_true (hak (by omega)))
          have e3 := mb_wo (S := S) ⟨hb, hm, hv⟩ l0 l1 (x := b) (by omega) (by omega) d4
          have hwb := woI_b hm l b
          by_cases d3 : woI S l k < woI S l b
          · rw [hnw (decide_eq_true d1) (Or.inr d3)]
            simp -implicitDefEqProofs (disch := omega) only [↓reduceIte, ↓e_lets, ↓e_ite, ↓e_cal, e_cal2, e_cal3, e_thr, e_nthrow, e_rtn, e_r0, e_r1, e_dv, iI_add, iI_sub, iI_mul, iI_neg, iI_div, iI_rem, iI_lt, iI_le, iI_eq, b_eq0, b_eq1, Int.reduceAdd, Int.reduceMul, Int.reduceSub, Int.reduceNeg, Int.reduceDiv, Int.reduceMod, Nat.reduceAdd, Bool.false_eq_true, eq_self, ltT, ltF, leT, leF, eqT, eqF, true_and, and_true, false_and, and_false, and_self, or_true, true_or, or_false, false_or, ne_eq, not_true_eq_false, not_false_eq_true, if_true, if_false, ite_true, ite_false, ite_not, some_none, some_some, none_some, none_none, li_0, li_1, li_2, li_3, li_4, li_5, li_6, li_7, li_8, li_9, li_10, li_11, li_12, li_13, li_14, li_15, li_16, li_17, li_18, li_19, li_20, li_21, li_22, li_23, li_24, li_25, li_26, li_27, li_28, li_29, li_30, li_31, li_32, li_63, li_64, li_99, li_100, li_128, li_240, li_256, li_512, li_960, li_1000, li_1022, li_1023, li_100000, li_m1, li_m1000, ↓m_g0 h, ↓m_g1 h, ↓m_g2 h, ↓m_g3 h, ↓m_g4 h, ↓m_g5 h, ↓m_g6 h, ↓m_g7 h, ↓m_g8 h, ↓m_g9 h, ↓m_g10 h, ↓m_g11 h, ↓m_g12 h, ↓m_g13 h, ↓m_g14 h, ↓m_g15 h, ↓m_g16 h, ↓m_g17 h, ↓m_g18 h, ↓m_g19 h, ↓m_g20 h, ↓m_g21 h, ↓m_g22 h, ↓m_g23 h, ↓m_g24 h, ↓m_g25 h, ↓m_g26 h, ↓m_g27 h, ↓m_ld0 h, ↓m_ld1 h, ↓m_ld2 h, ↓m_ld3 h, ↓m_ld4 h, ↓m_ld5 h, ↓m_ld6 h, ↓m_ld7 h, ↓m_ld8 h, ↓m_ld9 h, ↓m_ld10 h, ↓m_ld11 h, ↓m_ld12 h, ↓m_ld13 h, ↓m_ld14 h, ↓m_ld15 h, ↓m_ld16 h, ↓m_ld17 h, ↓m_ld18 h, ↓m_ld19 h, ↓m_rcv h, e1, e2, e3, ↓u_j_X9_throwsOut_54, ↓u_j_X9_throwsOut_48]
          · rw [ho (by omega) (by omega)]
            simp -implicitDefEqProofs (disch := omega) only [↓reduceIte, ↓e_lets, ↓e_ite, ↓e_cal, e_cal2, e_cal3, e_thr, e_nthrow, e_rtn, e_r0, e_r1, e_dv, iI_add, iI_sub, iI_mul, iI_neg, iI_div, iI_rem, iI_lt, iI_le, iI_eq, b_eq0, b_eq1, Int.reduceAdd, Int.reduceMul, Int.reduceSub, Int.reduceNeg, Int.reduceDiv, Int.reduceMod, Nat.reduceAdd, Bool.false_eq_true, eq_self, ltT, ltF, leT, leF, eqT, eqF, true_and, and_true, false_and, and_false, and_self, or_true, true_or, or_false, false_or, ne_eq, not_true_eq_false, not_false_eq_true, if_true, if_false, ite_true, ite_false, ite_not, some_none, some_some, none_some, none_none, li_0, li_1, li_2, li_3, li_4, li_5, li_6, li_7, li_8, li_9, li_10, li_11, li_12, li_13, li_14, li_15, li_16, li_17, li_18, li_19, li_20, li_21, li_22, li_23, li_24, li_25, li_26, li_27, li_28, li_29, li_30, li_31, li_32, li_63, li_64, li_99, li_100, li_128, li_240, li_256, li_512, li_960, li_1000, li_1022, li_1023, li_100000, li_m1, li_m1000, ↓m_g0 h, ↓m_g1 h, ↓m_g2 h, ↓m_g3 h, ↓m_g4 h, ↓m_g5 h, ↓m_g6 h, ↓m_g7 h, ↓m_g8 h, ↓m_g9 h, ↓m_g10 h, ↓m_g11 h, ↓m_g12 h, ↓m_g13 h, ↓m_g14 h, ↓m_g15 h, ↓m_g16 h, ↓m_g17 h, ↓m_g18 h, ↓m_g19 h, ↓m_g20 h, ↓m_g21 h, ↓m_g22 h, ↓m_g23 h, ↓m_g24 h, ↓m_g25 h, ↓m_g26 h, ↓m_g27 h, ↓m_ld0 h, ↓m_ld1 h, ↓m_ld2 h, ↓m_ld3 h, ↓m_ld4 h, ↓m_ld5 h, ↓m_ld6 h, ↓m_ld7 h, ↓m_ld8 h, ↓m_ld9 h, ↓m_ld10 h, ↓m_ld11 h, ↓m_ld12 h, ↓m_ld13 h, ↓m_ld14 h, ↓m_ld15 h, ↓m_ld16 h, ↓m_ld17 h, ↓m_ld18 h, ↓m_ld19 h, ↓m_rcv h, e1, e2, e3, ↓u_j_X9_throwsOut_54, ↓u_j_X9_throwsOut_48]
      · rw [hn (decide_eq_false (fun q => d (hw.1.mpr q)))]
        simp -implicitDefEqProofs (disch := omega) only [↓reduceIte, ↓e_lets, ↓e_ite, ↓e_cal, e_cal2, e_cal3, e_thr, e_nthrow, e_rtn, e_r0, e_r1, e_dv, iI_add, iI_sub, iI_mul, iI_neg, iI_div, iI_rem, iI_lt, iI_le, iI_eq, b_eq0, b_eq1, Int.reduceAdd, Int.reduceMul, Int.reduceSub, Int.reduceNeg, Int.reduceDiv, Int.reduceMod, Nat.reduceAdd, Bool.false_eq_true, eq_self, ltT, ltF, leT, leF, eqT, eqF, true_and, and_true, false_and, and_false, and_self, or_true, true_or, or_false, false_or, ne_eq, not_true_eq_false, not_false_eq_true, if_true, if_false, ite_true, ite_false, ite_not, some_none, some_some, none_some, none_none, li_0, li_1, li_2, li_3, li_4, li_5, li_6, li_7, li_8, li_9, li_10, li_11, li_12, li_13, li_14, li_15, li_16, li_17, li_18, li_19, li_20, li_21, li_22, li_23, li_24, li_25, li_26, li_27, li_28, li_29, li_30, li_31, li_32, li_63, li_64, li_99, li_100, li_128, li_240, li_256, li_512, li_960, li_1000, li_1022, li_1023, li_100000, li_m1, li_m1000, ↓m_g0 h, ↓m_g1 h, ↓m_g2 h, ↓m_g3 h, ↓m_g4 h, ↓m_g5 h, ↓m_g6 h, ↓m_g7 h, ↓m_g8 h, ↓m_g9 h, ↓m_g10 h, ↓m_g11 h, ↓m_g12 h, ↓m_g13 h, ↓m_g14 h, ↓m_g15 h, ↓m_g16 h, ↓m_g17 h, ↓m_g18 h, ↓m_g19 h, ↓m_g20 h, ↓m_g21 h, ↓m_g22 h, ↓m_g23 h, ↓m_g24 h, ↓m_g25 h, ↓m_g26 h, ↓m_g27 h, ↓m_ld0 h, ↓m_ld1 h, ↓m_ld2 h, ↓m_ld3 h, ↓m_ld4 h, ↓m_ld5 h, ↓m_ld6 h, ↓m_ld7 h, ↓m_ld8 h, ↓m_ld9 h, ↓m_ld10 h, ↓m_ld11 h, ↓m_ld12 h, ↓m_ld13 h, ↓m_ld14 h, ↓m_ld15 h, ↓m_ld16 h, ↓m_ld17 h, ↓m_ld18 h, ↓m_ld19 h, ↓m_rcv h, e1, ↓u_j_X9_throwsOut_54, ↓u_j_X9_throwsOut_48]
    · show L_X9_throwsOut_7 _ _ _ (f + 1) (iI (thP S l 240)) (iI (if thP S l 240 < 0 then 0 else baV S l (thP S l 240))) (iI (240 : Int)) hs = _
      rw [u_L_X9_throwsOut_7]
      simp -implicitDefEqProofs (disch := omega) only [↓reduceIte, ↓e_lets, ↓e_ite, ↓e_cal, e_cal2, e_cal3, e_thr, e_nthrow, e_rtn, e_r0, e_r1, e_dv, iI_add, iI_sub, iI_mul, iI_neg, iI_div, iI_rem, iI_lt, iI_le, iI_eq, b_eq0, b_eq1, Int.reduceAdd, Int.reduceMul, Int.reduceSub, Int.reduceNeg, Int.reduceDiv, Int.reduceMod, Nat.reduceAdd, Bool.false_eq_true, eq_self, ltT, ltF, leT, leF, eqT, eqF, true_and, and_true, false_and, and_false, and_self, or_true, true_or, or_false, false_or, ne_eq, not_true_eq_false, not_false_eq_true, if_true, if_false, ite_true, ite_false, ite_not, some_none, some_some, none_some, none_none, li_0, li_1, li_2, li_3, li_4, li_5, li_6, li_7, li_8, li_9, li_10, li_11, li_12, li_13, li_14, li_15, li_16, li_17, li_18, li_19, li_20, li_21, li_22, li_23, li_24, li_25, li_26, li_27, li_28, li_29, li_30, li_31, li_32, li_63, li_64, li_99, li_100, li_128, li_240, li_256, li_512, li_960, li_1000, li_1022, li_1023, li_100000, li_m1, li_m1000, ↓m_g0 h, ↓m_g1 h, ↓m_g2 h, ↓m_g3 h, ↓m_g4 h, ↓m_g5 h, ↓m_g6 h, ↓m_g7 h, ↓m_g8 h, ↓m_g9 h, ↓m_g10 h, ↓m_g11 h, ↓m_g12 h, ↓m_g13 h, ↓m_g14 h, ↓m_g15 h, ↓m_g16 h, ↓m_g17 h, ↓m_g18 h, ↓m_g19 h, ↓m_g20 h, ↓m_g21 h, ↓m_g22 h, ↓m_g23 h, ↓m_g24 h, ↓m_g25 h, ↓m_g26 h, ↓m_g27 h, ↓m_ld0 h, ↓m_ld1 h, ↓m_ld2 h, ↓m_ld3 h, ↓m_ld4 h, ↓m_ld5 h, ↓m_ld6 h, ↓m_ld7 h, ↓m_ld8 h, ↓m_ld9 h, ↓m_ld10 h, ↓m_ld11 h, ↓m_ld12 h, ↓m_ld13 h, ↓m_ld14 h, ↓m_ld15 h, ↓m_ld16 h, ↓m_ld17 h, ↓m_ld18 h, ↓m_ld19 h, ↓m_rcv h]
  exact hL
theorem e_L_th69 {m0 : Nat} {P : Hp} {S : SS} {z : Nat × Nat} (hm : Bm S) (q : Nat → Bool) (a1 a2 : Int32) (Kc : OO Int32) : L_X9_throwsOut_69 (some m0) a1 a2 (iI (sN q (S 20 4).toNat : Int)) Kc 100000 (iI 0) (Hm m0 P S, z) = Kc (Hm m0 P (rmS S q (S 20 4)), z) := by
  have hm2 := hm
  unfold Bm at hm2
  have h9 : (((S 20 4).toNat : Nat) : Int) = S 20 4 := by omega
  have hs6 := sN_16 q (n := (S 20 4).toNat) (by omega)
  have hL := loopD (fun f (t : Int32 × SS) => L_X9_throwsOut_69 (some m0) a1 a2 (iI (sN q (S 20 4).toNat : Int)) Kc f t.1 (Hm m0 P t.2, z)) (fun m => (iI (m : Int), rmS S q (m : Int))) (S 20 4).toNat (Kc (Hm m0 P (rmS S q (S 20 4)), z)) (fun k f hk => ?_) (fun f => ?_) 100000 (by omega)
  · have e0 : rmS S q ((0 : Nat) : Int) = S := rmS_0 S q
    have hL2 : L_X9_throwsOut_69 (some m0) a1 a2 (iI (sN q (S 20 4).toNat : Int)) Kc 100000 (iI ((0 : Nat) : Int)) (Hm m0 P (rmS S q ((0 : Nat) : Int)), z) = Kc (Hm m0 P (rmS S q (S 20 4)), z) := hL
    rw [e0] at hL2
    exact hL2
  · show L_X9_throwsOut_69 (some m0) a1 a2 (iI (sN q (S 20 4).toNat : Int)) Kc (f + 1) (iI (k : Int)) (Hm m0 P (rmS S q (k : Int)), z) = L_X9_throwsOut_69 (some m0) a1 a2 (iI (sN q (S 20 4).toNat : Int)) Kc f (iI ((k : Int) + 1)) (Hm m0 P (rmS S q ((k + 1 : Nat) : Int)), z)
    have hg : rmS S q (k : Int) 20 = S 20 := rmS_g (by decide)
    have hsb := sar_b (v := (sN q (S 20 4).toNat : Int)) (by omega) (by omega) (s := k) (by omega)
    rw [sN_has q (by omega) (by omega), decide_eq_true hk, Bool.true_and] at hsb
    rw [u_L_X9_throwsOut_69]
    cases d : q k
    · rw [d] at hsb
      rw [rmS_2 S q k d]
      simp -implicitDefEqProofs (disch := omega) only [↓reduceIte, ↓e_lets, ↓e_ite, ↓e_cal, e_cal2, e_cal3, e_thr, e_nthrow, e_rtn, e_r0, e_r1, e_dv, iI_add, iI_sub, iI_mul, iI_neg, iI_div, iI_rem, iI_lt, iI_le, iI_eq, b_eq0, b_eq1, Int.reduceAdd, Int.reduceMul, Int.reduceSub, Int.reduceNeg, Int.reduceDiv, Int.reduceMod, Nat.reduceAdd, Bool.false_eq_true, eq_self, ltT, ltF, leT, leF, eqT, eqF, true_and, and_true, false_and, and_false, and_self, or_true, true_or, or_false, false_or, ne_eq, not_true_eq_false, not_false_eq_true, if_true, if_false, ite_true, ite_false, ite_not, some_none, some_some, none_some, none_none, li_0, li_1, li_2, li_3, li_4, li_5, li_6, li_7, li_8, li_9, li_10, li_11, li_12, li_13, li_14, li_15, li_16, li_17, li_18, li_19, li_20, li_21, li_22, li_23, li_24, li_25, li_26, li_27, li_28, li_29, li_30, li_31, li_32, li_63, li_64, li_99, li_100, li_128, li_240, li_256, li_512, li_960, li_1000, li_1022, li_1023, li_100000, li_m1, li_m1000, ↓m_g0 MR_Hm, ↓m_g1 MR_Hm, ↓m_g2 MR_Hm, ↓m_g3 MR_Hm, ↓m_g4 MR_Hm, ↓m_g5 MR_Hm, ↓m_g6 MR_Hm, ↓m_g7 MR_Hm, ↓m_g8 MR_Hm, ↓m_g9 MR_Hm, ↓m_g10 MR_Hm, ↓m_g11 MR_Hm, ↓m_g12 MR_Hm, ↓m_g13 MR_Hm, ↓m_g14 MR_Hm, ↓m_g15 MR_Hm, ↓m_g16 MR_Hm, ↓m_g17 MR_Hm, ↓m_g18 MR_Hm, ↓m_g19 MR_Hm, ↓m_g20 MR_Hm, ↓m_g21 MR_Hm, ↓m_g22 MR_Hm, ↓m_g23 MR_Hm, ↓m_g24 MR_Hm, ↓m_g25 MR_Hm, ↓m_g26 MR_Hm, ↓m_g27 MR_Hm, ↓m_ld0 MR_Hm, ↓m_ld1 MR_Hm, ↓m_ld2 MR_Hm, ↓m_ld3 MR_Hm, ↓m_ld4 MR_Hm, ↓m_ld5 MR_Hm, ↓m_ld6 MR_Hm, ↓m_ld7 MR_Hm, ↓m_ld8 MR_Hm, ↓m_ld9 MR_Hm, ↓m_ld10 MR_Hm, ↓m_ld11 MR_Hm, ↓m_ld12 MR_Hm, ↓m_ld13 MR_Hm, ↓m_ld14 MR_Hm, ↓m_ld15 MR_Hm, ↓m_ld16 MR_Hm, ↓m_ld17 MR_Hm, ↓m_ld18 MR_Hm, ↓m_ld19 MR_Hm, ↓m_rcv MR_Hm, ↓m_s0, ↓m_s1, ↓m_s2, ↓m_s3, ↓m_s4, ↓m_s5, ↓m_s6, ↓m_s7, ↓m_s8, ↓m_s9, ↓m_s10, ↓m_s11, ↓m_s12, ↓m_s13, ↓m_s14, ↓m_s15, ↓m_s16, ↓m_s17, ↓m_s18, ↓m_s19, ↓m_p0, ↓m_p1, ↓m_p2, ↓m_p3, ↓m_p4, ↓m_p5, ↓m_p6, ↓m_p7, upS_s, upS_g, upS_i, hg, hsb, ↓u_j_X9_throwsOut_96, reduceCtorEq]
    · rw [d] at hsb
      rw [← rmS_1 S q k d]
      simp -implicitDefEqProofs (disch := omega) only [↓reduceIte, ↓e_lets, ↓e_ite, ↓e_cal, e_cal2, e_cal3, e_thr, e_nthrow, e_rtn, e_r0, e_r1, e_dv, iI_add, iI_sub, iI_mul, iI_neg, iI_div, iI_rem, iI_lt, iI_le, iI_eq, b_eq0, b_eq1, Int.reduceAdd, Int.reduceMul, Int.reduceSub, Int.reduceNeg, Int.reduceDiv, Int.reduceMod, Nat.reduceAdd, Bool.false_eq_true, eq_self, ltT, ltF, leT, leF, eqT, eqF, true_and, and_true, false_and, and_false, and_self, or_true, true_or, or_false, false_or, ne_eq, not_true_eq_false, not_false_eq_true, if_true, if_false, ite_true, ite_false, ite_not, some_none, some_some, none_some, none_none, li_0, li_1, li_2, li_3, li_4, li_5, li_6, li_7, li_8, li_9, li_10, li_11, li_12, li_13, li_14, li_15, li_16, li_17, li_18, li_19, li_20, li_21, li_22, li_23, li_24, li_25, li_26, li_27, li_28, li_29, li_30, li_31, li_32, li_63, li_64, li_99, li_100, li_128, li_240, li_256, li_512, li_960, li_1000, li_1022, li_1023, li_100000, li_m1, li_m1000, ↓m_g0 MR_Hm, ↓m_g1 MR_Hm, ↓m_g2 MR_Hm, ↓m_g3 MR_Hm, ↓m_g4 MR_Hm, ↓m_g5 MR_Hm, ↓m_g6 MR_Hm, ↓m_g7 MR_Hm, ↓m_g8 MR_Hm, ↓m_g9 MR_Hm, ↓m_g10 MR_Hm, ↓m_g11 MR_Hm, ↓m_g12 MR_Hm, ↓m_g13 MR_Hm, ↓m_g14 MR_Hm, ↓m_g15 MR_Hm, ↓m_g16 MR_Hm, ↓m_g17 MR_Hm, ↓m_g18 MR_Hm, ↓m_g19 MR_Hm, ↓m_g20 MR_Hm, ↓m_g21 MR_Hm, ↓m_g22 MR_Hm, ↓m_g23 MR_Hm, ↓m_g24 MR_Hm, ↓m_g25 MR_Hm, ↓m_g26 MR_Hm, ↓m_g27 MR_Hm, ↓m_ld0 MR_Hm, ↓m_ld1 MR_Hm, ↓m_ld2 MR_Hm, ↓m_ld3 MR_Hm, ↓m_ld4 MR_Hm, ↓m_ld5 MR_Hm, ↓m_ld6 MR_Hm, ↓m_ld7 MR_Hm, ↓m_ld8 MR_Hm, ↓m_ld9 MR_Hm, ↓m_ld10 MR_Hm, ↓m_ld11 MR_Hm, ↓m_ld12 MR_Hm, ↓m_ld13 MR_Hm, ↓m_ld14 MR_Hm, ↓m_ld15 MR_Hm, ↓m_ld16 MR_Hm, ↓m_ld17 MR_Hm, ↓m_ld18 MR_Hm, ↓m_ld19 MR_Hm, ↓m_rcv MR_Hm, ↓m_s0, ↓m_s1, ↓m_s2, ↓m_s3, ↓m_s4, ↓m_s5, ↓m_s6, ↓m_s7, ↓m_s8, ↓m_s9, ↓m_s10, ↓m_s11, ↓m_s12, ↓m_s13, ↓m_s14, ↓m_s15, ↓m_s16, ↓m_s17, ↓m_s18, ↓m_s19, ↓m_p0, ↓m_p1, ↓m_p2, ↓m_p3, ↓m_p4, ↓m_p5, ↓m_p6, ↓m_p7, upS_s, upS_g, upS_i, hg, hsb, ↓u_j_X9_throwsOut_96, reduceCtorEq]
  · show L_X9_throwsOut_69 (some m0) a1 a2 (iI (sN q (S 20 4).toNat : Int)) Kc (f + 1) (iI (((S 20 4).toNat : Nat) : Int)) (Hm m0 P (rmS S q (((S 20 4).toNat : Nat) : Int)), z) = _
    have hg : rmS S q (S 20 4) 20 = S 20 := rmS_g (by decide)
    rw [h9, u_L_X9_throwsOut_69]
    simp -implicitDefEqProofs (disch := omega) only [↓reduceIte, ↓e_lets, ↓e_ite, ↓e_cal, e_cal2, e_cal3, e_thr, e_nthrow, e_rtn, e_r0, e_r1, e_dv, iI_add, iI_sub, iI_mul, iI_neg, iI_div, iI_rem, iI_lt, iI_le, iI_eq, b_eq0, b_eq1, Int.reduceAdd, Int.reduceMul, Int.reduceSub, Int.reduceNeg, Int.reduceDiv, Int.reduceMod, Nat.reduceAdd, Bool.false_eq_true, eq_self, ltT, ltF, leT, leF, eqT, eqF, true_and, and_true, false_and, and_false, and_self, or_true, true_or, or_false, false_or, ne_eq, not_true_eq_false, not_false_eq_true, if_true, if_false, ite_true, ite_false, ite_not, some_none, some_some, none_some, none_none, li_0, li_1, li_2, li_3, li_4, li_5, li_6, li_7, li_8, li_9, li_10, li_11, li_12, li_13, li_14, li_15, li_16, li_17, li_18, li_19, li_20, li_21, li_22, li_23, li_24, li_25, li_26, li_27, li_28, li_29, li_30, li_31, li_32, li_63, li_64, li_99, li_100, li_128, li_240, li_256, li_512, li_960, li_1000, li_1022, li_1023, li_100000, li_m1, li_m1000, ↓m_g0 MR_Hm, ↓m_g1 MR_Hm, ↓m_g2 MR_Hm, ↓m_g3 MR_Hm, ↓m_g4 MR_Hm, ↓m_g5 MR_Hm, ↓m_g6 MR_Hm, ↓m_g7 MR_Hm, ↓m_g8 MR_Hm, ↓m_g9 MR_Hm, ↓m_g10 MR_Hm, ↓m_g11 MR_Hm, ↓m_g12 MR_Hm, ↓m_g13 MR_Hm, ↓m_g14 MR_Hm, ↓m_g15 MR_Hm, ↓m_g16 MR_Hm, ↓m_g17 MR_Hm, ↓m_g18 MR_Hm, ↓m_g19 MR_Hm, ↓m_g20 MR_Hm, ↓m_g21 MR_Hm, ↓m_g22 MR_Hm, ↓m_g23 MR_Hm, ↓m_g24 MR_Hm, ↓m_g25 MR_Hm, ↓m_g26 MR_Hm, ↓m_g27 MR_Hm, ↓m_ld0 MR_Hm, ↓m_ld1 MR_Hm, ↓m_ld2 MR_Hm, ↓m_ld3 MR_Hm, ↓m_ld4 MR_Hm, ↓m_ld5 MR_Hm, ↓m_ld6 MR_Hm, ↓m_ld7 MR_Hm, ↓m_ld8 MR_Hm, ↓m_ld9 MR_Hm, ↓m_ld10 MR_Hm, ↓m_ld11 MR_Hm, ↓m_ld12 MR_Hm, ↓m_ld13 MR_Hm, ↓m_ld14 MR_Hm, ↓m_ld15 MR_Hm, ↓m_ld16 MR_Hm, ↓m_ld17 MR_Hm, ↓m_ld18 MR_Hm, ↓m_ld19 MR_Hm, ↓m_rcv MR_Hm, ↓m_s0, ↓m_s1, ↓m_s2, ↓m_s3, ↓m_s4, ↓m_s5, ↓m_s6, ↓m_s7, ↓m_s8, ↓m_s9, ↓m_s10, ↓m_s11, ↓m_s12, ↓m_s13, ↓m_s14, ↓m_s15, ↓m_s16, ↓m_s17, ↓m_s18, ↓m_s19, ↓m_p0, ↓m_p1, ↓m_p2, ↓m_p3, ↓m_p4, ↓m_p5, ↓m_p6, ↓m_p7, upS_s, upS_g, upS_i, hg]
theorem e_throwsOut {m0 : Nat} {P : Hp} {S : SS} {z : Nat × Nat} (hV : VS S) {l : Int} (l0 : 0 ≤ l) (l1 : l < S 20 4) : f_X9_throwsOut m0 (iI l) (Hm m0 P S, z) = some (.ok (iI (if 0 ≤ thP S l 240 then 1 else 0)), (Hm m0 P (if 0 ≤ thP S l 240 then thS S l (thP S l 240) else S), z)) := by
  have hm2 := hV.2.1
  unfold Bm at hm2
  rw [u_f_X9_throwsOut, e_lets, e_lets, e_lets, li_0, li_m1, e_L_th7 MR_Hm hV l0 l1]
  have hab : -1 ≤ thP S l 240 ∧ thP S l 240 < 240 := amin_b _ _ 240
  by_cases c : 0 ≤ thP S l 240
  · have hak : decide (woI S l ((thP S l 240).toNat : Int) < 1000) = true := amin_ok (fun q : Nat => decide (woI S l q < 1000)) (fun q => woI S l q) 240 c
    rw [show (((thP S l 240).toNat : Nat) : Int) = thP S l 240 by omega, decide_eq_true_eq] at hak
    have hba := (wo_th hV l0 l1 (x := thP S l 240) c (by omega)).1.mpr hak
    have e : baV S l (thP S l 240) = (sN (thQ S l (thP S l 240)) (S 20 4).toNat : Int) := by
      unfold baV at *
      split at hba
      · rename_i c
        exact if_pos c
      · omega
    rw [if_pos c, if_pos c, if_neg (show ¬ thP S l 240 < 0 by omega), e]
    have e2 := fun a1 a2 Kc => e_L_th69 (m0 := m0) (P := P) (z := z) hV.2.1 (thQ S l (thP S l 240)) a1 a2 Kc
    unfold thS
    simp -implicitDefEqProofs (disch := omega) only [↓reduceIte, ↓e_lets, ↓e_ite, ↓e_cal, e_cal2, e_cal3, e_thr, e_nthrow, e_rtn, e_r0, e_r1, e_dv, iI_add, iI_sub, iI_mul, iI_neg, iI_div, iI_rem, iI_lt, iI_le, iI_eq, b_eq0, b_eq1, Int.reduceAdd, Int.reduceMul, Int.reduceSub, Int.reduceNeg, Int.reduceDiv, Int.reduceMod, Nat.reduceAdd, Bool.false_eq_true, eq_self, ltT, ltF, leT, leF, eqT, eqF, true_and, and_true, false_and, and_false, and_self, or_true, true_or, or_false, false_or, ne_eq, not_true_eq_false, not_false_eq_true, if_true, if_false, ite_true, ite_false, ite_not, some_none, some_some, none_some, none_none, li_0, li_1, li_2, li_3, li_4, li_5, li_6, li_7, li_8, li_9, li_10, li_11, li_12, li_13, li_14, li_15, li_16, li_17, li_18, li_19, li_20, li_21, li_22, li_23, li_24, li_25, li_26, li_27, li_28, li_29, li_30, li_31, li_32, li_63, li_64, li_99, li_100, li_128, li_240, li_256, li_512, li_960, li_1000, li_1022, li_1023, li_100000, li_m1, li_m1000, ↓m_g0 MR_Hm, ↓m_g1 MR_Hm, ↓m_g2 MR_Hm, ↓m_g3 MR_Hm, ↓m_g4 MR_Hm, ↓m_g5 MR_Hm, ↓m_g6 MR_Hm, ↓m_g7 MR_Hm, ↓m_g8 MR_Hm, ↓m_g9 MR_Hm, ↓m_g10 MR_Hm, ↓m_g11 MR_Hm, ↓m_g12 MR_Hm, ↓m_g13 MR_Hm, ↓m_g14 MR_Hm, ↓m_g15 MR_Hm, ↓m_g16 MR_Hm, ↓m_g17 MR_Hm, ↓m_g18 MR_Hm, ↓m_g19 MR_Hm, ↓m_g20 MR_Hm, ↓m_g21 MR_Hm, ↓m_g22 MR_Hm, ↓m_g23 MR_Hm, ↓m_g24 MR_Hm, ↓m_g25 MR_Hm, ↓m_g26 MR_Hm, ↓m_g27 MR_Hm, ↓m_ld0 MR_Hm, ↓m_ld1 MR_Hm, ↓m_ld2 MR_Hm, ↓m_ld3 MR_Hm, ↓m_ld4 MR_Hm, ↓m_ld5 MR_Hm, ↓m_ld6 MR_Hm, ↓m_ld7 MR_Hm, ↓m_ld8 MR_Hm, ↓m_ld9 MR_Hm, ↓m_ld10 MR_Hm, ↓m_ld11 MR_Hm, ↓m_ld12 MR_Hm, ↓m_ld13 MR_Hm, ↓m_ld14 MR_Hm, ↓m_ld15 MR_Hm, ↓m_ld16 MR_Hm, ↓m_ld17 MR_Hm, ↓m_ld18 MR_Hm, ↓m_ld19 MR_Hm, ↓m_rcv MR_Hm, ↓m_s0, ↓m_s1, ↓m_s2, ↓m_s3, ↓m_s4, ↓m_s5, ↓m_s6, ↓m_s7, ↓m_s8, ↓m_s9, ↓m_s10, ↓m_s11, ↓m_s12, ↓m_s13, ↓m_s14, ↓m_s15, ↓m_s16, ↓m_s17, ↓m_s18, ↓m_s19, ↓m_p0, ↓m_p1, ↓m_p2, ↓m_p3, ↓m_p4, ↓m_p5, ↓m_p6, ↓m_p7, e2]
  · rw [if_neg c, if_neg c, if_pos (show thP S l 240 < 0 by omega)]
    simp -implicitDefEqProofs (disch := omega) only [↓reduceIte, ↓e_lets, ↓e_ite, ↓e_cal, e_cal2, e_cal3, e_thr, e_nthrow, e_rtn, e_r0, e_r1, e_dv, iI_add, iI_sub, iI_mul, iI_neg, iI_div, iI_rem, iI_lt, iI_le, iI_eq, b_eq0, b_eq1, Int.reduceAdd, Int.reduceMul, Int.reduceSub, Int.reduceNeg, Int.reduceDiv, Int.reduceMod, Nat.reduceAdd, Bool.false_eq_true, eq_self, ltT, ltF, leT, leF, eqT, eqF, true_and, and_true, false_and, and_false, and_self, or_true, true_or, or_false, false_or, ne_eq, not_true_eq_false, not_false_eq_true, if_true, if_false, ite_true, ite_false, ite_not, some_none, some_some, none_some, none_none, li_0, li_1, li_2, li_3, li_4, li_5, li_6, li_7, li_8, li_9, li_10, li_11, li_12, li_13, li_14, li_15, li_16, li_17, li_18, li_19, li_20, li_21, li_22, li_23, li_24, li_25, li_26, li_27, li_28, li_29, li_30, li_31, li_32, li_63, li_64, li_99, li_100, li_128, li_240, li_256, li_512, li_960, li_1000, li_1022, li_1023, li_100000, li_m1, li_m1000, ↓m_g0 MR_Hm, ↓m_g1 MR_Hm, ↓m_g2 MR_Hm, ↓m_g3 MR_Hm, ↓m_g4 MR_Hm, ↓m_g5 MR_Hm, ↓m_g6 MR_Hm, ↓m_g7 MR_Hm, ↓m_g8 MR_Hm, ↓m_g9 MR_Hm, ↓m_g10 MR_Hm, ↓m_g11 MR_Hm, ↓m_g12 MR_Hm, ↓m_g13 MR_Hm, ↓m_g14 MR_Hm, ↓m_g15 MR_Hm, ↓m_g16 MR_Hm, ↓m_g17 MR_Hm, ↓m_g18 MR_Hm, ↓m_g19 MR_Hm, ↓m_g20 MR_Hm, ↓m_g21 MR_Hm, ↓m_g22 MR_Hm, ↓m_g23 MR_Hm, ↓m_g24 MR_Hm, ↓m_g25 MR_Hm, ↓m_g26 MR_Hm, ↓m_g27 MR_Hm, ↓m_ld0 MR_Hm, ↓m_ld1 MR_Hm, ↓m_ld2 MR_Hm, ↓m_ld3 MR_Hm, ↓m_ld4 MR_Hm, ↓m_ld5 MR_Hm, ↓m_ld6 MR_Hm, ↓m_ld7 MR_Hm, ↓m_ld8 MR_Hm, ↓m_ld9 MR_Hm, ↓m_ld10 MR_Hm, ↓m_ld11 MR_Hm, ↓m_ld12 MR_Hm, ↓m_ld13 MR_Hm, ↓m_ld14 MR_Hm, ↓m_ld15 MR_Hm, ↓m_ld16 MR_Hm, ↓m_ld17 MR_Hm, ↓m_ld18 MR_Hm, ↓m_ld19 MR_Hm, ↓m_rcv MR_Hm, ↓m_s0, ↓m_s1, ↓m_s2, ↓m_s3, ↓m_s4, ↓m_s5, ↓m_s6, ↓m_s7, ↓m_s8, ↓m_s9, ↓m_s10, ↓m_s11, ↓m_s12, ↓m_s13, ↓m_s14, ↓m_s15, ↓m_s16, ↓m_s17, ↓m_s18, ↓m_s19, ↓m_p0, ↓m_p1, ↓m_p2, ↓m_p3, ↓m_p4, ↓m_p5, ↓m_p6, ↓m_p7]
