/-! PURE LAYER: class and reference side by side -/
def CS (x0 m0 out outD : Nat) (S : SS) (h : Hp) (e : Nat) : Prop := ∃ (A : AA) (K : KK), A 0 0 = x0 ∧ AL A S ∧ CH A S K h ∧ A 26 0 = e ∧ h e = some ce0 ∧ CI S K ∧ ∀ k i, live S k i → A k i ≠ out ∧ A k i ≠ outD ∧ (A k i < m0 ∨ m0 + 20 < A k i)
def Sep (m0 out outD e : Nat) : Prop := out ≠ outD ∧ e ≠ out ∧ e ≠ outD ∧ (out < m0 ∨ m0 + 20 < out) ∧ (outD < m0 ∨ m0 + 20 < outD) ∧ (e < m0 ∨ m0 + 20 < e)
def InvS (x0 m0 out outD : Nat) (hs : Hs) : Prop := ∃ S, GI S ∧ CS x0 m0 out outD S hs.1 hs.2.2 ∧ MR S m0 hs ∧ (∃ f, hs.1 out = some (aL 1 f)) ∧ (∃ g, hs.1 outD = some (aD 1 g)) ∧ Sep m0 out outD hs.2.2 ∧ Bd hs.1 hs.2.1
/-- what a step of an operation finds -/
def Found (x0 m0 out outD : Nat) (S : SS) (A : AA) (P : Hp) (K : KK) (z : Nat × Nat) (f : Nat → Int64) (g : Nat → UInt64) : Prop := A 0 0 = x0 ∧ GA A ∧ VS S ∧ CI S K ∧ GI S ∧ OutI A P out f ∧ OutD A P outD g ∧ Fr A P S z ∧ out < z.1 ∧ (∀ k i, k < 27 → 0 ≤ i → A k i < m0 ∨ m0 + 20 < A k i) ∧ MR S m0 (Hc A P S K, z) ∧ Sep m0 out outD z.2 ∧ Bd P z.1 ∧ P = Hc A P S K
theorem live_cell {A : AA} {S : SS} {K : KK} {h : Hp} (hc : CH A S K h) {k : Nat} {i : Int} (hl : live S k i) {B : Nat} (hB : Bd h B) : A k i < B := hB _ _ (hc k i hl)
theorem inv_open {x0 m0 out outD : Nat} {hs : Hs} (h : InvS x0 m0 out outD hs) : ∃ S A K f g, hs = (Hc A hs.1 S K, hs.2) ∧ Found x0 m0 out outD S A hs.1 K hs.2 f g := by
  obtain ⟨S, hG, ⟨A, K, h0, hal, hch, he, hce, hC, hdis⟩, hM, ⟨f, hf⟩, ⟨g, hg⟩, hsep, hB⟩ := h
  have hB2 : Bd hs.1 (hs.2.1 + 100) := fun a e ha => by have := hB a e ha; omega
  obtain ⟨A2, hA, hA1, hA2, hA3, hA4⟩ := re_A hG.1.1 hal hch (by rw [he]; exact hce) hB2
  have hout : out < hs.2.1 := hB _ _ hf
  have houtD : outD < hs.2.1 := hB _ _ hg
  have hm0 : m0 + 20 < hs.2.1 := by
    have := hB _ _ (hM.2 19 (by decide))
    unfold mA at this
    omega
  have hlive0 : live S 0 0 := lv1 (by decide) (by decide) (by show (0 : Int) < 1; decide) (by decide)
  have hno : ∀ (k : Nat) (i : Int), k < 27 → 0 ≤ i → A2 k i ≠ out ∧ A2 k i ≠ outD ∧ (A2 k i < m0 ∨ m0 + 20 < A2 k i) := fun k i hk hi => by
    by_cases hl : live S k i
    · rw [hA1 k i hl]
      exact hdis k i hl
    · by_cases h26 : k = 26 ∧ i = 0
      · obtain ⟨rfl, rfl⟩ := h26
        rw [hA2, he]
        exact ⟨hsep.2.1, hsep.2.2.1, hsep.2.2.2.2.2⟩
      · have := hA3 k i hk hi hl h26
        exact ⟨by omega, by omega, by omega⟩
  refine ⟨S, A2, K, f, g, Prod.ext hA4 rfl, by rw [hA1 0 0 hlive0]; exact h0, hA, hG.1.1, hC, hG, ⟨hf, fun k i hk hi => (hno k i hk hi).1⟩, ⟨hg, fun k i hk hi => (hno k i hk hi).2.1⟩, ⟨fun k i hl => ?_, fun k i hk hi hl h26 => ?_, ?_, ?_, ?_, fun x hx => ?_⟩, hout, fun k i hk hi => (hno k i hk hi).2.2, ?_, hsep, hB, hA4⟩
  · rw [hA1 k i hl]
    exact live_cell hch hl hB
  · exact hA3 k i hk hi hl h26
  · rw [hA2, he]
  · rw [hA2, he]; exact hce
  · rw [hA2, he]; exact hB _ _ hce
  · cases d : hs.1 x
    · rfl
    · have := hB _ _ d
      omega
  · have e : (Hc A2 hs.1 S K, hs.2) = hs := Prod.ext hA4.symm rfl
    rw [e]
    exact hM
/-- what the reference leaves -/
theorem inv_close {x0 m0 out outD : Nat} {S1 U : SS} {h1 : Hp} {sz e : Nat} {P2 : Hp} {z2 : Nat × Nat} (hG : GI S1) (hC : CS x0 m0 out outD S1 h1 e) (hsep : Sep m0 out outD e) (hm0 : m0 + 20 < sz) (hB : Bd h1 sz) (hf : ∃ f, h1 out = some (aL 1 f)) (hg : ∃ g, h1 outD = some (aD 1 g)) (hF : FM sz h1 (sz, e) P2 z2) (hS : Sm S1 U) : InvS x0 m0 out outD (Hm m0 P2 U, z2) := by
  obtain ⟨A, K, h0, hal, hch, he, hce, hCI, hdis⟩ := hC
  obtain ⟨f1, f2, f3, f4⟩ := hF
  have hz2 : z2.2 = e := f2
  have hsz : sz ≤ z2.1 := f1
  obtain ⟨f, hf⟩ := hf
  obtain ⟨g, hg⟩ := hg
  have hlv : ∀ k i, live U k i → live S1 k i := fun k i hl => by rw [live_m hS]; exact hl
  refine ⟨U, GI_m hS hG, ⟨A, K, h0, fun k k2 i i2 l1 l2 q => hal k k2 i i2 (hlv _ _ l1) (hlv _ _ l2) q, fun k i hl => ?_, ?_, ?_, CI_m hS hCI, fun k i hl => hdis k i (hlv _ _ hl)⟩, MR_Hm, ⟨f, ?_⟩, ⟨g, ?_⟩, ?_, fun a c hc => ?_⟩
  · have hl2 := hlv k i hl
    have hd := hdis k i hl2
    show Hm m0 P2 U (A k i) = _
    rw [Hm_out hd.2.2, f3 _ (live_cell hch hl2 hB), hch k i hl2, cell_m hS]
  · show A 26 0 = z2.2
    rw [hz2]; exact he
  · show Hm m0 P2 U z2.2 = _
    rw [hz2, Hm_out hsep.2.2.2.2.2, f3 _ (hB _ _ hce)]
    exact hce
  · show Hm m0 P2 U out = _
    rw [Hm_out hsep.2.2.2.1, f3 _ (hB _ _ hf)]
    exact hf
  · show Hm m0 P2 U outD = _
    rw [Hm_out hsep.2.2.2.2.1, f3 _ (hB _ _ hg)]
    exact hg
  · show Sep m0 out outD z2.2
    rw [hz2]; exact hsep
  · show a < z2.1
    have hc : Hm m0 P2 U a = some c := hc
    by_cases d : m0 ≤ a ∧ a ≤ m0 + 20
    · omega
    · rw [Hm_out (by omega)] at hc
      by_cases w : a < z2.1
      · exact w
      · have := f4 (fun x hx => by
          cases q : h1 x
          · rfl
          · have hx2 : sz ≤ x := hx
            have := hB _ _ q
            omega) a (by omega)
        rw [this] at hc
        exact absurd hc (by simp)
def Same4 (S S1 : SS) : Prop := S1 20 1 = S 20 1 ∧ S1 20 2 = S 20 2 ∧ S1 20 3 = S 20 3 ∧ S1 20 4 = S 20 4
theorem live_4 {S S1 : SS} (h : Same4 S S1) (k : Nat) (i : Int) : live S1 k i = live S k i := by
  obtain ⟨a1, a2, a3, a4⟩ := h
  have e1 : ∀ i, lcnt S1 i = lcnt S i := fun i => by
    unfold lcnt
    simp only [a1, a2, a3, a4]
  have e : ∀ k, numK S1 k = numK S k := fun k => by
    unfold numK
    split <;> simp only [a1, a2, a3, a4]
  unfold live
  rw [e, e1]
/-- the class's plain step: no new objects -/
theorem cs_plain {x0 m0 out outD : Nat} {S S1 : SS} {A : AA} {P P1 : Hp} {K K1 : KK} {z : Nat × Nat} {f : Nat → Int64} {g : Nat → UInt64} (hF : Found x0 m0 out outD S A P K z f g) (h4 : Same4 S S1) (hP : ∀ x, x ≠ out → x ≠ outD → P1 x = P x) (hC : CI S1 K1) : CS x0 m0 out outD S1 (Hc A P1 S1 K1) z.2 ∧ MR S m0 (Hc A P1 S1 K1, z) ∧ Hc A P1 S1 K1 out = P1 out ∧ Hc A P1 S1 K1 outD = P1 outD := by
  obtain ⟨h0, hA, hV, hCI, hG, hO, hD, hFr, ho, hdis, hM, hsep, hB, _⟩ := hF
  have hx : ∀ x, (∀ (k : Nat) (i : Int), k < 27 → 0 ≤ i → A k i ≠ x) → Hc A P1 S1 K1 x = P1 x := fun x hx => hc_no (fun k i hl q => hx k i (Nat.lt_succ_of_lt hl.1) hl.2.1 q.symm)
  have hx2 : ∀ x, (∀ (k : Nat) (i : Int), k < 27 → 0 ≤ i → A k i ≠ x) → Hc A P S K x = P x := fun x hx => hc_no (fun k i hl q => hx k i (Nat.lt_succ_of_lt hl.1) hl.2.1 q.symm)
  have hmo : ∀ x, m0 ≤ x → x ≤ m0 + 20 → Hc A P1 S1 K1 x = Hc A P S K x := fun x x0 x1 => by
    have hn : ∀ (k : Nat) (i : Int), k < 27 → 0 ≤ i → A k i ≠ x := fun k i hk hi q => by
      have := hdis k i hk hi
      omega
    rw [hx x hn, hx2 x hn, hP x (by have := hsep.2.2.2.1; omega) (by have := hsep.2.2.2.2.1; omega)]
  refine ⟨⟨A, K1, h0, AL_GA hA, CH_Hc hA, hFr.2.2.1.symm, ?_, hC, fun k i hl => ?_⟩, ⟨?_, fun k hk => ?_⟩, hx out (hO.2), hx outD (hD.2)⟩
  · rw [hFr.2.2.1, hc_no (fun k i hl q => by
      have := (hA 26 k 0 i (by decide) (Nat.lt_succ_of_lt hl.1) (by decide) hl.2.1 q).1
      have h26 := hl.1
      omega), hP _ (fun q => hO.2 26 0 (by decide) (by decide) q) (fun q => hD.2 26 0 (by decide) (by decide) q)]
    exact hFr.2.2.2.1
  · exact ⟨hO.2 k i (Nat.lt_succ_of_lt hl.1) hl.2.1, hD.2 k i (Nat.lt_succ_of_lt hl.1) hl.2.1, hdis k i (Nat.lt_succ_of_lt hl.1) hl.2.1⟩
  · show Hc A P1 S1 K1 m0 = _
    rw [hmo m0 (Nat.le_refl _) (by omega)]
    exact hM.1
  · show Hc A P1 S1 K1 (mA m0 k) = _
    rw [hmo _ (by unfold mA; omega) (by unfold mA; omega)]
    exact hM.2 k hk
theorem m0_lt {S : SS} {m0 : Nat} {h : Hp} {z : Nat × Nat} (hM : MR S m0 (h, z)) {sz : Nat} (hB : Bd h sz) : m0 + 20 < sz := by
  have := hB _ _ (hM.2 19 (by decide))
  unfold mA at this
  omega
theorem XO_run {R : Type} {fm : OO R} {m0 : Nat} {S S1 : SS} {j : Int} {r : R → Prop} (hx : XO fm m0 S S1 j r) {h : Hp} {sz e : Nat} (hM : MR S m0 (h, (sz, e))) (hm : m0 + 20 < sz) : ∃ (b : R) (P2 : Hp) (z2 : Nat × Nat) (U : SS), fm (h, (sz, e)) = some (.ok b, (Hm m0 P2 U, z2)) ∧ FM sz h (sz, e) P2 z2 ∧ Sm S1 U ∧ U 20 0 = j ∧ r b := by
  have e1 : h = Hm m0 h S := Hm_self hM
  have := hx h (sz, e) hm
  rw [← e1] at this
  exact this
theorem e_thrown {S : SS} {m0 : Nat} {P : Hp} {z : Nat × Nat} : f_X9_thrown m0 (Hm m0 P S, z) = some (.ok (iI (S 20 0)), (Hm m0 P S, z)) := by
  rw [u_f_X9_thrown]
  simp -implicitDefEqProofs (disch := omega) only [↓reduceIte, ↓e_lets, ↓e_ite, ↓e_cal, e_cal2, e_cal3, e_thr, e_nthrow, e_rtn, e_r0, e_r1, e_dv, iI_add, iI_sub, iI_mul, iI_neg, iI_div, iI_rem, iI_lt, iI_le, iI_eq, b_eq0, b_eq1, Int.reduceAdd, Int.reduceMul, Int.reduceSub, Int.reduceNeg, Int.reduceDiv, Int.reduceMod, Nat.reduceAdd, Bool.false_eq_true, eq_self, ltT, ltF, leT, leF, eqT, eqF, true_and, and_true, false_and, and_false, and_self, or_true, true_or, or_false, false_or, ne_eq, not_true_eq_false, not_false_eq_true, if_true, if_false, ite_true, ite_false, ite_not, some_none, some_some, none_some, none_none, li_0, li_1, li_2, li_3, li_4, li_5, li_6, li_7, li_8, li_9, li_10, li_11, li_12, li_13, li_14, li_15, li_16, li_17, li_18, li_19, li_20, li_21, li_22, li_23, li_24, li_25, li_26, li_27, li_28, li_29, li_30, li_31, li_32, li_63, li_64, li_99, li_100, li_128, li_240, li_256, li_512, li_960, li_1000, li_1022, li_1023, li_100000, li_m1, li_m1000, ↓m_g0 MR_Hm, ↓m_g1 MR_Hm, ↓m_g2 MR_Hm, ↓m_g3 MR_Hm, ↓m_g4 MR_Hm, ↓m_g5 MR_Hm, ↓m_g6 MR_Hm, ↓m_g7 MR_Hm, ↓m_g8 MR_Hm, ↓m_g9 MR_Hm, ↓m_g10 MR_Hm, ↓m_g11 MR_Hm, ↓m_g12 MR_Hm, ↓m_g13 MR_Hm, ↓m_g14 MR_Hm, ↓m_g15 MR_Hm, ↓m_g16 MR_Hm, ↓m_g17 MR_Hm, ↓m_g18 MR_Hm, ↓m_g19 MR_Hm, ↓m_g20 MR_Hm, ↓m_g21 MR_Hm, ↓m_g22 MR_Hm, ↓m_g23 MR_Hm, ↓m_g24 MR_Hm, ↓m_g25 MR_Hm, ↓m_g26 MR_Hm, ↓m_g27 MR_Hm, ↓m_ld0 MR_Hm, ↓m_ld1 MR_Hm, ↓m_ld2 MR_Hm, ↓m_ld3 MR_Hm, ↓m_ld4 MR_Hm, ↓m_ld5 MR_Hm, ↓m_ld6 MR_Hm, ↓m_ld7 MR_Hm, ↓m_ld8 MR_Hm, ↓m_ld9 MR_Hm, ↓m_ld10 MR_Hm, ↓m_ld11 MR_Hm, ↓m_ld12 MR_Hm, ↓m_ld13 MR_Hm, ↓m_ld14 MR_Hm, ↓m_ld15 MR_Hm, ↓m_ld16 MR_Hm, ↓m_ld17 MR_Hm, ↓m_ld18 MR_Hm, ↓m_ld19 MR_Hm, ↓m_rcv MR_Hm, ↓m_s0, ↓m_s1, ↓m_s2, ↓m_s3, ↓m_s4, ↓m_s5, ↓m_s6, ↓m_s7, ↓m_s8, ↓m_s9, ↓m_s10, ↓m_s11, ↓m_s12, ↓m_s13, ↓m_s14, ↓m_s15, ↓m_s16, ↓m_s17, ↓m_s18, ↓m_s19, ↓m_p0, ↓m_p1, ↓m_p2, ↓m_p3, ↓m_p4, ↓m_p5, ↓m_p6, ↓m_p7, upS_s, upS_g, upS_i]
theorem m0_cell {S : SS} {m0 : Nat} {hs : Hs} (hM : MR S m0 hs) : ∃ fs, hs.1 m0 = some (aO 12 fs) := ⟨_, hM.1⟩
/-- an operation with an answer in out -/
theorem op_I {x0 m0 out outD : Nat} {hs : Hs} {fw fm : OO Int32} (hi : InvS x0 m0 out outD hs) (main : ∀ S A P K z f g, Found x0 m0 out outD S A P K z f g → ∃ (j v : Int) (S1 : SS) (h1 : Hp) (z1 : Nat), fw (Hc A P S K, z) = some (.ok (iI j), (h1, (z1, z.2))) ∧ -100 < j ∧ j < 100 ∧ CS x0 m0 out outD S1 h1 z.2 ∧ MR S m0 (h1, z) ∧ (∃ f, h1 out = some (aL 1 f) ∧ (j = 0 → f 0 = (iI v).toInt64)) ∧ (∃ g, h1 outD = some (aD 1 g)) ∧ GI S1 ∧ XO fm m0 S S1 j (fun b => j = 0 → b = iI v)) : opI fw fm m0 out (InvS x0 m0 out outD) hs := by
  obtain ⟨S, A, K, f, g, hhs, hF⟩ := inv_open hi
  have hsep := hF.2.2.2.2.2.2.2.2.2.2.2.1
  obtain ⟨j, v, S1, h1, z1, e1, j0, j1, hCS, hM1, ⟨f1, hf1, hf0⟩, ⟨g1, hg1⟩, hG1, hx⟩ := main S A hs.1 K hs.2 f g hF
  rw [← hhs] at e1
  have hM2 : ∀ zz, MR S m0 (h1, zz) := fun zz => hM1
  refine ⟨iI j, (h1, (z1, hs.2.2)), e1, m0_cell hM1, fun sz hB => ?_⟩
  have hm := m0_lt hM1 hB
  obtain ⟨b, P2, z2, U, g1', g2, g3, g4, g5⟩ := XO_run hx (h := h1) (sz := sz) (e := hs.2.2) (hM2 _) hm
  have hnx := inv_close hG1 hCS hsep hm hB ⟨f1, hf1⟩ ⟨g1, hg1⟩ g2 g3
  refine ⟨b, (Hm m0 P2 U, z2), g1', m0_cell MR_Hm, ?_, fun hk => ?_, hnx⟩
  · rw [e_thrown, g4]
  · have hj : j = 0 := by
      have : iI j = iI 0 := hk
      exact (iI_eq (by omega) (by omega) (by decide) (by decide)).mp this
    refine ⟨f1, ?_, ?_⟩
    · show Hm m0 P2 U out = _
      rw [Hm_out hsep.2.2.2.1, g2.2.2.1 _ (hB _ _ hf1)]
      exact hf1
    · rw [hf0 hj, g5 hj]
/-- an operation without exceptions -/
theorem op_D {x0 m0 out outD : Nat} {hs : Hs} {fx fm : OO Int32} (hi : InvS x0 m0 out outD hs) (main : ∀ S A P K z f g, Found x0 m0 out outD S A P K z f g → ∃ (v : Int) (S1 : SS) (K1 : KK), fx (Hc A P S K, z) = some (.ok (iI v), (Hc A P S1 K1, z)) ∧ CI S1 K1 ∧ Same4 S S1 ∧ GI S1 ∧ XO fm m0 S S1 0 (fun b => b = iI v)) : opD fx fm x0 m0 (InvS x0 m0 out outD) hs := by
  obtain ⟨S, A, K, f, g, hhs, hF⟩ := inv_open hi
  have hsep := hF.2.2.2.2.2.2.2.2.2.2.2.1
  obtain ⟨v, S1, K1, e1, hC1, h4, hG1, hx⟩ := main S A hs.1 K hs.2 f g hF
  have hcs := cs_plain (P1 := hs.1) hF h4 (fun _ _ _ => rfl) hC1
  rw [← hhs] at e1
  have hB : Bd (Hc A hs.1 S1 K1) hs.2.1 := fun a c hc => by
    by_cases d : ∃ k i, live S1 k i ∧ a = A k i
    · obtain ⟨k, i, hl, rfl⟩ := d
      rw [live_4 h4] at hl
      exact hF.2.2.2.2.2.2.2.1.1 k i hl
    · rw [hc_no (fun k i hl q => d ⟨k, i, hl, q⟩)] at hc
      exact hF.2.2.2.2.2.2.2.2.2.2.2.2.1 _ _ hc
  have hm := m0_lt hcs.2.1 hB
  obtain ⟨b, P2, z2, U, g1', g2, g3, g4, g5⟩ := XO_run hx (h := Hc A hs.1 S1 K1) (sz := hs.2.1) (e := hs.2.2) hcs.2.1 hm
  have hnx := inv_close hG1 hcs.1 hsep hm hB ⟨f, by rw [hcs.2.2.1]; exact hF.2.2.2.2.2.1.1⟩ ⟨g, by rw [hcs.2.2.2]; exact hF.2.2.2.2.2.2.1.1⟩ g2 g3
  refine ⟨?_, iI v, (Hc A hs.1 S1 K1, hs.2), (Hm m0 P2 U, z2), e1, m0_cell hcs.2.1, by rw [← g5]; exact g1', hnx⟩
  have hl0 : live S 0 0 := lv1 (by decide) (by decide) (by show (0 : Int) < 1; decide) (by decide)
  have := hc_at (P := hs.1) (K := K) hF.2.1 hl0
  rw [hF.1] at this
  rw [hhs]
  exact ⟨_, this⟩
/-- the branches of an operation that makes nothing -/
def Br (x0 m0 out outD : Nat) (fw fm : OO Int32) (S : SS) (A : AA) (P : Hp) (K : KK) (z : Nat × Nat) : Prop := ∃ (j v : Int) (S1 : SS) (h1 : Hp) (z1 : Nat), fw (Hc A P S K, z) = some (.ok (iI j), (h1, (z1, z.2))) ∧ -100 < j ∧ j < 100 ∧ CS x0 m0 out outD S1 h1 z.2 ∧ MR S m0 (h1, z) ∧ (∃ f, h1 out = some (aL 1 f) ∧ (j = 0 → f 0 = (iI v).toInt64)) ∧ (∃ g, h1 outD = some (aD 1 g)) ∧ GI S1 ∧ XO fm m0 S S1 j (fun b => j = 0 → b = iI v)
theorem XO_w {R : Type} {fm : OO R} {m0 : Nat} {S S1 : SS} {j : Int} {r r2 : R → Prop} (h : XO fm m0 S S1 j r) (h2 : ∀ b, r b → r2 b) : XO fm m0 S S1 j r2 := fun P z hz => by
  obtain ⟨b, P2, z2, U, a1, a2, a3, a4, a5⟩ := h P z hz
  exact ⟨b, P2, z2, U, a1, a2, a3, a4, h2 b a5⟩
theorem br_err {x0 m0 out outD : Nat} {fw fm : OO Int32} {S : SS} {A : AA} {P : Hp} {K : KK} {z : Nat × Nat} {f : Nat → Int64} {g : Nat → UInt64} (hF : Found x0 m0 out outD S A P K z f g) {j : Int} (hj : 0 < j ∧ j < 100) {r : Int32 → Prop} (hx : XO fm m0 S (upS S 20 0 j) j r) (hc : ∃ K2, fw (Hc A P (upS S 20 0 j) K, z) = some (.ok (iI j), (Hc A P (upS S 20 0 j) K2, z)) ∧ CI (upS S 20 0 j) K2) : Br x0 m0 out outD fw fm S A P K z := by
  obtain ⟨K2, e1, hC⟩ := hc
  rw [← Hc_m (Sm.u0 (S := S) (x := j))] at e1
  have hcs := cs_plain (S1 := upS S 20 0 j) (P1 := P) hF ⟨rfl, rfl, rfl, rfl⟩ (fun _ _ _ => rfl) hC
  exact ⟨j, 0, upS S 20 0 j, _, z.1, e1, by omega, by omega, hcs.1, hcs.2.1, ⟨f, by rw [hcs.2.2.1]; exact hF.2.2.2.2.2.1.1, fun w => by omega⟩, ⟨g, by rw [hcs.2.2.2]; exact hF.2.2.2.2.2.2.1.1⟩, GI_m Sm.u0 hF.2.2.2.2.1, XO_w hx (fun b _ w => by omega)⟩
theorem br_ok {x0 m0 out outD : Nat} {fw fm : OO Int32} {S : SS} {A : AA} {P : Hp} {K : KK} {z : Nat × Nat} {f : Nat → Int64} {g : Nat → UInt64} (hF : Found x0 m0 out outD S A P K z f g) {S2 S1 : SS} {v : Int} (h2 : Sm S S2) (h4 : Same4 S S1) (hG : GI S1) (hx : XO fm m0 S S1 0 (fun res => res = iI v)) (hc : ∃ K2, fw (Hc A P S2 K, z) = some (.ok (iI 0), (Hc A (PO P out f v) S1 K2, z)) ∧ CI S1 K2) : Br x0 m0 out outD fw fm S A P K z := by
  obtain ⟨K2, e1, hC⟩ := hc
  rw [← Hc_m h2] at e1
  have hsep := hF.2.2.2.2.2.2.2.2.2.2.2.1
  have hcs := cs_plain (S1 := S1) (P1 := PO P out f v) hF h4 (fun x h _ => hset_n h) hC
  exact ⟨0, v, S1, _, z.1, e1, by decide, by decide, hcs.1, hcs.2.1, ⟨_, by rw [hcs.2.2.1]; exact hset_s, fun _ => if_pos rfl⟩, ⟨g, by rw [hcs.2.2.2]; unfold PO; rw [hset_n (Ne.symm hsep.1)]; exact hF.2.2.2.2.2.2.1.1⟩, hG, XO_w hx (fun b w _ => w)⟩
theorem i32 (x : Int32) : ∃ a : Int, -2147483648 ≤ a ∧ a < 2147483648 ∧ x = iI a := ⟨x.toInt, Int32.le_toInt x, Int32.toInt_lt x, (iI_of x).symm⟩
