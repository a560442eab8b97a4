/-! PURE LAYER: no lesson breaks a bar: the invariant -/
def brW (S : SS) (l r s : Int) (b : Nat) (j : Nat) : Prop := (j : Int) ≠ l ∧ 0 ≤ S 14 j ∧ (if b = 6 then mtP S l j s ∧ S 14 j % 8 = r else if b = 7 then mtP S l j s ∧ S 10 j = S 10 l else if b = 8 then mtP S l j s ∧ S 9 j = S 9 l else (S 10 j = S 10 l ∨ S 9 j = S 9 l) ∧ S 0 (S 14 j % 8) ≠ S 0 r ∧ tcP S l j s)
theorem brP_W (S : SS) (l r s : Int) {b : Nat} (h6 : 6 ≤ b) (h10 : b < 10) : brP S l r s b ↔ ∃ j : Nat, j < (S 20 4).toNat ∧ brW S l r s b j := by
  rcases (show b = 6 ∨ b = 7 ∨ b = 8 ∨ b = 9 by omega) with rfl | rfl | rfl | rfl
  · exact Iff.rfl
  · exact Iff.rfl
  · exact Iff.rfl
  · exact Iff.rfl
def Own (S U : SS) (l r : Int) : Prop := U 12 l = S 12 l ∧ U 10 l = S 10 l ∧ U 9 l = S 9 l ∧ U 11 l = S 11 l ∧ U 1 r = S 1 r ∧ U 2 r = S 2 r ∧ U 0 r = S 0 r ∧ U 5 (S 9 l) = S 5 (S 9 l)
def Oth (S U : SS) (j : Int) : Prop := j < S 20 4 ∧ U 14 j = S 14 j ∧ U 12 j = S 12 j ∧ U 10 j = S 10 j ∧ U 9 j = S 9 j ∧ U 0 (S 14 j % 8) = S 0 (S 14 j % 8)
theorem brW_tr {S U : SS} {l r s : Int} {b j : Nat} (ho : Own S U l r) (hj : Oth S U j) : brW U l r s b j → brW S l r s b j := by
  obtain ⟨o12, o10, o9, o11, o1, o2, o0, o5⟩ := ho
  obtain ⟨_, j14, j12, j10, j9, j0⟩ := hj
  unfold brW mtP tcP sEnd
  rw [j14, j12, j10, j9, j0, o12, o10, o9, o0]
  exact id
theorem brP_lo {S U : SS} {l r s : Int} {b : Nat} (h10 : ¬ 6 ≤ b) (h1 : b ≠ 1) (ho : Own S U l r) (h2 : b = 2 → offB (U 3 (S 10 l)) (s / 6) = 1 → offB (S 3 (S 10 l)) (s / 6) = 1) (h5 : b = 5 → U 7 r ≠ 0 → S 7 r ≠ 0) : brP U l r s b → brP S l r s b := by
  obtain ⟨o12, o10, o9, o11, o1, o2, o0, o5⟩ := ho
  rcases (show b = 0 ∨ b = 2 ∨ b = 3 ∨ b = 4 ∨ b = 5 by omega) with rfl | rfl | rfl | rfl | rfl
  · show 6 < s % 6 + U 12 l → 6 < s % 6 + S 12 l
    rw [o12]
    exact id
  · show offB (U 3 (U 10 l)) (s / 6) = 1 → offB (S 3 (S 10 l)) (s / 6) = 1
    rw [o10]
    exact h2 rfl
  · show U 1 r ≠ U 11 l → S 1 r ≠ S 11 l
    rw [o1, o11]
    exact id
  · show ¬ U 5 (U 9 l) ≤ U 2 r → ¬ S 5 (S 9 l) ≤ S 2 r
    rw [o9, o5, o2]
    exact id
  · exact h5 rfl
theorem brP_tr {S U : SS} {l r s : Int} {b : Nat} (h10 : b < 10) (h1 : b ≠ 1) (ho : Own S U l r) (hj : ∀ j : Nat, (j : Int) < U 20 4 → (j : Int) ≠ l → 0 ≤ U 14 j → Oth S U j) (h2 : b = 2 → offB (U 3 (S 10 l)) (s / 6) = 1 → offB (S 3 (S 10 l)) (s / 6) = 1) (h5 : b = 5 → U 7 r ≠ 0 → S 7 r ≠ 0) : brP U l r s b → brP S l r s b := by
  by_cases c : 6 ≤ b
  · rw [brP_W U l r s c h10, brP_W S l r s c h10]
    rintro ⟨j, hj1, hj2⟩
    have h := hj j (by omega) hj2.1 hj2.2.1
    exact ⟨j, by have := h.1; omega, brW_tr ho h hj2⟩
  · exact brP_lo c h1 ho h2 h5
def JI (S : SS) : Prop := ∀ k : Int, 0 ≤ k → k < S 20 4 → 0 ≤ S 14 k → ∀ b : Nat, b < 10 → b ≠ 1 → brP S k (S 14 k % 8) (S 14 k / 8) b → b = 5 ∧ S 14 k / 8 / 6 < S 20 6 ∧ S 8 k = 0
def LI (S : SS) : Prop := ∀ k : Int, 0 ≤ k → k < S 20 4 → S 8 k ≠ 0 → 0 ≤ S 14 k
def G3 (S : SS) : Prop := VS S ∧ JI S ∧ LI S
def R14 (S U : SS) : Prop := (∀ f, f ≠ 14 → U f = S f) ∧ ∀ k : Int, k < 0 ∨ S 20 4 ≤ k → U 14 k = S 14 k
theorem R14.rfl {S : SS} : R14 S S := ⟨fun _ _ => Eq.refl _, fun _ _ => Eq.refl _⟩
theorem R14.tr {S U V : SS} (h : R14 S U) (h2 : R14 U V) : R14 S V := ⟨fun f hf => (h2.1 f hf).trans (h.1 f hf), fun k hk => (h2.2 k (by rw [h.1 20 (by decide)]; exact hk)).trans (h.2 k hk)⟩
theorem R14.up {S : SS} {l x : Int} (l0 : 0 ≤ l) (l1 : l < S 20 4) : R14 S (upS S 14 l x) := ⟨fun f hf => upS_g hf, fun k hk => upS_i (by omega)⟩
theorem R14.rm {S : SS} {q : Nat → Bool} {n : Int} (hn : n ≤ S 20 4) : R14 S (rmS S q n) := ⟨fun f hf => rmS_g hf, fun k hk => if_neg (fun w => by omega)⟩
/-- fewer places: the bars are no more -/
theorem JI_few {S U : SS} (h : ∀ f, f ≠ 14 → U f = S f) (h14 : ∀ j : Int, 0 ≤ U 14 j → U 14 j = S 14 j) (hJ : JI S) : JI U := fun k k0 k1 kp b b10 b1 hb => by
  rw [h 20 (by decide)] at k1
  have e := h14 k kp
  have ho : Own S U k (S 14 k % 8) := by
    unfold Own
    rw [h 12 (by decide), h 10 (by decide), h 9 (by decide), h 11 (by decide), h 1 (by decide), h 2 (by decide), h 0 (by decide), h 5 (by decide)]
    exact ⟨rfl, rfl, rfl, rfl, rfl, rfl, rfl, rfl⟩
  have := brP_tr b10 b1 ho (fun j j1 _ jp => by
    unfold Oth
    rw [h 20 (by decide)] at j1
    rw [h 12 (by decide), h 10 (by decide), h 9 (by decide), h 0 (by decide)]
    exact ⟨j1, h14 j jp, rfl, rfl, rfl, rfl⟩) (fun _ w => by rw [h 3 (by decide)] at w; exact w) (fun _ w => by rw [h 7 (by decide)] at w; exact w) (by rw [e] at hb; exact hb)
  have h9 := hJ k k0 k1 (by rw [← e]; exact kp) b b10 b1 this
  rw [e, h 20 (by decide), h 8 (by decide)]
  exact h9
theorem G3_rm {S : SS} (h : G3 S) {q : Nat → Bool} (hq : ∀ k : Nat, (k : Int) < S 20 4 → q k = true → S 8 k = 0) : G3 (rmS S q (S 20 4)) := by
  have hm := h.1.2.1
  unfold Bm at hm
  have h9 : (((S 20 4).toNat : Nat) : Int) = S 20 4 := by omega
  have hV := VS_rm h.1 q (S 20 4).toNat (by omega)
  rw [h9] at hV
  have e : ∀ j : Int, 0 ≤ rmS S q (S 20 4) 14 j → rmS S q (S 20 4) 14 j = S 14 j := fun j hj => by
    unfold rmS at hj ⊢
    split at hj
    · omega
    · rename_i c
      exact if_neg c
  refine ⟨hV, JI_few (fun f hf => rmS_g hf) e h.2.1, fun k k0 k1 k8 => ?_⟩
  rw [rmS_g (by decide)] at k1 k8
  have := h.2.2 k k0 k1 k8
  unfold rmS
  rw [if_neg (fun w => k8 (by
    have := hq k.toNat (by omega) w.2.2.2
    rw [show ((k.toNat : Nat) : Int) = k by omega] at this
    exact this))]
  exact this
theorem np_of {S : SS} {l s r : Int} (h : sLt S l s r = 0) {b : Nat} (hb : b < 10) : ¬ brP S l r s b := fun w => by
  have h1 := (sLt_has S l s r (show b < 32 by omega)).mpr ⟨hb, w⟩
  rw [h, bHas_0 (by omega)] at h1
  exact absurd h1 (by decide)
theorem sEnd_fit {S : SS} {l s : Int} (h : s % 6 + S 12 l ≤ 6) : sEnd S l s = s + S 12 l := by
  unfold sEnd
  split <;> omega
/-- a lesson placed where nothing bars it -/
theorem JI_pl {S : SS} (hV : VS S) (hJ : JI S) {a x : Int} (a0 : 0 ≤ a) (a1 : a < S 20 4) (x0 : 0 ≤ x) (hn : ∀ b : Nat, b < 10 → ¬ brP S a (x % 8) (x / 8) b) : JI (upS S 14 a x) := fun k k0 k1 kp b b10 b1 hb => by
  have hU : ∀ f, f ≠ 14 → upS S 14 a x f = S f := fun f hf => upS_g hf
  have hfa : x / 8 % 6 + S 12 a ≤ 6 := by
    have : ¬ 6 < x / 8 % 6 + S 12 a := hn 0 (by decide)
    omega
  have ho : ∀ l r : Int, Own S (upS S 14 a x) l r := fun l r => by
    unfold Own
    rw [hU 12 (by decide), hU 10 (by decide), hU 9 (by decide), hU 11 (by decide), hU 1 (by decide), hU 2 (by decide), hU 0 (by decide), hU 5 (by decide)]
    exact ⟨rfl, rfl, rfl, rfl, rfl, rfl, rfl, rfl⟩
  have hot : ∀ j : Int, j < S 20 4 → j ≠ a → Oth S (upS S 14 a x) j := fun j j1 ja => by
    unfold Oth
    rw [hU 12 (by decide), hU 10 (by decide), hU 9 (by decide), hU 0 (by decide)]
    exact ⟨j1, upS_i ja, rfl, rfl, rfl, rfl⟩
  rw [hU 20 (by decide)] at k1 ⊢
  by_cases ka : k = a
  · subst ka
    rw [upS_s] at hb
    exact absurd (brP_tr b10 b1 (ho k (x % 8)) (fun j j1 jk _ => hot j (by rw [hU 20 (by decide)] at j1; exact j1) jk) (fun _ w => by rw [hU 3 (by decide)] at w; exact w) (fun _ w => by rw [hU 7 (by decide)] at w; exact w) hb) (hn b b10)
  · rw [upS_i ka] at kp hb ⊢
    rw [hU 8 (by decide)]
    by_cases c : 6 ≤ b
    · rw [brP_W _ _ _ _ c b10] at hb
      obtain ⟨j, j1, jw⟩ := hb
      rw [hU 20 (by decide)] at j1
      have hm := hV.2.1
      unfold Bm at hm
      by_cases ja : (j : Int) = a
      · exfalso
        have hl := hV.2.2 k k0 k1
        have hfk := (hl.2.2.2 kp).2
        have eU : ∀ l s, sEnd (upS S 14 a x) l s = sEnd S l s := fun l s => by unfold sEnd; rw [hU 12 (by decide)]
        have hw : brW S a (x % 8) (x / 8) b k.toNat := by
          unfold brW mtP tcP at jw ⊢
          rw [show ((k.toNat : Nat) : Int) = k by omega]
          rw [ja, upS_s, hU 12 (by decide), hU 10 (by decide), hU 9 (by decide), hU 0 (by decide), eU, sEnd_fit hfk] at jw
          rw [sEnd_fit hfa]
          obtain ⟨_, _, w3⟩ := jw
          refine ⟨ka, kp, ?_⟩
          by_cases d6 : b = 6
          · rw [if_pos d6] at w3 ⊢
            exact ⟨⟨by omega, by omega⟩, w3.2.symm⟩
          · rw [if_neg d6] at w3 ⊢
            by_cases d7 : b = 7
            · rw [if_pos d7] at w3 ⊢
              exact ⟨⟨by omega, by omega⟩, w3.2.symm⟩
            · rw [if_neg d7] at w3 ⊢
              by_cases d8 : b = 8
              · rw [if_pos d8] at w3 ⊢
                exact ⟨⟨by omega, by omega⟩, w3.2.symm⟩
              · rw [if_neg d8] at w3 ⊢
                refine ⟨w3.1.elim (fun w => Or.inl w.symm) (fun w => Or.inr w.symm), fun w => w3.2.1 w.symm, ?_⟩
                have h4 := w3.2.2
                omega
        exact hn b b10 ((brP_W _ _ _ _ c b10).mpr ⟨k.toNat, by omega, hw⟩)
      · have := (brP_W S k (S 14 k % 8) (S 14 k / 8) c b10).mpr ⟨j, j1, brW_tr (ho k _) (hot j (by omega) ja) jw⟩
        exact hJ k k0 k1 kp b b10 b1 this
    · have := brP_lo (S := S) (U := upS S 14 a x) c b1 (ho k (S 14 k % 8)) (fun _ w => by rw [hU 3 (by decide)] at w; exact w) (fun _ w => by rw [hU 7 (by decide)] at w; exact w) hb
      exact hJ k k0 k1 kp b b10 b1 this
theorem G3_pl {S : SS} (h : G3 S) {a x : Int} (a0 : 0 ≤ a) (a1 : a < S 20 4) (x0 : 0 ≤ x) (x1 : x < 240) (hr : x % 8 < S 20 1) (hl : sLt S a (x / 8) (x % 8) = 0) : G3 (upS S 14 a x) := by
  have hn := fun b hb => np_of hl (b := b) hb
  have hf : x / 8 % 6 + S 12 a ≤ 6 := by
    have : ¬ 6 < x / 8 % 6 + S 12 a := hn 0 (by decide)
    omega
  refine ⟨VS_pl h.1 (by omega) x1 (fun _ => ⟨hr, hf⟩), JI_pl h.1 h.2.1 a0 a1 x0 hn, fun k k0 k1 k8 => ?_⟩
  rw [upS_g (by decide)] at k1 k8
  by_cases c : k = a
  · subst c
    rw [upS_s]
    exact x0
  · rw [upS_i c]
    exact h.2.2 k k0 k1 k8
theorem G3_no {S : SS} (h : G3 S) {a : Int} (a8 : S 8 a = 0) : G3 (upS S 14 a (-1)) := by
  refine ⟨VS_pl h.1 (by decide) (by decide) (fun w => absurd w (by decide)), JI_few (fun f hf => upS_g hf) (fun j hj => ?_) h.2.1, fun k k0 k1 k8 => ?_⟩
  · by_cases c : j = a
    · subst c
      rw [upS_s] at hj
      exact absurd hj (by decide)
    · exact upS_i c
  · rw [upS_g (by decide)] at k1 k8
    by_cases c : k = a
    · subst c
      exact absurd a8 k8
    · rw [upS_i c]
      exact h.2.2 k k0 k1 k8
theorem ps_lt {S : SS} (hV : VS S) {l x : Int} (l0 : 0 ≤ l) (l1 : l < S 20 4) (x0 : 0 ≤ x) (x1 : x < 240) (hr : x % 8 < S 20 1) (h : bHas (psM S l (x % 8)) (iI (x / 8)) = true) : sLt S l (x / 8) (x % 8) = 0 := (psM_sLt hV l0 l1 (by omega) hr (by omega) (by omega)).mp h
theorem G3_ch {S : SS} (h : G3 S) {l x : Int} (l0 : 0 ≤ l) (l1 : l < S 20 4) (l8 : chP S l x = -1 → S 8 l = 0) : G3 (upS S 14 l (chP S l x)) := by
  rcases chP_p h.1 (x := x) l0 l1 with c | c
  · rw [c]
    exact G3_no h (l8 c)
  · exact G3_pl h l0 l1 c.1 c.2.1 c.2.2.1 (ps_lt h.1 l0 l1 c.1 c.2.1 c.2.2.1 c.2.2.2.2.2)
theorem G3_re : ∀ (f : Nat) (S : SS) (q : Nat → Bool), G3 S → (∀ k : Nat, (k : Int) < S 20 4 → q k = true → S 8 k = 0) → G3 (reS f S q) ∧ R14 S (reS f S q) := by
  intro f
  induction f with
  | zero => intro S q h _; exact ⟨h, R14.rfl⟩
  | succ f ih =>
    intro S q h hq
    have e : reS (f + 1) S q = if haQ S q < 0 then S else reS f (upS S 14 (haQ S q) (chP S (haQ S q) (-2))) (fun k => q k && !decide ((k : Int) = haQ S q)) := rfl
    rw [e]
    by_cases c : haQ S q < 0
    · rw [if_pos c]
      exact ⟨h, R14.rfl⟩
    · rw [if_neg c]
      have hb := haQ_b S q h.1.2.1
      have hp := haQ_p (S := S) (q := q) (by omega)
      have h8 := hq (haQ S q).toNat (by omega) hp
      rw [show (((haQ S q).toNat : Nat) : Int) = haQ S q by omega] at h8
      have h1 := ih (upS S 14 (haQ S q) (chP S (haQ S q) (-2))) (fun k => q k && !decide ((k : Int) = haQ S q)) (G3_ch h (by omega) hb.2 (fun _ => h8)) (fun k hk hk2 => by
        rw [upS_g (by decide)] at hk ⊢
        rw [Bool.and_eq_true] at hk2
        exact hq k hk hk2.1)
      exact ⟨h1.1, (R14.up (by omega) hb.2).tr h1.2⟩
theorem R14.rmA (S : SS) (q : Nat → Bool) : R14 S (rmS S q (S 20 4)) := R14.rm (Int.le_refl _)
theorem G3_rp {S : SS} {q : Nat → Bool} (h : G3 (rmS S q (S 20 4))) (hq : ∀ k : Nat, (k : Int) < S 20 4 → q k = true → S 8 k = 0) : G3 (rpS S q) ∧ R14 S (rpS S q) := by
  have h1 := G3_re 16 (rmS S q (S 20 4)) q h (fun k hk hk2 => by
    rw [rmS_g (by decide)] at hk ⊢
    exact hq k hk hk2)
  exact ⟨h1.1, (R14.rmA S q).tr h1.2⟩
theorem G3_th {S : SS} (h : G3 S) {l : Int} (l0 : 0 ≤ l) (l1 : l < S 20 4) (ht : 0 ≤ thP S l 240) : G3 (thS S l (thP S l 240)) ∧ R14 S (thS S l (thP S l 240)) := by
  have hV := h.1
  have hm := hV.2.1
  unfold Bm at hm
  have hp := thP_p hV l0 l1 ht
  have hak : decide (woI S l ((thP S l 240).toNat : Int) < 1000) = true := amin_ok (fun q : Nat => decide (woI S l q < 1000)) (fun q => woI S l q) 240 ht
  rw [show (((thP S l 240).toNat : Nat) : Int) = thP S l 240 by omega, decide_eq_true_eq] at hak
  have hba := (wo_th hV l0 l1 (x := thP S l 240) ht hp.1).1.mpr hak
  have hcd : thP S l 240 % 8 < S 20 1 ∧ sPl S l (thP S l 240 / 8) (thP S l 240 % 8) = 0 ∧ fstN (loB S l (thP S l 240)) (S 20 4).toNat < 0 := by
    unfold baV at hba
    split at hba
    · rename_i c
      exact c
    · omega
  generalize thP S l 240 = x at *
  have hq8 : ∀ k : Nat, (k : Int) < S 20 4 → thQ S l x k = true → S 8 k = 0 := fun k hk hk2 => by
    have h1 := fstN_l (loB S l x) _ k (show k < (S 20 4).toNat by omega) (Or.inl hcd.2.2)
    unfold loB at h1
    rw [hk2, Bool.true_and, Bool.not_eq_false', decide_eq_true_eq] at h1
    exact h1
  have hG := G3_rm h hq8
  have hR := R14.rmA S (thQ S l x)
  have hgone : ∀ j : Nat, (j : Int) < S 20 4 → 0 ≤ rmS S (thQ S l x) (S 20 4) 14 j → thQ S l x j = false ∧ rmS S (thQ S l x) (S 20 4) 14 j = S 14 j := fun j j1 jp => by
    unfold rmS at jp ⊢
    by_cases c : (14 = 14) ∧ (0 : Int) ≤ j ∧ (j : Int) < S 20 4 ∧ thQ S l x ((j : Int)).toNat = true
    · rw [if_pos c] at jp
      omega
    · rw [if_neg c]
      refine ⟨?_, rfl⟩
      cases d : thQ S l x j
      · rfl
      · exact absurd ⟨rfl, by omega, j1, by rw [Int.toNat_natCast]; exact d⟩ c
  have hsp := (sPl_0 S l (x / 8) (x % 8)).mp hcd.2.1
  unfold thS
  have e20 : rmS S (thQ S l x) (S 20 4) 20 = S 20 := rmS_g (by decide)
  generalize hU : rmS S (thQ S l x) (S 20 4) = U at *
  have hUg : ∀ f, f ≠ 14 → U f = S f := fun f hf => by rw [← hU]; exact rmS_g hf
  have hn : ∀ b : Nat, b < 10 → ¬ brP U l (x % 8) (x / 8) b := fun b b10 hb => by
    have ho : Own S U l (x % 8) := by
      unfold Own
      rw [hUg 12 (by decide), hUg 10 (by decide), hUg 9 (by decide), hUg 11 (by decide), hUg 1 (by decide), hUg 2 (by decide), hUg 0 (by decide), hUg 5 (by decide)]
      exact ⟨rfl, rfl, rfl, rfl, rfl, rfl, rfl, rfl⟩
    by_cases c : 6 ≤ b
    · rw [brP_W _ _ _ _ c b10] at hb
      obtain ⟨j, j1, jw⟩ := hb
      rw [e20] at j1
      have hg := hgone j (by omega) jw.2.1
      have jw2 := brW_tr ho (show Oth S U j by
        unfold Oth
        rw [hUg 12 (by decide), hUg 10 (by decide), hUg 9 (by decide), hUg 0 (by decide)]
        exact ⟨by omega, hg.2, rfl, rfl, rfl, rfl⟩) jw
      have hon : onP S l j (x % 8) (x / 8) := by
        unfold brW at jw2
        obtain ⟨w1, w2, w3⟩ := jw2
        refine ⟨w1, w2, ?_⟩
        by_cases d6 : b = 6
        · rw [if_pos d6] at w3
          exact Or.inl ⟨w3.1, Or.inl w3.2⟩
        · rw [if_neg d6] at w3
          by_cases d7 : b = 7
          · rw [if_pos d7] at w3
            exact Or.inl ⟨w3.1, Or.inr (Or.inl w3.2)⟩
          · rw [if_neg d7] at w3
            by_cases d8 : b = 8
            · rw [if_pos d8] at w3
              exact Or.inl ⟨w3.1, Or.inr (Or.inr w3.2)⟩
            · rw [if_neg d8] at w3
              exact Or.inr w3
      have hth : thQ S l x j = true := by
        unfold thQ
        exact (oneM_has hV l0 l1 (by omega) (by omega) (by omega) hcd.1 (by omega) (by omega)).mpr hon
      rw [hg.1] at hth
      exact absurd hth (by decide)
    · by_cases d1 : b = 1
      · subst d1
        have h1 : ¬ x / 8 / 6 < S 20 6 := hsp 1 (by decide)
        have h2 : x / 8 / 6 < U 20 6 := hb
        rw [e20] at h2
        exact h1 h2
      · exact hsp b (by omega) (brP_lo c d1 ho (fun _ w => by rw [hUg 3 (by decide)] at w; exact w) (fun _ w => by rw [hUg 7 (by decide)] at w; exact w) hb)
  have hl : sLt U l (x / 8) (x % 8) = 0 := bHas_ext (fun b hb => by
    rw [bHas_0 hb]
    cases d : bHas (sLt U l (x / 8) (x % 8)) (iI (b : Int))
    · rfl
    · have := (sLt_has U l (x / 8) (x % 8) hb).mp d
      exact absurd this.2 (hn b this.1))
  exact ⟨G3_pl hG l0 (by rw [e20]; exact l1) ht hp.1 (by rw [e20]; exact hcd.1) hl, hR.tr (R14.up l0 (by rw [e20]; exact l1))⟩
theorem G3_fi : ∀ (f : Nat) (S : SS) (t : Int) (gu : Nat → Bool), G3 S → G3 (fiS f S t gu) ∧ R14 S (fiS f S t gu) := by
  intro f
  induction f with
  | zero => intro S t gu h; exact ⟨h, R14.rfl⟩
  | succ f ih =>
    intro S t gu h
    have e : fiS (f + 1) S t gu = if fiQ S gu < 0 then S else if chP S (fiQ S gu) (-2) = -1 then (if t < 10 ∧ 0 ≤ thP S (fiQ S gu) 240 then fiS f (thS S (fiQ S gu) (thP S (fiQ S gu) 240)) (t + 1) gu else fiS f S t (fun k => gu k || decide ((k : Int) = fiQ S gu))) else fiS f (upS S 14 (fiQ S gu) (chP S (fiQ S gu) (-2))) t gu := rfl
    have hb : -1 ≤ fiQ S gu ∧ fiQ S gu < S 20 4 := haQ_b S _ h.1.2.1
    rw [e]
    by_cases c : fiQ S gu < 0
    · rw [if_pos c]
      exact ⟨h, R14.rfl⟩
    · rw [if_neg c]
      by_cases c2 : chP S (fiQ S gu) (-2) = -1
      · rw [if_pos c2]
        by_cases c3 : t < 10 ∧ 0 ≤ thP S (fiQ S gu) 240
        · rw [if_pos c3]
          have h1 := G3_th h (l := fiQ S gu) (by omega) hb.2 c3.2
          have h2 := ih _ (t + 1) gu h1.1
          exact ⟨h2.1, h1.2.tr h2.2⟩
        · rw [if_neg c3]
          exact ih S t _ h
      · rw [if_neg c2]
        have h2 := ih _ t gu (G3_ch h (l := fiQ S gu) (x := -2) (by omega) hb.2 (fun w => absurd w c2))
        exact ⟨h2.1, (R14.up (by omega) hb.2).tr h2.2⟩
theorem G3_sf {S : SS} (q : Nat → Bool) (tg : Nat → Int) (h : G3 S) : ∀ n : Nat, (n : Int) ≤ S 20 4 → (∀ k : Nat, k < n → -1 ≤ tg k ∧ tg k < 240) → G3 (sfS q tg S n) ∧ R14 S (sfS q tg S n) := by
  intro n
  induction n with
  | zero => intro _ _; exact ⟨h, R14.rfl⟩
  | succ n ih =>
    intro hn ht
    have h1 := ih (by omega) (fun k hk => ht k (by omega))
    have e : sfS q tg S (n + 1) = if q n = true ∧ tg n ≠ -1 ∧ poP (sfS q tg S n) n (tg n) = true then upS (sfS q tg S n) 14 n (tg n) else sfS q tg S n := rfl
    rw [e]
    have e20 : sfS q tg S n 20 = S 20 := sfS_g q tg S (by decide) n
    have htn := ht n (by omega)
    generalize sfS q tg S n = U at *
    by_cases c : q n = true ∧ tg n ≠ -1 ∧ poP U n (tg n) = true
    · rw [if_pos c]
      have hp := (poP_i h1.1.1 (l := (n : Int)) (x := tg n) (by omega) (by rw [e20]; omega) (by omega) htn.2).mp c.2.2
      exact ⟨G3_pl h1.1 (by omega) (by rw [e20]; omega) (by omega) htn.2 hp.1 hp.2, h1.2.tr (R14.up (by omega) (by rw [e20]; omega))⟩
    · rw [if_neg c]
      exact h1
theorem fr_8 {S : SS} {k : Int} (h : frB S k = true) : S 8 k = 0 := by
  unfold frB at h
  rw [decide_eq_true_eq] at h
  exact h.1
theorem G3_set {S : SS} (h : G3 S) (tg : Nat → Int) (ht : ∀ k : Nat, (k : Int) < S 20 4 → -1 ≤ tg k ∧ tg k < 240) : G3 (sfS (fun k => frB S k) tg (rmS S (fun k => frB S k) (S 20 4)) (S 20 4).toNat) ∧ R14 S (sfS (fun k => frB S k) tg (rmS S (fun k => frB S k) (S 20 4)) (S 20 4).toNat) := by
  have hm := h.1.2.1
  unfold Bm at hm
  have h1 := G3_rm h (q := fun k => frB S k) (fun k _ hk => fr_8 hk)
  have h2 := G3_sf (fun k => frB S k) tg h1 (S 20 4).toNat (by rw [rmS_g (by decide)]; omega) (fun k hk => ht k (by omega))
  exact ⟨h2.1, (R14.rmA S _).tr h2.2⟩
theorem G3_im : ∀ (f : Nat) (S : SS) (mv bs : Int → Int) (least st : Int), G3 S → G3 (bbS S bs (S 20 4)) → G3 (bbS (imS f S mv bs least st).1 (imS f S mv bs least st).2 (S 20 4)) ∧ R14 S (imS f S mv bs least st).1 := by
  intro f
  induction f with
  | zero => intro S mv bs least st _ h2; exact ⟨h2, R14.rfl⟩
  | succ f ih =>
    intro S mv bs least st h h2
    have eI : imS (f + 1) S mv bs least st = if mvQ S mv st (S 20 4).toNat < 0 then (S, bs) else (if least ≤ cst0 (upS S 14 (mvQ S mv st (S 20 4).toNat) (chP S (mvQ S mv st (S 20 4).toNat) (S 14 (mvQ S mv st (S 20 4).toNat)))) then imS f (upS S 14 (mvQ S mv st (S 20 4).toNat) (chP S (mvQ S mv st (S 20 4).toNat) (S 14 (mvQ S mv st (S 20 4).toNat)))) (upM mv (mvQ S mv st (S 20 4).toNat) st) bs least (st + 1) else imS f (upS S 14 (mvQ S mv st (S 20 4).toNat) (chP S (mvQ S mv st (S 20 4).toNat) (S 14 (mvQ S mv st (S 20 4).toNat)))) (upM mv (mvQ S mv st (S 20 4).toNat) st) (fun j => upS S 14 (mvQ S mv st (S 20 4).toNat) (chP S (mvQ S mv st (S 20 4).toNat) (S 14 (mvQ S mv st (S 20 4).toNat))) 14 j) (cst0 (upS S 14 (mvQ S mv st (S 20 4).toNat) (chP S (mvQ S mv st (S 20 4).toNat) (S 14 (mvQ S mv st (S 20 4).toNat))))) (st + 1)) := rfl
    rw [eI]
    clear eI
    have hQ := mvQ_b h.1.2.1 mv st
    have hP := fun w => mvQ_p (S := S) (mv := mv) (st := st) w
    generalize mvQ S mv st (S 20 4).toNat = q at *
    by_cases c : q < 0
    · rw [if_pos c]
      exact ⟨h2, R14.rfl⟩
    · rw [if_neg c]
      have hp := hP (by omega)
      have hne : chP S q (S 14 q) ≠ -1 := fun w => by
        unfold mvB at hp
        rw [Bool.and_eq_true, w] at hp
        exact absurd hp.2 (by simp)
      have hG := G3_ch h (l := q) (x := S 14 q) (by omega) hQ.2 (fun w => absurd w hne)
      have hR : R14 S (upS S 14 q (chP S q (S 14 q))) := R14.up (by omega) hQ.2
      have hbu : bbS (upS S 14 q (chP S q (S 14 q))) bs (S 20 4) = bbS S bs (S 20 4) := bbS_up (by omega) hQ.2
      have s20 : upS S 14 q (chP S q (S 14 q)) 20 = S 20 := upS_g (by decide)
      generalize upS S 14 q (chP S q (S 14 q)) = T at *
      split
      · have h3 := ih T (upM mv q st) bs least (st + 1) hG (by rw [s20, hbu]; exact h2)
        rw [s20] at h3
        exact ⟨h3.1, hR.tr h3.2⟩
      · have h3 := ih T (upM mv q st) (fun j => T 14 j) (cst0 T) (st + 1) hG (by rw [bbS_self]; exact hG)
        rw [s20] at h3
        exact ⟨h3.1, hR.tr h3.2⟩
theorem R14.bb {S : SS} {bs : Int → Int} : R14 S (bbS S bs (S 20 4)) := ⟨fun f hf => bbS_g hf, fun k hk => if_neg (fun w => by omega)⟩
theorem G3_ip {S : SS} (h : G3 S) (n : Int) : G3 (ipS S n) ∧ R14 S (ipS S n) := by
  have h1 := G3_im n.toNat S (fun _ => -1000) (fun j => S 14 j) (cst0 S) 0 h (by rw [bbS_self]; exact h)
  unfold ipS
  refine ⟨h1.1, h1.2.tr ?_⟩
  have e : S 20 4 = (imS n.toNat S (fun _ => -1000) (fun j => S 14 j) (cst0 S) 0).1 20 4 := by rw [imS_20]
  rw [e]
  exact R14.bb
