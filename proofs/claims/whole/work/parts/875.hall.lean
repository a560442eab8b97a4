/-! PURE LAYER: both ways of what lacks agree -/
theorem sumN_le {f g : Nat → Int} : ∀ n, (∀ k, k < n → f k ≤ g k) → sumN f n ≤ sumN g n := by
  intro n
  induction n with
  | zero => intro _; exact Int.le_refl _
  | succ n ih =>
    intro h
    have h1 := ih (fun k hk => h k (by omega))
    have h2 := h n (by omega)
    show sumN f n + f n ≤ sumN g n + g n
    omega
theorem sumN_pt {f g : Nat → Int} {i : Nat} {d : Int} : ∀ n, i < n → (∀ k, k < n → k ≠ i → g k = f k) → g i = f i + d → sumN g n = sumN f n + d := by
  intro n
  induction n with
  | zero => intro h; exact absurd h (by omega)
  | succ n ih =>
    intro h1 h2 h3
    show sumN g n + g n = sumN f n + f n + d
    by_cases c : i = n
    · subst c
      rw [sumN_c (f := g) (g := f) i (fun k hk => h2 k (by omega) (by omega)), h3]
      omega
    · rw [ih (by omega) (fun k hk hki => h2 k (by omega) hki) h3, h2 n (by omega) (Ne.symm c)]
      omega
theorem amin_lo {ok : Nat → Bool} {c : Nat → Int} : ∀ n, 0 ≤ amin ok c n → ∀ k, k < n → ok k = true → c (amin ok c n).toNat ≤ c k := by
  intro n
  induction n with
  | zero => intro _ k hk; exact absurd hk (by omega)
  | succ n ih =>
    intro h k hk hok
    by_cases d : ok n = true ∧ (amin ok c n < 0 ∨ c n < c (amin ok c n).toNat)
    · have e : amin ok c (n + 1) = n := if_pos d
      rw [e, show ((n : Nat) : Int).toNat = n by omega]
      by_cases q : k = n
      · rw [q]; exact Int.le_refl _
      · rcases d.2 with w | w
        · have := amin_al (ok := ok) (c := c) n w k (by omega)
          rw [this] at hok
          exact absurd hok (by decide)
        · by_cases w2 : 0 ≤ amin ok c n
          · have := ih w2 k (by omega) hok
            omega
          · have := amin_al (ok := ok) (c := c) n (by omega) k (by omega)
            rw [this] at hok
            exact absurd hok (by decide)
    · have e : amin ok c (n + 1) = amin ok c n := if_neg d
      rw [e] at h ⊢
      by_cases q : k = n
      · subst q
        by_cases w : c k < c (amin ok c k).toNat
        · exact absurd ⟨hok, Or.inr w⟩ d
        · omega
      · exact ih h k (by omega) hok
def hoD (S : SS) (c n : Int) (dn : Nat → Bool) : Int := sumN (fun k => if S 11 (k : Int) = c ∧ n < S 5 (S 9 (k : Int)) ∧ dn k = true then S 12 (k : Int) else 0) (S 20 4).toNat
def gsD (S : SS) (c n : Int) (g : Int → Int) : Int := sumN (fun r => if S 7 (r : Int) = 0 ∧ S 1 (r : Int) = c ∧ n < S 2 (r : Int) then g (r : Int) else 0) (S 20 1).toNat
theorem hoD_add {S : SS} {c n l : Int} {dn : Nat → Bool} (l0 : 0 ≤ l) (l1 : l < S 20 4) (hk : S 11 l = c) (hd : dn l.toNat = false) : hoD S c n (fun k => dn k || decide ((k : Int) = l)) = hoD S c n dn + (if n < S 5 (S 9 l) then S 12 l else 0) := by
  have hl : ((l.toNat : Nat) : Int) = l := by omega
  unfold hoD
  refine sumN_pt (i := l.toNat) _ (by omega) (fun k hk hki => ?_) ?_
  · have : decide ((k : Int) = l) = false := decide_eq_false (by omega)
    simp only [this, Bool.or_false]
  · simp only [hl, hd, hk, Bool.false_or, decide_eq_true_eq, true_and, and_true, eq_self, Bool.false_eq_true, and_false, if_false]
    omega
theorem gsD_up {S : SS} {c n r : Int} {g : Int → Int} (r0 : 0 ≤ r) (r1 : r < S 20 1) (h7 : S 7 r = 0) (h1 : S 1 r = c) : gsD S c n (upM g r (g r + 1)) = gsD S c n g + (if n < S 2 r then 1 else 0) := by
  have hr : ((r.toNat : Nat) : Int) = r := by omega
  unfold gsD
  refine sumN_pt (i := r.toNat) _ (by omega) (fun k hk hki => ?_) ?_
  · have : upM g r (g r + 1) (k : Int) = g (k : Int) := if_neg (by omega)
    simp only [this]
  · have : upM g r (g r + 1) r = g r + 1 := if_pos rfl
    simp only [hr, this, h7, h1, true_and, eq_self]
    by_cases c1 : n < S 2 r
    · rw [if_pos c1, if_pos c1, if_pos c1]
    · rw [if_neg c1, if_neg c1, if_neg c1]
      omega
def HI (S : SS) (c : Int) (g : Int → Int) (dn : Nat → Bool) (a p j : Int) : Prop := 0 ≤ a ∧ a + gsD S c (-1) g = hoD S c (-1) dn + j ∧ (∀ n : Int, hoD S c n dn + (if n < p then j else 0) ≤ a + gsD S c n g) ∧ (a = 0 ∨ ∃ n : Nat, n < 100 ∧ a ≤ exI S c n)
theorem HI_fail {S : SS} (hV : VS S) {c l : Int} (l0 : 0 ≤ l) (l1 : l < S 20 4) (hk : S 11 l = c) (hp : 1 ≤ S 5 (S 9 l)) {dn : Nat → Bool} (hd : dn l.toNat = false) (ho : ∀ k : Nat, k < (S 20 4).toNat → S 11 (k : Int) = c → dn k = true → S 5 (S 9 l) ≤ S 5 (S 9 (k : Int))) {g : Int → Int} (hg : GbI g) {a j : Int} (hj : j + 1 ≤ S 12 l) (h : HI S c g dn a (S 5 (S 9 l)) j) (hr : gvR S l g < 0) : HI S c g dn (a + 1) (S 5 (S 9 l)) (j + 1) := by
  obtain ⟨a0, e, h1, h2⟩ := h
  have hl : ((l.toNat : Nat) : Int) = l := by omega
  refine ⟨by omega, by omega, fun n => ?_, Or.inr ⟨(S 5 (S 9 l) - 1).toNat, ?_, ?_⟩⟩
  · have := h1 n
    split <;> split at this <;> omega
  · have := (B5 hV.1 (S 9 l)).2
    omega
  · rw [show (((S 5 (S 9 l) - 1).toNat : Nat) : Int) = S 5 (S 9 l) - 1 by omega]
    have g1 : gsD S c (S 5 (S 9 l) - 1) g = sumN (fun r => exB S c (S 5 (S 9 l) - 1) r) (S 20 1).toNat := by
      unfold gsD
      refine sumN_c _ (fun r hr2 => ?_)
      show (if _ then _ else _) = (if _ then _ else _)
      by_cases q : S 7 (r : Int) = 0 ∧ S 1 (r : Int) = c ∧ S 5 (S 9 l) - 1 < S 2 (r : Int)
      · rw [if_pos q, if_pos q]
        have hb := fstN_l (gvB S l g) (S 20 1).toNat r hr2 (Or.inl hr)
        unfold gvB at hb
        have hgr := hg (r : Int)
        by_cases w : g (r : Int) < 30
        · rw [decide_eq_true q.1, decide_eq_true (q.2.1.trans hk.symm), decide_eq_true (show S 5 (S 9 l) ≤ S 2 (r : Int) by omega), decide_eq_true w] at hb
          exact absurd hb (by decide)
        · omega
      · rw [if_neg q, if_neg q]
    have g2 : gsD S c (S 5 (S 9 l) - 1) g ≤ gsD S c (-1) g := by
      unfold gsD
      refine sumN_le _ (fun r hr2 => ?_)
      have hgr := hg (r : Int)
      have hs := B2 hV.1 (r : Int)
      show (if _ then _ else _) ≤ (if _ then _ else _)
      by_cases q : S 7 (r : Int) = 0 ∧ S 1 (r : Int) = c ∧ S 5 (S 9 l) - 1 < S 2 (r : Int)
      · rw [if_pos q, if_pos ⟨q.1, q.2.1, by omega⟩]
        exact Int.le_refl _
      · rw [if_neg q]
        split <;> omega
    have g3 : hoD S c (-1) dn + S 12 l ≤ sumN (fun k => exA S c (S 5 (S 9 l) - 1) k) (S 20 4).toNat := by
      have g4 := hoD_add (S := S) (n := -1) l0 l1 hk hd
      rw [if_pos (show -1 < S 5 (S 9 l) by omega)] at g4
      rw [← g4]
      unfold hoD
      refine sumN_le _ (fun k hk2 => ?_)
      have hh := B12 hV.1 (k : Int)
      show (if _ then _ else _) ≤ (if _ then _ else _)
      by_cases q : S 11 (k : Int) = c ∧ -1 < S 5 (S 9 (k : Int)) ∧ (dn k || decide ((k : Int) = l)) = true
      · have w : S 5 (S 9 l) ≤ S 5 (S 9 (k : Int)) := by
          have q3 := q.2.2
          rw [Bool.or_eq_true, decide_eq_true_eq] at q3
          rcases q3 with q3 | q3
          · exact ho k hk2 q.1 q3
          · rw [q3]; exact Int.le_refl _
        rw [if_pos q, if_pos ⟨q.1, by omega⟩]
        exact Int.le_refl _
      · rw [if_neg q]
        split <;> omega
    unfold exI
    omega
theorem HI_give {S : SS} {c l : Int} (hk : S 11 l = c) {dn : Nat → Bool} {g : Int → Int} {a j : Int} (hp : 1 ≤ S 5 (S 9 l)) (h : HI S c g dn a (S 5 (S 9 l)) j) (hr : 0 ≤ gvR S l g) : HI S c (upM g (gvR S l g) (g (gvR S l g) + 1)) dn (a + 0) (S 5 (S 9 l)) (j + 1) := by
  obtain ⟨a0, e, h1, h2⟩ := h
  obtain ⟨r1, r7, r1k, r2, r3⟩ := gvR_p hr
  have hu := fun n => gsD_up (S := S) (c := c) (n := n) (g := g) hr r1 r7 (r1k.trans hk)
  rw [Int.add_zero]
  refine ⟨a0, ?_, fun n => ?_, h2⟩
  · rw [hu, if_pos (by omega)]
    omega
  · have h3 := h1 n
    rw [hu]
    by_cases q : n < S 5 (S 9 l)
    · rw [if_pos q] at h3 ⊢
      rw [if_pos (by omega)]
      omega
    · rw [if_neg q] at h3 ⊢
      split <;> omega
theorem HI_all {S : SS} (hV : VS S) {c l : Int} (l0 : 0 ≤ l) (l1 : l < S 20 4) (hk : S 11 l = c) (hp : 1 ≤ S 5 (S 9 l)) {dn : Nat → Bool} (hd : dn l.toNat = false) (ho : ∀ k : Nat, k < (S 20 4).toNat → S 11 (k : Int) = c → dn k = true → S 5 (S 9 l) ≤ S 5 (S 9 (k : Int))) {g : Int → Int} (hg : GbI g) {a : Int} (h : HI S c g dn a (S 5 (S 9 l)) 0) : ∀ j : Nat, (j : Int) ≤ S 12 l → HI S c (gvG S l j g) dn (gvL S l g a j) (S 5 (S 9 l)) j := by
  intro j
  induction j with
  | zero => intro _; exact h
  | succ j ih =>
    intro hj
    have h0 := ih (by omega)
    have hgj := GbI_gv (S := S) (l := l) hg j
    rw [show ((j + 1 : Nat) : Int) = (j : Int) + 1 by omega]
    unfold gvG gvL
    by_cases q : gvR S l (gvG S l j g) < 0
    · rw [if_pos q, if_pos q]
      exact HI_fail hV l0 l1 hk hp hd ho hgj (by omega) h0 q
    · rw [if_neg q, if_neg q]
      exact HI_give hk hp h0 (by omega)
theorem HI_end {S : SS} (hV : VS S) {c : Int} {g : Int → Int} {dn : Nat → Bool} {a : Int} (hg : GbI g) (h : HI S c g dn a 0 0) (hd : ∀ k : Nat, k < (S 20 4).toNat → S 11 (k : Int) = c → dn k = true) : a = mxI S c 100 := by
  obtain ⟨a0, e, h1, h2⟩ := h
  have h3 : ∀ n : Nat, exI S c n ≤ a := fun n => by
    have h4 := h1 (n : Int)
    rw [if_neg (by omega)] at h4
    have h5 : hoD S c n dn = sumN (fun k => exA S c n k) (S 20 4).toNat := by
      unfold hoD
      refine sumN_c _ (fun k hk => ?_)
      show (if _ then _ else _) = (if _ then _ else _)
      by_cases q : S 11 (k : Int) = c ∧ (n : Int) < S 5 (S 9 (k : Int))
      · rw [if_pos q, if_pos ⟨q.1, q.2, hd k hk q.1⟩]
      · rw [if_neg q, if_neg (fun w => q ⟨w.1, w.2.1⟩)]
    have h6 : gsD S c n g ≤ sumN (fun r => exB S c n r) (S 20 1).toNat := by
      unfold gsD
      refine sumN_le _ (fun r hr => ?_)
      have hgr := hg (r : Int)
      show (if _ then _ else _) ≤ (if _ then _ else _)
      split <;> omega
    unfold exI
    omega
  have h7 := mxI_b hV c 100
  have h8 : a ≤ mxI S c 100 := by
    rcases h2 with h2 | ⟨n, n1, h2⟩
    · omega
    · have := mxI_ge S c 100 n n1
      omega
  rcases mxI_is S c 100 with h9 | ⟨k, k1, h9⟩
  · omega
  · have := h3 k
    omega
theorem HI_p {S : SS} {c : Int} {g : Int → Int} {dn : Nat → Bool} {a p q : Int} (h : HI S c g dn a p 0) : HI S c g dn a q 0 := by
  obtain ⟨a0, e, h1, h2⟩ := h
  refine ⟨a0, e, fun n => ?_, h2⟩
  have := h1 n
  split <;> split at this <;> omega
theorem ly_go {S : SS} (h : GI S) {c : Int} : ∀ (f : Nat) (g : Int → Int) (dn : Nat → Bool) (a : Int), GbI g → HI S c g dn a 0 0 → (∀ k k2 : Nat, k < (S 20 4).toNat → k2 < (S 20 4).toNat → S 11 (k : Int) = c → S 11 (k2 : Int) = c → dn k = true → dn k2 = false → S 5 (S 9 (k2 : Int)) ≤ S 5 (S 9 (k : Int))) → sumN (fun k => if S 11 (k : Int) = c ∧ dn k = false then 1 else 0) (S 20 4).toNat ≤ f → lyS S c f g dn a = mxI S c 100 := by
  have hV := h.1.1
  intro f
  induction f with
  | zero =>
    intro g dn a hg hh ho hs
    refine HI_end hV hg hh (fun k hk hkc => ?_)
    cases d : dn k
    · have := sumN_ge (f := fun k : Nat => if S 11 (k : Int) = c ∧ dn k = false then (1 : Int) else 0) (S 20 4).toNat (fun k _ => by
        show (0 : Int) ≤ if _ then _ else _
        split <;> omega) k hk
      have w : (if S 11 (k : Int) = c ∧ dn k = false then (1 : Int) else 0) = 1 := if_pos ⟨hkc, d⟩
      simp only [w] at this
      omega
    · rfl
  | succ f ih =>
    intro g dn a hg hh ho hs
    show (if lgQ S c dn (S 20 4).toNat < 0 then a else _) = _
    have hlb := amin_b (lgB S c dn) (fun k => - S 5 (S 9 k)) (S 20 4).toNat
    change -1 ≤ lgQ S c dn (S 20 4).toNat ∧ lgQ S c dn (S 20 4).toNat < _ at hlb
    by_cases q : lgQ S c dn (S 20 4).toNat < 0
    · rw [if_pos q]
      refine HI_end hV hg hh (fun k hk hkc => ?_)
      have := amin_al (S 20 4).toNat q k hk
      unfold lgB at this
      rw [decide_eq_true hkc, Bool.true_and] at this
      cases d : dn k
      · rw [d] at this
        exact absurd this (by decide)
      · rfl
    · rw [if_neg q]
      have q0 : 0 ≤ lgQ S c dn (S 20 4).toNat := by omega
      have hok := amin_ok (lgB S c dn) (fun k => - S 5 (S 9 k)) (S 20 4).toNat q0
      have hlo := amin_lo (ok := lgB S c dn) (c := fun k => - S 5 (S 9 k)) (S 20 4).toNat q0
      change lgB S c dn (lgQ S c dn (S 20 4).toNat).toNat = true at hok
      change ∀ k, k < (S 20 4).toNat → lgB S c dn k = true → - S 5 (S 9 ((lgQ S c dn (S 20 4).toNat).toNat : Int)) ≤ - S 5 (S 9 (k : Int)) at hlo
      generalize hl : lgQ S c dn (S 20 4).toNat = l at *
      have hl1 : ((l.toNat : Nat) : Int) = l := by omega
      unfold lgB at hok
      rw [Bool.and_eq_true, decide_eq_true_eq, hl1] at hok
      have hkc := hok.1
      have hdn : dn l.toNat = false := by
        cases d : dn l.toNat
        · rfl
        · rw [d] at hok
          exact absurd hok.2 (by decide)
      rw [hl1] at hlo
      have l1 : l < S 20 4 := by omega
      have hvl := hV.2.2 l q0 l1
      have hp := h.2.1 (S 9 l) hvl.2.1.1 hvl.2.1.2
      have h12 : (((S 12 l).toNat : Nat) : Int) = S 12 l := by omega
      have hA := HI_all hV q0 l1 hkc hp hdn (fun k hk hkc2 hd => ho k l.toNat hk (by omega) hkc2 (by rw [hl1]; exact hkc) hd hdn |> fun w => by rw [hl1] at w; exact w) hg (HI_p hh) (S 12 l).toNat (by omega)
      rw [h12] at hA
      refine ih _ _ _ (GbI_gv hg _) ?_ ?_ ?_
      · obtain ⟨a0, e, h1, h2⟩ := hA
        have hu := fun n => hoD_add (S := S) (n := n) q0 l1 hkc hdn
        refine ⟨a0, ?_, fun n => ?_, h2⟩
        · rw [hu, if_pos (by omega)]
          omega
        · have h3 := h1 n
          rw [hu]
          split <;> split at h3 <;> omega
      · intro k k2 hk hk2 kc kc2 kd kd2
        have kd2 : (dn k2 || decide ((k2 : Int) = l)) = false := kd2
        rw [Bool.or_eq_false_iff] at kd2
        have kd : (dn k || decide ((k : Int) = l)) = true := kd
        rw [Bool.or_eq_true, decide_eq_true_eq] at kd
        rcases kd with kd | kd
        · exact ho k k2 hk hk2 kc kc2 kd kd2.1
        · rw [kd]
          have := hlo k2 hk2 (by unfold lgB; rw [decide_eq_true kc2, kd2.1]; rfl)
          omega
      · have := sumN_pt (f := fun k : Nat => if S 11 (k : Int) = c ∧ (dn k || decide ((k : Int) = l)) = false then (1 : Int) else 0) (g := fun k : Nat => if S 11 (k : Int) = c ∧ dn k = false then (1 : Int) else 0) (i := l.toNat) (d := 1) (S 20 4).toNat (by omega) (fun k hk hki => by
          have w : decide ((k : Int) = l) = false := decide_eq_false (by omega)
          simp only [w, Bool.or_false]) (by
          simp only [hl1, hdn, hkc, decide_true, Bool.or_true, true_and, eq_self, if_true, and_false, if_false, Bool.true_eq_false]
          rfl)
        rw [this] at hs
        have e : ((f + 1 : Nat) : Int) = (f : Int) + 1 := by omega
        rw [e] at hs
        exact Int.le_of_add_le_add_right hs
theorem ly_mx {S : SS} (h : GI S) {c : Int} (_c0 : 0 ≤ c) (_c1 : c < 4) : lyS S c (S 20 4).toNat (fun _ => 0) (fun _ => false) 0 = mxI S c 100 := by
  refine ly_go h _ _ _ _ (fun _ => ⟨by decide, by decide⟩) ?_ (fun k k2 _ _ _ _ kd => absurd kd (by decide)) ?_
  · have e1 : ∀ n, hoD S c n (fun _ => false) = 0 := fun n => sumN_z _ (fun k _ => if_neg (fun w => Bool.false_ne_true w.2.2))
    have e2 : ∀ n, gsD S c n (fun _ => 0) = 0 := fun n => sumN_z _ (fun k _ => by
      show (if _ then (0 : Int) else 0) = 0
      exact ite_self _)
    refine ⟨by decide, by rw [e1, e2], fun n => ?_, Or.inl rfl⟩
    rw [e1, e2]
    split <;> decide
  · have := (sumN_b (f := fun k : Nat => if S 11 (k : Int) = c ∧ (fun _ => false : Nat → Bool) k = false then (1 : Int) else 0) (a := 0) (b := 1) (S 20 4).toNat (fun k _ => by
      show (0 : Int) ≤ (if _ then _ else _) ∧ (if _ then _ else _) ≤ (1 : Int)
      split <;> omega)).2
    rw [Int.one_mul] at this
    exact this
theorem seat_dn (S : SS) (k : Int) (k0 : 0 ≤ k) : ∀ n : Nat, ∃ m : Int, 0 ≤ m ∧ m ≤ k ∧ (m = 0 ∨ ∃ r : Nat, r < n ∧ S 2 (r : Int) = m) ∧ ∀ r : Nat, r < n → S 2 (r : Int) ≤ k → S 2 (r : Int) ≤ m := by
  intro n
  induction n with
  | zero => exact ⟨0, Int.le_refl _, k0, Or.inl rfl, fun r hr => absurd hr (by omega)⟩
  | succ n ih =>
    obtain ⟨m, m0, m1, m2, m3⟩ := ih
    by_cases c : S 2 (n : Int) ≤ k ∧ m < S 2 (n : Int)
    · refine ⟨S 2 (n : Int), by omega, c.1, Or.inr ⟨n, by omega, rfl⟩, fun r hr hrk => ?_⟩
      by_cases q : r = n
      · subst q; exact Int.le_refl _
      · have := m3 r (by omega) hrk
        omega
    · refine ⟨m, m0, m1, m2.imp id (fun ⟨r, r1, r2⟩ => ⟨r, by omega, r2⟩), fun r hr hrk => ?_⟩
      by_cases q : r = n
      · subst q
        by_cases w : m < S 2 (r : Int)
        · exact absurd ⟨hrk, w⟩ c
        · omega
      · exact m3 r (by omega) hrk
theorem lbN_ge (S : SS) (c : Int) : ∀ n : Nat, 0 ≤ lbN S c n ∧ exI S c 0 ≤ lbN S c n ∧ ∀ r : Nat, r < n → exI S c (S 2 (r : Int)) ≤ lbN S c n := by
  intro n
  induction n with
  | zero =>
    unfold lbN
    refine ⟨by split <;> omega, by split <;> omega, fun r hr => absurd hr (by omega)⟩
  | succ n ih =>
    obtain ⟨i0, i1, i2⟩ := ih
    unfold lbN
    refine ⟨by split <;> omega, by split <;> omega, fun r hr => ?_⟩
    by_cases q : r = n
    · subst q
      split <;> omega
    · have := i2 r (by omega)
      split <;> omega
theorem lbN_le {S : SS} (hV : VS S) (c : Int) : ∀ n : Nat, lbN S c n ≤ mxI S c 100 := by
  have h0 := mxI_b hV c 100
  have h1 : ∀ x : Int, 0 ≤ x → x < 100 → exI S c x ≤ mxI S c 100 := fun x x0 x1 => by
    have := mxI_ge S c 100 x.toNat (by omega)
    rw [show ((x.toNat : Nat) : Int) = x by omega] at this
    exact this
  intro n
  induction n with
  | zero =>
    have := h1 0 (by decide) (by decide)
    unfold lbN
    split <;> omega
  | succ n ih =>
    have hs := B2 hV.1 (n : Int)
    have := h1 _ hs.1 hs.2
    unfold lbN
    split <;> omega
theorem lb_mx {S : SS} (h : GI S) {c : Int} (_c0 : 0 ≤ c) (_c1 : c < 4) : lbN S c (S 20 1).toNat = mxI S c 100 := by
  have hV := h.1.1
  have h1 := lbN_le hV c (S 20 1).toNat
  have h2 := lbN_ge S c (S 20 1).toNat
  rcases mxI_is S c 100 with h3 | ⟨k, _, h3⟩
  · omega
  · obtain ⟨m, m0, m1, m2, m3⟩ := seat_dn S (k : Int) (by omega) (S 20 1).toNat
    have h4 : exI S c k ≤ exI S c m := by
      have e1 : sumN (fun j => exA S c k j) (S 20 4).toNat ≤ sumN (fun j => exA S c m j) (S 20 4).toNat := sumN_le _ (fun j _ => by
        have := B12 hV.1 (j : Int)
        show (if _ then _ else _) ≤ (if _ then _ else _)
        by_cases q : S 11 (j : Int) = c ∧ (k : Int) < S 5 (S 9 (j : Int))
        · rw [if_pos q, if_pos ⟨q.1, by omega⟩]
          exact Int.le_refl _
        · rw [if_neg q]
          split <;> omega)
      have e2 : sumN (fun r => exB S c k r) (S 20 1).toNat = sumN (fun r => exB S c m r) (S 20 1).toNat := sumN_c _ (fun r hr => by
        have := m3 r hr
        show (if _ then _ else _) = (if _ then _ else _)
        by_cases q : S 7 (r : Int) = 0 ∧ S 1 (r : Int) = c ∧ (k : Int) < S 2 (r : Int)
        · rw [if_pos q, if_pos ⟨q.1, q.2.1, by omega⟩]
        · rw [if_neg q, if_neg (fun w => q ⟨w.1, w.2.1, by
            have := w.2.2
            by_cases z : S 2 (r : Int) ≤ k
            · have := m3 r hr z
              omega
            · omega⟩)])
      unfold exI
      omega
    rcases m2 with m2 | ⟨r, r1, m2⟩
    · rw [m2] at h4
      omega
    · rw [← m2] at h4
      have := h2.2.2 r r1
      omega
