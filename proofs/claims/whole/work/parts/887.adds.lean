/-! PURE LAYER: the invariant through the makers -/
def hiF : Nat → Int
  | 0 => 3
  | 1 => 4
  | 2 => 100
  | 3 => 32
  | 4 => 10
  | 5 => 100
  | 6 => 10
  | 7 => 2
  | 8 => 2
  | 9 => 8
  | 10 => 8
  | 11 => 4
  | 12 => 4
  | 13 => 10
  | 14 => 240
  | 15 => 10
  | 16 => 240
  | _ => 0
def loF : Nat → Int
  | 14 => -1
  | 16 => -1
  | _ => 0
theorem up_or {S : SS} {f g : Nat} {i j x : Int} : upS S f i x g j = S g j ∨ g = f ∧ upS S f i x g j = x := by
  by_cases c : g = f
  · subst c
    by_cases d : j = i
    · subst d
      exact Or.inr ⟨rfl, upS_s⟩
    · exact Or.inl (upS_i d)
  · exact Or.inl (congrFun (upS_g c) j)
theorem Bn_up {S : SS} {f : Nat} {i x : Int} (h : Bn S) (hx : f < 17 → loF f ≤ x ∧ x < hiF f) : Bn (upS S f i x) := fun j => by
  obtain ⟨h0, h1, h2, h3, h4, h5, h6, h7, h8, h9, h10, h11, h12, h13, h14, h15, h16⟩ := h j
  refine ⟨?_, ?_, ?_, ?_, ?_, ?_, ?_, ?_, ?_, ?_, ?_, ?_, ?_, ?_, ?_, ?_, ?_⟩
  · rcases up_or (S := S) (f := f) (g := 0) (i := i) (j := j) (x := x) with e | ⟨e0, e⟩
    · rw [e]; exact h0
    · subst e0; rw [e]; exact hx (by decide)
  · rcases up_or (S := S) (f := f) (g := 1) (i := i) (j := j) (x := x) with e | ⟨e0, e⟩
    · rw [e]; exact h1
    · subst e0; rw [e]; exact hx (by decide)
  · rcases up_or (S := S) (f := f) (g := 2) (i := i) (j := j) (x := x) with e | ⟨e0, e⟩
    · rw [e]; exact h2
    · subst e0; rw [e]; exact hx (by decide)
  · rcases up_or (S := S) (f := f) (g := 3) (i := i) (j := j) (x := x) with e | ⟨e0, e⟩
    · rw [e]; exact h3
    · subst e0; rw [e]; exact hx (by decide)
  · rcases up_or (S := S) (f := f) (g := 4) (i := i) (j := j) (x := x) with e | ⟨e0, e⟩
    · rw [e]; exact h4
    · subst e0; rw [e]; exact hx (by decide)
  · rcases up_or (S := S) (f := f) (g := 5) (i := i) (j := j) (x := x) with e | ⟨e0, e⟩
    · rw [e]; exact h5
    · subst e0; rw [e]; exact hx (by decide)
  · rcases up_or (S := S) (f := f) (g := 6) (i := i) (j := j) (x := x) with e | ⟨e0, e⟩
    · rw [e]; exact h6
    · subst e0; rw [e]; exact hx (by decide)
  · rcases up_or (S := S) (f := f) (g := 7) (i := i) (j := j) (x := x) with e | ⟨e0, e⟩
    · rw [e]; exact h7
    · subst e0; rw [e]; exact hx (by decide)
  · rcases up_or (S := S) (f := f) (g := 8) (i := i) (j := j) (x := x) with e | ⟨e0, e⟩
    · rw [e]; exact h8
    · subst e0; rw [e]; exact hx (by decide)
  · rcases up_or (S := S) (f := f) (g := 9) (i := i) (j := j) (x := x) with e | ⟨e0, e⟩
    · rw [e]; exact h9
    · subst e0; rw [e]; exact hx (by decide)
  · rcases up_or (S := S) (f := f) (g := 10) (i := i) (j := j) (x := x) with e | ⟨e0, e⟩
    · rw [e]; exact h10
    · subst e0; rw [e]; exact hx (by decide)
  · rcases up_or (S := S) (f := f) (g := 11) (i := i) (j := j) (x := x) with e | ⟨e0, e⟩
    · rw [e]; exact h11
    · subst e0; rw [e]; exact hx (by decide)
  · rcases up_or (S := S) (f := f) (g := 12) (i := i) (j := j) (x := x) with e | ⟨e0, e⟩
    · rw [e]; exact h12
    · subst e0; rw [e]; exact hx (by decide)
  · rcases up_or (S := S) (f := f) (g := 13) (i := i) (j := j) (x := x) with e | ⟨e0, e⟩
    · rw [e]; exact h13
    · subst e0; rw [e]; exact hx (by decide)
  · rcases up_or (S := S) (f := f) (g := 14) (i := i) (j := j) (x := x) with e | ⟨e0, e⟩
    · rw [e]; exact h14
    · subst e0; rw [e]; exact hx (by decide)
  · rcases up_or (S := S) (f := f) (g := 15) (i := i) (j := j) (x := x) with e | ⟨e0, e⟩
    · rw [e]; exact h15
    · subst e0; rw [e]; exact hx (by decide)
  · rcases up_or (S := S) (f := f) (g := 16) (i := i) (j := j) (x := x) with e | ⟨e0, e⟩
    · rw [e]; exact h16
    · subst e0; rw [e]; exact hx (by decide)
theorem VS_aR {S : SS} (hV : VS S) {a b c : Int} (ha : 0 ≤ a ∧ a ≤ 2) (hb : 0 ≤ b ∧ b ≤ 3) (hc : 1 ≤ c ∧ c ≤ 99) (h2 : S 20 1 < 8) : VS (upS (upS (upS (upS S 0 (S 20 1) a) 1 (S 20 1) b) 2 (S 20 1) c) 20 1 (S 20 1 + 1)) := by
  obtain ⟨hn, hm, hl⟩ := hV
  unfold Bm at hm
  obtain ⟨m1, m2, m3, m4, m5, m6⟩ := hm
  refine ⟨Bn_up (Bn_up (Bn_up (Bn_up (hn) (fun w => (show 0 ≤ a ∧ a < 3 by omega))) (fun w => (show 0 ≤ b ∧ b < 4 by omega))) (fun w => (show 0 ≤ c ∧ c < 100 by omega))) (fun w => absurd w (by decide)), ?_, ?_⟩
  · exact ⟨(show 0 ≤ S 20 1 + 1 ∧ S 20 1 + 1 ≤ 8 by omega), m2, m3, m4, m5, m6⟩
  · exact fun l l0 l1 => by
      have h := hl l l0 l1
      exact ⟨h.1, h.2.1, h.2.2.1, fun w => ⟨show S 14 l % 8 < S 20 1 + 1 from Int.lt_trans (h.2.2.2 w).1 (by omega), (h.2.2.2 w).2⟩⟩
theorem VS_aT {S : SS} (hV : VS S) {a : Int} (ha : 0 ≤ a ∧ a ≤ 31) (h2 : S 20 2 < 8) : VS (upS (upS S 3 (S 20 2) a) 20 2 (S 20 2 + 1)) := by
  obtain ⟨hn, hm, hl⟩ := hV
  unfold Bm at hm
  obtain ⟨m1, m2, m3, m4, m5, m6⟩ := hm
  refine ⟨Bn_up (Bn_up (hn) (fun w => (show 0 ≤ a ∧ a < 32 by omega))) (fun w => absurd w (by decide)), ?_, ?_⟩
  · exact ⟨m1, (show 0 ≤ S 20 2 + 1 ∧ S 20 2 + 1 ≤ 8 by omega), m3, m4, m5, m6⟩
  · exact fun l l0 l1 => by
      have h := hl l l0 l1
      exact ⟨h.1, h.2.1, ⟨h.2.2.1.1, show S 10 l < S 20 2 + 1 from Int.lt_trans h.2.2.1.2 (by omega)⟩, h.2.2.2⟩
theorem VS_aG {S : SS} (hV : VS S) {a : Int} (ha : 1 ≤ a ∧ a ≤ 99) (h2 : S 20 3 < 8) : VS (upS (upS S 5 (S 20 3) a) 20 3 (S 20 3 + 1)) := by
  obtain ⟨hn, hm, hl⟩ := hV
  unfold Bm at hm
  obtain ⟨m1, m2, m3, m4, m5, m6⟩ := hm
  refine ⟨Bn_up (Bn_up (hn) (fun w => (show 0 ≤ a ∧ a < 100 by omega))) (fun w => absurd w (by decide)), ?_, ?_⟩
  · exact ⟨m1, m2, (show 0 ≤ S 20 3 + 1 ∧ S 20 3 + 1 ≤ 8 by omega), m4, m5, m6⟩
  · exact fun l l0 l1 => by
      have h := hl l l0 l1
      exact ⟨h.1, ⟨h.2.1.1, show S 9 l < S 20 3 + 1 from Int.lt_trans h.2.1.2 (by omega)⟩, h.2.2.1, h.2.2.2⟩
theorem aL_f {S : SS} {a b c d e n m l : Int} (hl : l ≠ n) : (upS (upS (upS (upS (upS (upS S 9 n a) 10 n b) 11 n c) 12 n d) 13 n e) 20 4 m) 9 l = S 9 l ∧ (upS (upS (upS (upS (upS (upS S 9 n a) 10 n b) 11 n c) 12 n d) 13 n e) 20 4 m) 10 l = S 10 l ∧ (upS (upS (upS (upS (upS (upS S 9 n a) 10 n b) 11 n c) 12 n d) 13 n e) 20 4 m) 11 l = S 11 l ∧ (upS (upS (upS (upS (upS (upS S 9 n a) 10 n b) 11 n c) 12 n d) 13 n e) 20 4 m) 12 l = S 12 l := by
  refine ⟨?_, ?_, ?_, ?_⟩
  · rw [upS_g (by decide), upS_g (by decide), upS_g (by decide), upS_g (by decide), upS_g (by decide), upS_i hl]
  · rw [upS_g (by decide), upS_g (by decide), upS_g (by decide), upS_g (by decide), upS_i hl, upS_g (by decide)]
  · rw [upS_g (by decide), upS_g (by decide), upS_g (by decide), upS_i hl, upS_g (by decide), upS_g (by decide)]
  · rw [upS_g (by decide), upS_g (by decide), upS_i hl, upS_g (by decide), upS_g (by decide), upS_g (by decide)]
theorem aL_n {S : SS} {a b c d e n m : Int} : (upS (upS (upS (upS (upS (upS S 9 n a) 10 n b) 11 n c) 12 n d) 13 n e) 20 4 m) 9 n = a ∧ (upS (upS (upS (upS (upS (upS S 9 n a) 10 n b) 11 n c) 12 n d) 13 n e) 20 4 m) 10 n = b ∧ (upS (upS (upS (upS (upS (upS S 9 n a) 10 n b) 11 n c) 12 n d) 13 n e) 20 4 m) 12 n = d := by
  refine ⟨?_, ?_, ?_⟩
  · rw [upS_g (by decide), upS_g (by decide), upS_g (by decide), upS_g (by decide), upS_g (by decide), upS_s]
  · rw [upS_g (by decide), upS_g (by decide), upS_g (by decide), upS_g (by decide), upS_s]
  · rw [upS_g (by decide), upS_g (by decide), upS_s]
theorem VS_aL {S : SS} (hV : VS S) {a b c d e : Int} (ha : 0 ≤ a ∧ a < S 20 3) (hb : 0 ≤ b ∧ b < S 20 2) (hc : 0 ≤ c ∧ c ≤ 3) (hd : 1 ≤ d ∧ d ≤ 3) (he : 0 ≤ e ∧ e ≤ 9) (h2 : S 20 4 < 16) (h14 : S 14 (S 20 4) = -1) : VS (upS (upS (upS (upS (upS (upS S 9 (S 20 4) a) 10 (S 20 4) b) 11 (S 20 4) c) 12 (S 20 4) d) 13 (S 20 4) e) 20 4 (S 20 4 + 1)) := by
  obtain ⟨hn, hm, hl⟩ := hV
  unfold Bm at hm
  obtain ⟨m1, m2, m3, m4, m5, m6⟩ := hm
  refine ⟨Bn_up (Bn_up (Bn_up (Bn_up (Bn_up (Bn_up (hn) (fun w => (show 0 ≤ a ∧ a < 8 by omega))) (fun w => (show 0 ≤ b ∧ b < 8 by omega))) (fun w => (show 0 ≤ c ∧ c < 4 by omega))) (fun w => (show 0 ≤ d ∧ d < 4 by omega))) (fun w => (show 0 ≤ e ∧ e < 10 by omega))) (fun w => absurd w (by decide)), ?_, ?_⟩
  · exact ⟨m1, m2, m3, (show 0 ≤ S 20 4 + 1 ∧ S 20 4 + 1 ≤ 16 by omega), m5, m6⟩
  · exact fun l l0 l1 => by
      by_cases c1 : l = S 20 4
      · subst c1
        obtain ⟨e9, e10, e12⟩ := aL_n (S := S) (a := a) (b := b) (c := c) (d := d) (e := e) (n := S 20 4) (m := S 20 4 + 1)
        rw [e9, e10, e12]
        exact ⟨hd, ha, hb, fun w => by
          have w : 0 ≤ S 14 (S 20 4) := w
          omega⟩
      · obtain ⟨e9, e10, _, e12⟩ := aL_f (S := S) (a := a) (b := b) (c := c) (d := d) (e := e) (m := S 20 4 + 1) c1
        have l1 : l < S 20 4 + 1 := l1
        rw [e9, e10, e12]
        exact hl l l0 (by omega)
theorem GI_aR {S : SS} (h : GI S) {a b c : Int} (ha : 0 ≤ a ∧ a ≤ 2) (hb : 0 ≤ b ∧ b ≤ 3) (hc : 1 ≤ c ∧ c ≤ 99) (h2 : S 20 1 < 8) : GI (upS (upS (upS (upS S 0 (S 20 1) a) 1 (S 20 1) b) 2 (S 20 1) c) 20 1 (S 20 1 + 1)) := by
  obtain ⟨⟨hV, hJ, hL⟩, f5, f7, f8, f4, f6⟩ := h
  have hU : ∀ r : Int, r < S 20 1 → (upS (upS (upS (upS S 0 (S 20 1) a) 1 (S 20 1) b) 2 (S 20 1) c) 20 1 (S 20 1 + 1)) 0 r = S 0 r ∧ (upS (upS (upS (upS S 0 (S 20 1) a) 1 (S 20 1) b) 2 (S 20 1) c) 20 1 (S 20 1 + 1)) 1 r = S 1 r ∧ (upS (upS (upS (upS S 0 (S 20 1) a) 1 (S 20 1) b) 2 (S 20 1) c) 20 1 (S 20 1 + 1)) 2 r = S 2 r := fun r hr => by
    have hr : r ≠ S 20 1 := by omega
    refine ⟨?_, ?_, ?_⟩
    · rw [upS_g (by decide), upS_g (by decide), upS_g (by decide), upS_i hr]
    · rw [upS_g (by decide), upS_g (by decide), upS_i hr, upS_g (by decide)]
    · rw [upS_g (by decide), upS_i hr, upS_g (by decide), upS_g (by decide)]
  refine ⟨⟨VS_aR hV ha hb hc h2, fun k k0 k1 kp bb b10 b1 hb => ?_, hL⟩, f5, fun n hn => f7 n (Int.le_trans (by omega) (show S 20 1 + 1 ≤ n from hn)), f8, f4, f6⟩
  obtain ⟨u0, u1, u2⟩ := hU _ ((hV.2.2 k k0 k1).2.2.2 kp).1
  exact hJ k k0 k1 kp bb b10 b1 (brP_tr (S := S) (U := (upS (upS (upS (upS S 0 (S 20 1) a) 1 (S 20 1) b) 2 (S 20 1) c) 20 1 (S 20 1 + 1))) b10 b1 ⟨rfl, rfl, rfl, rfl, u1, u2, u0, rfl⟩ (fun j j1 _ jp => ⟨j1, rfl, rfl, rfl, rfl, (hU _ ((hV.2.2 j (Int.natCast_nonneg j) j1).2.2.2 jp).1).1⟩) (fun _ w => w) (fun _ w => w) hb)
theorem GI_aT {S : SS} (h : GI S) {a : Int} (ha : 0 ≤ a ∧ a ≤ 31) (h2 : S 20 2 < 8) : GI (upS (upS S 3 (S 20 2) a) 20 2 (S 20 2 + 1)) := by
  obtain ⟨⟨hV, hJ, hL⟩, f5, f7, f8, f4, f6⟩ := h
  refine ⟨⟨VS_aT hV ha h2, fun k k0 k1 kp bb b10 b1 hb => ?_, hL⟩, f5, f7, f8, fun n hn => f4 n (Int.le_trans (by omega) (show S 20 2 + 1 ≤ n from hn)), fun n hn => f6 n (Int.le_trans (by omega) (show 30 * (S 20 2 + 1) ≤ n from hn))⟩
  refine hJ k k0 k1 kp bb b10 b1 (brP_tr (S := S) (U := (upS (upS S 3 (S 20 2) a) 20 2 (S 20 2 + 1))) b10 b1 ⟨rfl, rfl, rfl, rfl, rfl, rfl, rfl, rfl⟩ (fun j j1 _ jp => ⟨j1, rfl, rfl, rfl, rfl, rfl⟩) (fun _ w => ?_) (fun _ w => w) hb)
  have h10 : S 10 k < S 20 2 := (hV.2.2 k k0 k1).2.2.1.2
  rw [upS_g (by decide), upS_i (by omega)] at w
  exact w
theorem GI_aG {S : SS} (h : GI S) {a : Int} (ha : 1 ≤ a ∧ a ≤ 99) (h2 : S 20 3 < 8) : GI (upS (upS S 5 (S 20 3) a) 20 3 (S 20 3 + 1)) := by
  obtain ⟨⟨hV, hJ, hL⟩, f5, f7, f8, f4, f6⟩ := h
  refine ⟨⟨VS_aG hV ha h2, fun k k0 k1 kp bb b10 b1 hb => ?_, hL⟩, fun g g0 g1 => ?_, f7, f8, f4, f6⟩
  · have h9 : S 9 k < S 20 3 := (hV.2.2 k k0 k1).2.1.2
    exact hJ k k0 k1 kp bb b10 b1 (brP_tr (S := S) (U := (upS (upS S 5 (S 20 3) a) 20 3 (S 20 3 + 1))) b10 b1 ⟨rfl, rfl, rfl, rfl, rfl, rfl, rfl, by
      show (upS (upS S 5 (S 20 3) a) 20 3 (S 20 3 + 1)) 5 (S 9 k) = S 5 (S 9 k)
      rw [upS_g (by decide), upS_i (by omega)]⟩ (fun j j1 _ jp => ⟨j1, rfl, rfl, rfl, rfl, rfl⟩) (fun _ w => w) (fun _ w => w) hb)
  · have g1 : g < S 20 3 + 1 := g1
    rw [upS_g (by decide)]
    by_cases c : g = S 20 3
    · subst c
      rw [upS_s]
      exact ha.1
    · rw [upS_i c]
      exact f5 g g0 (by omega)
theorem GI_aL {S : SS} (h : GI S) (h14 : S 14 (S 20 4) = -1) {a b c d e : Int} (ha : 0 ≤ a ∧ a < S 20 3) (hb : 0 ≤ b ∧ b < S 20 2) (hc : 0 ≤ c ∧ c ≤ 3) (hd : 1 ≤ d ∧ d ≤ 3) (he : 0 ≤ e ∧ e ≤ 9) (h2 : S 20 4 < 16) : GI (upS (upS (upS (upS (upS (upS S 9 (S 20 4) a) 10 (S 20 4) b) 11 (S 20 4) c) 12 (S 20 4) d) 13 (S 20 4) e) 20 4 (S 20 4 + 1)) := by
  obtain ⟨⟨hV, hJ, hL⟩, f5, f7, f8, f4, f6⟩ := h
  have hk : ∀ k : Int, k < S 20 4 + 1 → 0 ≤ S 14 k → k < S 20 4 := fun k k1 kp => by
    by_cases c : k = S 20 4
    · rw [c, h14] at kp
      exact absurd kp (by decide)
    · omega
  refine ⟨⟨VS_aL hV ha hb hc hd he h2 h14, fun k k0 k1 kp bb b10 b1 hb => ?_, fun k k0 k1 k8 => ?_⟩, f5, f7, fun n hn => f8 n (Int.le_trans (by omega) (show S 20 4 + 1 ≤ n from hn)), f4, f6⟩
  · have k2 := hk k k1 kp
    obtain ⟨e9, e10, e11, e12⟩ := aL_f (S := S) (a := a) (b := b) (c := c) (d := d) (e := e) (n := S 20 4) (m := S 20 4 + 1) (l := k) (by omega)
    exact hJ k k0 k2 kp bb b10 b1 (brP_tr (S := S) (U := (upS (upS (upS (upS (upS (upS S 9 (S 20 4) a) 10 (S 20 4) b) 11 (S 20 4) c) 12 (S 20 4) d) 13 (S 20 4) e) 20 4 (S 20 4 + 1))) b10 b1 ⟨e12, e10, e9, e11, rfl, rfl, rfl, rfl⟩ (fun j j1 _ jp => by
      have j2 := hk j j1 jp
      obtain ⟨f9, f10, f11, f12⟩ := aL_f (S := S) (a := a) (b := b) (c := c) (d := d) (e := e) (n := S 20 4) (m := S 20 4 + 1) (l := j) (by omega)
      exact ⟨j2, rfl, f12, f10, f9, rfl⟩) (fun _ w => w) (fun _ w => w) hb)
  · by_cases c1 : k = S 20 4
    · have k8 : S 8 k ≠ 0 := k8
      rw [c1] at k8
      exact absurd (f8 _ (Int.le_refl _)).1 k8
    · have k1 : k < S 20 4 + 1 := k1
      exact hL k k0 (by omega) k8
theorem upS_cm {S : SS} {f g : Nat} {i j x y : Int} (h : f ≠ g) : upS (upS S f i x) g j y = upS (upS S g j y) f i x := by
  funext a b
  unfold upS
  by_cases c : a = f
  · subst c
    rw [if_neg (show ¬ (a = g ∧ b = j) from fun w => h w.1), if_neg (show ¬ (a = g ∧ b = j) from fun w => h w.1)]
  · rw [if_neg (show ¬ (a = f ∧ b = i) from fun w => c w.1)]
    by_cases d : a = g ∧ b = j
    · rw [if_pos d, if_neg (show ¬ (a = f ∧ b = i) from fun w => c w.1)]
    · rw [if_neg d, if_neg (show ¬ (a = f ∧ b = i) from fun w => c w.1)]
theorem aL_sm2 {S : SS} {a b c d e n m x : Int} : Sm (upS (upS (upS (upS (upS (upS (upS S 9 n a) 10 n b) 11 n c) 12 n d) 13 n e) 14 n x) 20 4 m) (upS (upS (upS (upS (upS (upS (upS S 14 n x) 9 n a) 10 n b) 11 n c) 12 n d) 13 n e) 20 4 m) := by
  have h : upS (upS (upS (upS (upS (upS S 14 n x) 9 n a) 10 n b) 11 n c) 12 n d) 13 n e = upS (upS (upS (upS (upS (upS S 9 n a) 10 n b) 11 n c) 12 n d) 13 n e) 14 n x := by
    rw [upS_cm (S := S) (f := 14) (g := 9) (by decide), upS_cm (S := upS S 9 n a) (f := 14) (g := 10) (by decide), upS_cm (S := upS (upS S 9 n a) 10 n b) (f := 14) (g := 11) (by decide), upS_cm (S := upS (upS (upS S 9 n a) 10 n b) 11 n c) (f := 14) (g := 12) (by decide), upS_cm (S := upS (upS (upS (upS S 9 n a) 10 n b) 11 n c) 12 n d) (f := 14) (g := 13) (by decide)]
  rw [h]
  exact Sm.rfl
/-- a lesson that isn't born yet may as well have no place -/
theorem GI_n {S : SS} (h : GI S) : GI (upS S 14 (S 20 4) (-1)) := by
  obtain ⟨⟨hV, hJ, hL⟩, f5, f7, f8, f4, f6⟩ := h
  refine ⟨⟨VS_pl hV (by decide) (by decide) (fun w => absurd w (by decide)), JI_few (fun f hf => upS_g hf) (fun j hj => ?_) hJ, fun k k0 k1 k8 => ?_⟩, ?_, ?_, fun n hn => ⟨(f8 n hn).1, ?_⟩, ?_, ?_⟩
  · by_cases c : j = S 20 4
    · rw [c, upS_s] at hj
      exact absurd hj (by decide)
    · exact upS_i c
  · have k1 : k < S 20 4 := k1
    rw [upS_i (by omega)]
    exact hL k k0 k1 k8
  · exact f5
  · exact f7
  · by_cases c : n = S 20 4
    · rw [c, upS_s]
      decide
    · rw [upS_i c]
      exact (f8 n hn).2
  · exact f4
  · exact f6
theorem amt_n {S U : SS} (hU : ∀ f, f ≠ 14 → U f = S f) (h14 : ∀ k : Int, 0 ≤ k → k < S 20 4 → U 14 k = S 14 k) (p : Int) : amt U p = amt S p := by
  have h : ∀ k : Nat, k < (S 20 4).toNat → U 14 (k : Int) = S 14 (k : Int) := fun k hk => h14 k (by omega) (by omega)
  have hb : ∀ g t, busyP U g t = busyP S g t := fun g t => by
    refine eq_tt ?_
    rw [busy_iff, busy_iff, hU 20 (by decide), hU 9 (by decide), hU 12 (by decide)]
    constructor
    · rintro ⟨j, j1, j9, j0, j2, j3⟩
      rw [h j j1] at j0 j2 j3
      exact ⟨j, j1, j9, j0, j2, j3⟩
    · rintro ⟨j, j1, j9, j0, j2, j3⟩
      rw [← h j j1] at j0 j2 j3
      exact ⟨j, j1, j9, j0, j2, j3⟩
  have e0 : ∀ k : Int, gapK U k = gapK S k := fun k => gpF_eq 6 _ _ _ (fun t _ _ => hb _ t)
  unfold amt
  rw [hU 20 (by decide)]
  by_cases c0 : p = 0
  · rw [if_pos c0, if_pos c0]
    simp only [e0]
  · rw [if_neg c0, if_neg c0]
    by_cases c1 : p = 1
    · rw [if_pos c1, if_pos c1]
      refine sumN_c _ (fun k hk => ?_)
      show lateK U (k : Int) = lateK S (k : Int)
      unfold lateK
      rw [h k hk, hU 12 (by decide), hU 4 (by decide), hU 10 (by decide)]
    · rw [if_neg c1, if_neg c1]
      by_cases c2 : p = 2
      · rw [if_pos c2, if_pos c2]
        refine sumN_c _ (fun k hk => ?_)
        show wsI U (k : Int) = wsI S (k : Int)
        unfold wsI
        rw [h k hk, hU 12 (by decide), hU 6 (by decide), hU 10 (by decide)]
      · rw [if_neg c2, if_neg c2]
        refine sumN_c _ (fun k hk => sumN_c k (fun j hj => ?_))
        show crI U (k : Int) (j : Int) = crI S (k : Int) (j : Int)
        unfold crI
        rw [h k hk, h j (by omega), hU 9 (by decide), hU 13 (by decide)]
theorem CI_n {S : SS} {K : KK} (hC : CI S K) : CI (upS S 14 (S 20 4) (-1)) K := fun p p0 p1 => by
  rw [amt_n (S := S) (fun f hf => upS_g hf) (fun k _ k1 => upS_i (by omega))]
  exact hC p p0 p1
theorem Hc_n {A : AA} {P : Hp} {S : SS} {K : KK} (hA : GA A) : Hc A P (upS S 14 (S 20 4) (-1)) K = Hc A P S K := by
  refine hc_ext (fun k i hl => ?_) (fun q hq => hc_no (fun k i hl => hq k i hl)) hA
  rw [hc_at hA (show live (upS S 14 (S 20 4) (-1)) k i from hl)]
  refine congrArg some ?_
  by_cases c : k = 5
  · subst c
    have hi : i < S 20 4 := hl.2.2.1
    show aO 7 (cLes A (upS S 14 (S 20 4) (-1)) K i) = aO 7 (cLes A S K i)
    unfold cLes
    rw [upS_i (show i ≠ S 20 4 by omega)]
    rfl
  · unfold cell
    split <;> first
      | rfl
      | exact absurd rfl c
theorem born_cs0 {x0 m0 out outD : Nat} {S S2 S1 : SS} {A : AA} {P : Hp} {K : KK} {z z2 : Nat × Nat} {f : Nat → Int64} {g : Nat → UInt64} {v : Int} {h2 : Hp} (hF : Found x0 m0 out outD S A P K z f g) (hb : ∃ (A2 : AA) (K2 : KK), z2.2 = z.2 ∧ A2 26 0 = A 26 0 ∧ A2 0 0 = A 0 0 ∧ AL A2 S1 ∧ CH A2 S1 K2 h2 ∧ CI S1 K2 ∧ (∀ k i, live S1 k i → A2 k i = A k i ∧ live S2 k i ∨ z.1 ≤ A2 k i) ∧ (∀ x, x < z.1 → (∀ k i, k < 27 → 0 ≤ i → A k i ≠ x) → h2 x = PO P out f v x) ∧ h2 (A 26 0) = some ce0) : z2.2 = z.2 ∧ CS x0 m0 out outD S1 h2 z.2 ∧ MR S m0 (h2, z) ∧ h2 out = some (aL 1 (vp_updL f 0 (iI v).toInt64)) ∧ h2 outD = some (aD 1 g) := by
  obtain ⟨h0, hA, hV, hC, hG, hO, hD, hFr, ho, hdis, hM, hsep, hB, hP⟩ := hF
  obtain ⟨A2, K2, b1, b2, b3, b4, b5, b6, b7, b8, b9⟩ := hb
  obtain ⟨w1, w2, w3, w4, w5, w6⟩ := hFr
  have hoD : outD < z.1 := hB _ _ hD.1
  have hP2 : ∀ x, P x = Hc A P S K x := fun x => congrFun hP x
  have hm : ∀ x, m0 ≤ x → x ≤ m0 + 20 → x < z.1 → h2 x = P x := fun x x0 x1 x2 => by
    rw [b8 x x2 (fun k i hk hi e => by have := hdis k i hk hi; omega)]
    exact hset_n (by have := hsep.2.2.2.1; omega)
  have hmz : m0 + 20 < z.1 := by
    have h19 := hM.2 19 (by decide)
    have h19 : Hc A P S K (mA m0 19) = _ := h19
    rw [← hP2] at h19
    have := hB _ _ h19
    unfold mA at this
    omega
  refine ⟨b1, ⟨A2, K2, b3.trans h0, b4, b5, b2.trans w3.symm, by rw [w3]; exact b9, b6, fun k i hl => ?_⟩, ⟨?_, fun k hk => ?_⟩, ?_, ?_⟩
  · rcases b7 k i hl with ⟨r1, r2⟩ | r1
    · rw [r1]
      have hk : k < 27 := Nat.lt_succ_of_lt r2.1
      exact ⟨hO.2 k i hk r2.2.1, hD.2 k i hk r2.2.1, hdis k i hk r2.2.1⟩
    · exact ⟨by omega, by omega, by omega⟩
  · show h2 m0 = _
    rw [hm m0 (by omega) (by omega) (by omega), hP2]
    exact hM.1
  · show h2 (mA m0 k) = _
    rw [hm _ (by unfold mA; omega) (by unfold mA; omega) (by unfold mA; omega), hP2]
    exact hM.2 k hk
  · rw [b8 out ho hO.2]
    exact hset_s
  · rw [b8 outD hoD hD.2]
    exact (hset_n (Ne.symm hsep.1)).trans hD.1
