/-! PURE LAYER: the invariant through each operation -/
def FR (S : SS) : Prop := (∀ g : Int, 0 ≤ g → g < S 20 3 → 1 ≤ S 5 g) ∧ (∀ n : Int, S 20 1 ≤ n → S 7 n = 0) ∧ (∀ n : Int, S 20 4 ≤ n → S 8 n = 0 ∧ S 14 n ≤ 0) ∧ (∀ n : Int, S 20 2 ≤ n → S 4 n = 0) ∧ (∀ n : Int, 30 * S 20 2 ≤ n → S 6 n = 0)
def GI (S : SS) : Prop := G3 S ∧ FR S
theorem FR_14 {S U : SS} (h : R14 S U) (hF : FR S) : FR U := by
  obtain ⟨f5, f7, f8, f4, f6⟩ := hF
  have e := fun f hf => h.1 f hf
  refine ⟨fun g g0 g1 => ?_, fun n hn => ?_, fun n hn => ?_, fun n hn => ?_, fun n hn => ?_⟩
  · rw [e 20 (by decide)] at g1
    rw [e 5 (by decide)]
    exact f5 g g0 g1
  · rw [e 20 (by decide)] at hn
    rw [e 7 (by decide)]
    exact f7 n hn
  · rw [e 20 (by decide)] at hn
    rw [e 8 (by decide), h.2 n (Or.inr hn)]
    exact f8 n hn
  · rw [e 20 (by decide)] at hn
    rw [e 4 (by decide)]
    exact f4 n hn
  · rw [e 20 (by decide)] at hn
    rw [e 6 (by decide)]
    exact f6 n hn
theorem GI_14 {S U : SS} (h : GI S) (hG : G3 U ∧ R14 S U) : GI U := ⟨hG.1, FR_14 hG.2 h.2⟩
/-- the bars speak of some fields alone -/
theorem JI_cg {S U : SS} (h : ∀ f, f < 13 → f ≠ 4 → f ≠ 6 → U f = S f) (h14 : U 14 = S 14) (h4 : U 20 4 = S 20 4) (h6 : S 20 6 ≤ U 20 6) (hJ : JI S) : JI U := fun k k0 k1 kp b b10 b1 hb => by
  rw [h4] at k1
  rw [h14] at kp hb ⊢
  have ho : Own S U k (S 14 k % 8) := by
    unfold Own
    rw [h 12 (by decide) (by decide) (by decide), h 10 (by decide) (by decide) (by decide), h 9 (by decide) (by decide) (by decide), h 11 (by decide) (by decide) (by decide), h 1 (by decide) (by decide) (by decide), h 2 (by decide) (by decide) (by decide), h 0 (by decide) (by decide) (by decide), h 5 (by decide) (by decide) (by decide)]
    exact ⟨rfl, rfl, rfl, rfl, rfl, rfl, rfl, rfl⟩
  have := brP_tr b10 b1 ho (fun j j1 _ jp => by
    unfold Oth
    rw [h4] at j1
    rw [h 12 (by decide) (by decide) (by decide), h 10 (by decide) (by decide) (by decide), h 9 (by decide) (by decide) (by decide), h 0 (by decide) (by decide) (by decide), h14]
    exact ⟨j1, rfl, rfl, rfl, rfl, rfl⟩) (fun _ w => by rw [h 3 (by decide) (by decide) (by decide)] at w; exact w) (fun _ w => by rw [h 7 (by decide) (by decide) (by decide)] at w; exact w) hb
  have h9 := hJ k k0 k1 kp b b10 b1 this
  rw [h 8 (by decide) (by decide) (by decide)]
  exact ⟨h9.1, by omega, h9.2.2⟩
theorem LI_cg {S U : SS} (h8 : U 8 = S 8) (h14 : U 14 = S 14) (h4 : U 20 4 = S 20 4) (hL : LI S) : LI U := fun k k0 k1 k8 => by
  rw [h4] at k1
  rw [h8] at k8
  rw [h14]
  exact hL k k0 k1 k8
theorem GI_m {S U : SS} (hS : Sm S U) (h : GI S) : GI U := by
  obtain ⟨⟨hV, hJ, hL⟩, f5, f7, f8, f4, f6⟩ := h
  refine ⟨⟨VS_m hS hV, JI_cg (fun f hf _ _ => (hS.1 f (by omega)).symm) (hS.1 14 (by decide)).symm (hS.2 4 (by decide)).symm (by rw [hS.2 6 (by decide)]; exact Int.le_refl _) hJ, LI_cg (hS.1 8 (by decide)).symm (hS.1 14 (by decide)).symm (hS.2 4 (by decide)).symm hL⟩, ?_, ?_, ?_, ?_, ?_⟩
  · rw [← hS.1 5 (by decide), ← hS.2 3 (by decide)]; exact f5
  · rw [← hS.1 7 (by decide), ← hS.2 1 (by decide)]; exact f7
  · rw [← hS.1 8 (by decide), ← hS.1 14 (by decide), ← hS.2 4 (by decide)]; exact f8
  · rw [← hS.1 4 (by decide), ← hS.2 2 (by decide)]; exact f4
  · rw [← hS.1 6 (by decide), ← hS.2 2 (by decide)]; exact f6
theorem GI_wish {S : SS} (h : GI S) {a b c : Int} (ha : 0 ≤ a ∧ a < S 20 2) (hb : 0 ≤ b ∧ b ≤ 29) (hc : 0 ≤ c ∧ c ≤ 9) : GI (upS S 6 (30 * a + b) c) := by
  obtain ⟨⟨hV, hJ, hL⟩, f5, f7, f8, f4, f6⟩ := h
  refine ⟨⟨VS_u6 hV hc.1 (by omega), JI_cg (fun f _ _ h6 => upS_g h6) (upS_g (by decide)) (by rw [upS_g (by decide)]) (by rw [upS_g (by decide)]; exact Int.le_refl _) hJ, LI_cg (upS_g (by decide)) (upS_g (by decide)) (by rw [upS_g (by decide)]) hL⟩, ?_, ?_, ?_, ?_, fun n hn => ?_⟩
  · rw [upS_g (by decide), upS_g (by decide)]; exact f5
  · rw [upS_g (by decide), upS_g (by decide)]; exact f7
  · rw [upS_g (by decide), upS_g (by decide), upS_g (by decide)]; exact f8
  · rw [upS_g (by decide), upS_g (by decide)]; exact f4
  · rw [upS_g (by decide)] at hn
    rw [upS_i (by omega)]
    exact f6 n hn
theorem GI_weight {S : SS} (h : GI S) {a b : Int} (hb : 0 ≤ b ∧ b ≤ 9) : GI (upS S 15 a b) := by
  obtain ⟨⟨hV, hJ, hL⟩, f5, f7, f8, f4, f6⟩ := h
  refine ⟨⟨VS_u15 hV hb.1 (by omega), JI_cg (fun f hf _ _ => upS_g (by omega)) (upS_g (by decide)) (by rw [upS_g (by decide)]) (by rw [upS_g (by decide)]; exact Int.le_refl _) hJ, LI_cg (upS_g (by decide)) (upS_g (by decide)) (by rw [upS_g (by decide)]) hL⟩, ?_, ?_, ?_, ?_, ?_⟩
  · rw [upS_g (by decide), upS_g (by decide)]; exact f5
  · rw [upS_g (by decide), upS_g (by decide)]; exact f7
  · rw [upS_g (by decide), upS_g (by decide), upS_g (by decide)]; exact f8
  · rw [upS_g (by decide), upS_g (by decide)]; exact f4
  · rw [upS_g (by decide), upS_g (by decide)]; exact f6
theorem GI_today {S : SS} (h : GI S) (h6 : S 20 6 < 4) : GI (upS S 20 6 (S 20 6 + 1)) := by
  obtain ⟨⟨hV, hJ, hL⟩, f5, f7, f8, f4, f6⟩ := h
  have hm := hV.2.1
  unfold Bm at hm
  refine ⟨⟨VS_today hV (by omega) (by omega), JI_cg (fun f hf _ _ => upS_g (by omega)) (upS_g (by decide)) (upS_i (by decide)) (by rw [upS_s]; omega) hJ, LI_cg (upS_g (by decide)) (upS_g (by decide)) (upS_i (by decide)) hL⟩, ?_, ?_, ?_, ?_, ?_⟩
  · exact f5
  · exact f7
  · exact f8
  · exact f4
  · exact f6
theorem GI_save {S : SS} (h : GI S) (h5 : S 20 5 < 6) : GI (svS S) := by
  obtain ⟨⟨hV, hJ, hL⟩, f5, f7, f8, f4, f6⟩ := h
  have hm := hV.2.1
  unfold Bm at hm
  have e : ∀ f, f < 16 → svS S f = S f := fun f hf => by
    unfold svS
    rw [upS_g (by omega), kpS_g (by omega)]
  have e2 : ∀ i : Int, i ≠ 5 → svS S 20 i = S 20 i := fun i hi => by
    unfold svS
    rw [upS_i hi, kpS_g (by decide)]
  have hVS : VS (svS S) := VS_vcount (VS_kp hV) (by omega) (by omega)
  refine ⟨⟨hVS, JI_cg (fun f hf _ _ => e f (by omega)) (e 14 (by decide)) (e2 4 (by decide)) (by rw [e2 6 (by decide)]; exact Int.le_refl _) hJ, LI_cg (e 8 (by decide)) (e 14 (by decide)) (e2 4 (by decide)) hL⟩, ?_, ?_, ?_, ?_, ?_⟩
  · rw [e 5 (by decide), e2 3 (by decide)]; exact f5
  · rw [e 7 (by decide), e2 1 (by decide)]; exact f7
  · rw [e 8 (by decide), e 14 (by decide), e2 4 (by decide)]; exact f8
  · rw [e 4 (by decide), e2 2 (by decide)]; exact f4
  · rw [e 6 (by decide), e2 2 (by decide)]; exact f6
/-- a change of the marks 8 alone -/
theorem JI_8 {S : SS} {a x : Int} (hJ : JI S) (hx : x = 0 ∨ ¬ (S 14 a / 8 / 6 < S 20 6)) : JI (upS S 8 a x) := fun k k0 k1 kp b b10 b1 hb => by
  rw [upS_g (by decide)] at k1 kp hb ⊢
  have ho : Own S (upS S 8 a x) k (S 14 k % 8) := ⟨rfl, rfl, rfl, rfl, rfl, rfl, rfl, rfl⟩
  have := brP_tr b10 b1 ho (fun j j1 _ jp => ⟨j1, rfl, rfl, rfl, rfl, rfl⟩) (fun _ w => w) (fun _ w => w) hb
  have h9 := hJ k k0 k1 kp b b10 b1 this
  refine ⟨h9.1, h9.2.1, ?_⟩
  by_cases c : k = a
  · subst c
    rw [upS_s]
    rcases hx with hx | hx
    · exact hx
    · exact absurd h9.2.1 hx
  · rw [upS_i c]
    exact h9.2.2
theorem GI_lock {S : SS} (h : GI S) {a : Int} (ha : 0 ≤ a ∧ a < S 20 4) (hp : 0 ≤ S 14 a) (hf : ¬ (0 ≤ S 14 a ∧ S 14 a / 8 / 6 < S 20 6)) : GI (upS S 8 a 1) := by
  obtain ⟨⟨hV, hJ, hL⟩, f5, f7, f8, f4, f6⟩ := h
  refine ⟨⟨VS_u8 hV (by decide) (by decide), JI_8 hJ (Or.inr (fun w => hf ⟨hp, w⟩)), fun k k0 k1 k8 => ?_⟩, ?_, ?_, fun n hn => ?_, ?_, ?_⟩
  · rw [upS_g (by decide)] at k1 ⊢
    by_cases c : k = a
    · subst c; exact hp
    · rw [upS_i c] at k8
      exact hL k k0 k1 k8
  · rw [upS_g (by decide), upS_g (by decide)]; exact f5
  · rw [upS_g (by decide), upS_g (by decide)]; exact f7
  · rw [upS_g (by decide)] at hn
    rw [upS_i (by omega), upS_g (by decide)]
    exact f8 n hn
  · rw [upS_g (by decide), upS_g (by decide)]; exact f4
  · rw [upS_g (by decide), upS_g (by decide)]; exact f6
theorem GI_unlock {S : SS} (h : GI S) {a : Int} (ha : 0 ≤ a ∧ a < S 20 4) : GI (upS S 8 a 0) := by
  obtain ⟨⟨hV, hJ, hL⟩, f5, f7, f8, f4, f6⟩ := h
  refine ⟨⟨VS_u8 hV (by decide) (by decide), JI_8 hJ (Or.inl rfl), fun k k0 k1 k8 => ?_⟩, ?_, ?_, fun n hn => ?_, ?_, ?_⟩
  · rw [upS_g (by decide)] at k1 ⊢
    by_cases c : k = a
    · subst c
      rw [upS_s] at k8
      exact absurd rfl k8
    · rw [upS_i c] at k8
      exact hL k k0 k1 k8
  · rw [upS_g (by decide), upS_g (by decide)]; exact f5
  · rw [upS_g (by decide), upS_g (by decide)]; exact f7
  · rw [upS_g (by decide)] at hn
    rw [upS_i (by omega), upS_g (by decide)]
    exact f8 n hn
  · rw [upS_g (by decide), upS_g (by decide)]; exact f4
  · rw [upS_g (by decide), upS_g (by decide)]; exact f6
theorem GI_open {S : SS} (h : GI S) {a : Int} (ha : 0 ≤ a ∧ a < S 20 1) : GI (upS S 7 a 0) := by
  obtain ⟨⟨hV, hJ, hL⟩, f5, f7, f8, f4, f6⟩ := h
  refine ⟨⟨VS_u7 hV (by decide) (by decide), fun k k0 k1 kp b b10 b1 hb => ?_, LI_cg (upS_g (by decide)) (upS_g (by decide)) (by rw [upS_g (by decide)]) hL⟩, ?_, fun n hn => ?_, ?_, ?_, ?_⟩
  · rw [upS_g (by decide)] at k1 kp hb
    have ho : Own S (upS S 7 a 0) k (S 14 k % 8) := ⟨rfl, rfl, rfl, rfl, rfl, rfl, rfl, rfl⟩
    have := brP_tr b10 b1 ho (fun j j1 _ jp => ⟨j1, rfl, rfl, rfl, rfl, rfl⟩) (fun _ w => w) (fun _ w => by
      by_cases c : S 14 k % 8 = a
      · rw [c, upS_s] at w
        exact absurd rfl w
      · rw [upS_i c] at w
        exact w) hb
    exact hJ k k0 k1 kp b b10 b1 this
  · rw [upS_g (by decide), upS_g (by decide)]; exact f5
  · rw [upS_g (by decide)] at hn
    rw [upS_i (by omega)]
    exact f7 n hn
  · rw [upS_g (by decide), upS_g (by decide), upS_g (by decide)]; exact f8
  · rw [upS_g (by decide), upS_g (by decide)]; exact f4
  · rw [upS_g (by decide), upS_g (by decide)]; exact f6
theorem FR_u3 {S : SS} {a x : Int} (h : FR S) : FR (upS S 3 a x) := by
  obtain ⟨f5, f7, f8, f4, f6⟩ := h
  refine ⟨?_, ?_, ?_, ?_, ?_⟩
  · rw [upS_g (by decide), upS_g (by decide)]; exact f5
  · rw [upS_g (by decide), upS_g (by decide)]; exact f7
  · rw [upS_g (by decide), upS_g (by decide), upS_g (by decide)]; exact f8
  · rw [upS_g (by decide), upS_g (by decide)]; exact f4
  · rw [upS_g (by decide), upS_g (by decide)]; exact f6
theorem FR_u7 {S : SS} {a x : Int} (ha : a < S 20 1) (h : FR S) : FR (upS S 7 a x) := by
  obtain ⟨f5, f7, f8, f4, f6⟩ := h
  refine ⟨?_, fun n hn => ?_, ?_, ?_, ?_⟩
  · rw [upS_g (by decide), upS_g (by decide)]; exact f5
  · rw [upS_g (by decide)] at hn
    rw [upS_i (by omega)]
    exact f7 n hn
  · rw [upS_g (by decide), upS_g (by decide), upS_g (by decide)]; exact f8
  · rw [upS_g (by decide), upS_g (by decide)]; exact f4
  · rw [upS_g (by decide), upS_g (by decide)]; exact f6
theorem rm_in {S : SS} {q : Nat → Bool} {k : Int} (k0 : 0 ≤ k) (k1 : k < S 20 4) (h : 0 ≤ rmS S q (S 20 4) 14 k) : q k.toNat = false ∧ rmS S q (S 20 4) 14 k = S 14 k := by
  unfold rmS at h ⊢
  by_cases c : (14 = 14) ∧ (0 : Int) ≤ k ∧ k < S 20 4 ∧ q k.toNat = true
  · rw [if_pos c] at h
    omega
  · rw [if_neg c]
    refine ⟨?_, rfl⟩
    cases d : q k.toNat
    · rfl
    · exact absurd ⟨rfl, k0, k1, d⟩ c
theorem off_orA : ∀ x : Fin 32, ∀ d e : Fin 5, x.val / 2 ^ d.val % 2 = 0 → (x.val + 2 ^ d.val) / 2 ^ e.val % 2 = 1 → e.val = d.val ∨ x.val / 2 ^ e.val % 2 = 1 := by decide +kernel
theorem off_orJ {x d e : Int} (x0 : 0 ≤ x) (x1 : x < 32) (d0 : 0 ≤ d) (d1 : d < 5) (e0 : 0 ≤ e) (e1 : e < 5) (h : ¬ offB x d = 1) (h2 : offB (x + p2I d) e = 1) : e = d ∨ offB x e = 1 := by
  have h1 := off_orA ⟨x.toNat, by omega⟩ ⟨d.toNat, by omega⟩ ⟨e.toNat, by omega⟩
  have h3 := off_addI x0 x1 d0 d1 h
  unfold offB p2I at *
  simp only at h1
  have e4 : (x + ((2 ^ d.toNat : Nat) : Int)).toNat = x.toNat + 2 ^ d.toNat := by omega
  rw [e4] at h2
  rcases h1 (by omega) (by omega) with w | w
  · exact Or.inl (by omega)
  · exact Or.inr (by omega)
theorem GI_ill {S : SS} (h : GI S) {a b : Int} (ha : 0 ≤ a ∧ a < S 20 2) (hb : S 20 6 ≤ b ∧ b ≤ 4) (ho : ¬ offB (S 3 a) b = 1) (hl : fstN (ilX S a b) (S 20 4).toNat < 0) : GI (rpS (upS S 3 a (S 3 a + p2I b)) (fun k => ilB S a b k)) := by
  obtain ⟨⟨hV, hJ, hL⟩, hF⟩ := h
  have hm := hV.2.1
  unfold Bm at hm
  have h3 := B3 hV.1 a
  have hx := off_addI h3.1 h3.2 (show 0 ≤ b by omega) (show b < 5 by omega) ho
  have hVT : VS (upS S 3 a (S 3 a + p2I b)) := VS_u3 hV hx.1 hx.2
  have hq8 : ∀ k : Nat, (k : Int) < upS S 3 a (S 3 a + p2I b) 20 4 → ilB S a b k = true → upS S 3 a (S 3 a + p2I b) 8 k = 0 := fun k hk hq => by
    have hk2 : (k : Int) < S 20 4 := hk
    have h5 := fstN_l (ilX S a b) _ k (show k < (S 20 4).toNat by omega) (Or.inl hl)
    unfold ilX at h5
    rw [hq, Bool.true_and, Bool.not_eq_false', decide_eq_true_eq] at h5
    exact h5
  have hVr := VS_rm hVT (fun k => ilB S a b k) (S 20 4).toNat (by show (((S 20 4).toNat : Nat) : Int) ≤ S 20 4; omega)
  rw [show (((S 20 4).toNat : Nat) : Int) = S 20 4 by omega] at hVr
  have hG : G3 (rmS (upS S 3 a (S 3 a + p2I b)) (fun k => ilB S a b k) (S 20 4)) := by
    refine ⟨hVr, fun k k0 k1 kp c c10 c1 hc => ?_, fun k k0 k1 k8 => ?_⟩
    · rw [rmS_g (by decide)] at k1
      have k1 : k < S 20 4 := k1
      have hr := rm_in (S := upS S 3 a (S 3 a + p2I b)) (q := fun k => ilB S a b k) k0 k1 kp
      have hr2 : rmS (upS S 3 a (S 3 a + p2I b)) (fun k => ilB S a b k) (S 20 4) 14 k = S 14 k := hr.2
      have hil : ilB S a b ((k.toNat : Nat) : Int) = false := hr.1
      rw [show ((k.toNat : Nat) : Int) = k by omega] at hil
      rw [hr2] at kp hc ⊢
      have hg : ∀ f, f ≠ 14 → f ≠ 3 → rmS (upS S 3 a (S 3 a + p2I b)) (fun k => ilB S a b k) (S 20 4) f = S f := fun f hf h3 => by rw [rmS_g hf, upS_g h3]
      have hown : Own S (rmS (upS S 3 a (S 3 a + p2I b)) (fun k => ilB S a b k) (S 20 4)) k (S 14 k % 8) := by
        unfold Own
        rw [hg 12 (by decide) (by decide), hg 10 (by decide) (by decide), hg 9 (by decide) (by decide), hg 11 (by decide) (by decide), hg 1 (by decide) (by decide), hg 2 (by decide) (by decide), hg 0 (by decide) (by decide), hg 5 (by decide) (by decide)]
        exact ⟨rfl, rfl, rfl, rfl, rfl, rfl, rfl, rfl⟩
      have hk14 := B14 hV.1 k
      have := brP_tr c10 c1 hown (fun j j1 _ jp => by
        rw [hg 20 (by decide) (by decide)] at j1
        unfold Oth
        rw [hg 12 (by decide) (by decide), hg 10 (by decide) (by decide), hg 9 (by decide) (by decide), hg 0 (by decide) (by decide)]
        exact ⟨j1, (rm_in (S := upS S 3 a (S 3 a + p2I b)) (q := fun k => ilB S a b k) (by omega) j1 jp).2, rfl, rfl, rfl, rfl⟩) (fun _ w => by
        rw [rmS_g (by decide)] at w
        by_cases ct : S 10 k = a
        · rw [ct, upS_s] at w
          rcases off_orJ h3.1 h3.2 (show 0 ≤ b by omega) (show b < 5 by omega) (by omega) (by omega) ho w with w | w
          · exfalso
            unfold ilB at hil
            rw [decide_eq_true ct, Bool.true_and, decide_eq_false_iff_not] at hil
            exact hil ⟨kp, w⟩
          · rw [ct]; exact w
        · rw [upS_i ct] at w
          exact w) (fun _ w => by rw [hg 7 (by decide) (by decide)] at w; exact w) hc
      have h9 := hJ k k0 k1 kp c c10 c1 this
      rw [hg 20 (by decide) (by decide), hg 8 (by decide) (by decide)]
      exact h9
    · rw [rmS_g (by decide)] at k1 k8
      have k1 : k < S 20 4 := k1
      have k8 : S 8 k ≠ 0 := k8
      unfold rmS
      have c : ¬ ((14 = 14) ∧ (0 : Int) ≤ k ∧ k < S 20 4 ∧ ilB S a b ((k.toNat : Nat) : Int) = true) := fun w => by
        have w4 := hq8 k.toNat (by show ((k.toNat : Nat) : Int) < S 20 4; omega) w.2.2.2
        rw [show ((k.toNat : Nat) : Int) = k by omega] at w4
        exact k8 w4
      rw [if_neg c]
      exact hL k k0 k1 k8
  have h1 := G3_rp (S := upS S 3 a (S 3 a + p2I b)) (q := fun k => ilB S a b k) hG hq8
  exact ⟨h1.1, FR_14 h1.2 (FR_u3 hF)⟩
theorem GI_close {S : SS} (h : GI S) {a : Int} (ha : 0 ≤ a ∧ a < S 20 1) (hl : fstN (clX S a) (S 20 4).toNat < 0) : GI (rpS (upS S 7 a 1) (fun k => clB S a k)) := by
  obtain ⟨⟨hV, hJ, hL⟩, hF⟩ := h
  have hm := hV.2.1
  unfold Bm at hm
  have hVT : VS (upS S 7 a 1) := VS_u7 hV (by decide) (by decide)
  have hu8 : ∀ k : Int, 0 ≤ k → k < S 20 4 → 0 ≤ S 14 k ∧ S 14 k % 8 = a → S 8 k = 0 := fun k k0 k1 hk => by
    have h5 := fstN_l (clX S a) _ k.toNat (by omega) (Or.inl hl)
    unfold clX at h5
    rw [show ((k.toNat : Nat) : Int) = k by omega, decide_eq_true hk, Bool.true_and, Bool.not_eq_false', decide_eq_true_eq] at h5
    exact h5
  have hq8 : ∀ k : Nat, (k : Int) < upS S 7 a 1 20 4 → clB S a k = true → upS S 7 a 1 8 k = 0 := fun k hk hq => by
    have hk2 : (k : Int) < S 20 4 := hk
    unfold clB at hq
    rw [Bool.and_eq_true, decide_eq_true_eq] at hq
    exact hu8 k (by omega) hk2 hq.1
  have hVr := VS_rm hVT (fun k => clB S a k) (S 20 4).toNat (by show (((S 20 4).toNat : Nat) : Int) ≤ S 20 4; omega)
  rw [show (((S 20 4).toNat : Nat) : Int) = S 20 4 by omega] at hVr
  have hG : G3 (rmS (upS S 7 a 1) (fun k => clB S a k) (S 20 4)) := by
    refine ⟨hVr, fun k k0 k1 kp c c10 c1 hc => ?_, fun k k0 k1 k8 => ?_⟩
    · rw [rmS_g (by decide)] at k1
      have k1 : k < S 20 4 := k1
      have hr := rm_in (S := upS S 7 a 1) (q := fun k => clB S a k) k0 k1 kp
      have hr2 : rmS (upS S 7 a 1) (fun k => clB S a k) (S 20 4) 14 k = S 14 k := hr.2
      have hil : clB S a ((k.toNat : Nat) : Int) = false := hr.1
      rw [show ((k.toNat : Nat) : Int) = k by omega] at hil
      rw [hr2] at kp hc ⊢
      have hg : ∀ f, f ≠ 14 → f ≠ 7 → rmS (upS S 7 a 1) (fun k => clB S a k) (S 20 4) f = S f := fun f hf h3 => by rw [rmS_g hf, upS_g h3]
      rw [hg 20 (by decide) (by decide), hg 8 (by decide) (by decide)]
      by_cases c5 : c = 5 ∧ S 14 k % 8 = a
      · refine ⟨c5.1, ?_, hu8 k k0 k1 ⟨kp, c5.2⟩⟩
        unfold clB at hil
        rw [decide_eq_true (show 0 ≤ S 14 k ∧ S 14 k % 8 = a from ⟨kp, c5.2⟩), Bool.true_and, Bool.not_eq_false', decide_eq_true_eq] at hil
        exact hil
      · have hown : Own S (rmS (upS S 7 a 1) (fun k => clB S a k) (S 20 4)) k (S 14 k % 8) := by
          unfold Own
          rw [hg 12 (by decide) (by decide), hg 10 (by decide) (by decide), hg 9 (by decide) (by decide), hg 11 (by decide) (by decide), hg 1 (by decide) (by decide), hg 2 (by decide) (by decide), hg 0 (by decide) (by decide), hg 5 (by decide) (by decide)]
          exact ⟨rfl, rfl, rfl, rfl, rfl, rfl, rfl, rfl⟩
        have := brP_tr c10 c1 hown (fun j j1 _ jp => by
          rw [hg 20 (by decide) (by decide)] at j1
          unfold Oth
          rw [hg 12 (by decide) (by decide), hg 10 (by decide) (by decide), hg 9 (by decide) (by decide), hg 0 (by decide) (by decide)]
          exact ⟨j1, (rm_in (S := upS S 7 a 1) (q := fun k => clB S a k) (by omega) j1 jp).2, rfl, rfl, rfl, rfl⟩) (fun _ w => by rw [hg 3 (by decide) (by decide)] at w; exact w) (fun w5 w => by
          rw [rmS_g (by decide)] at w
          rw [upS_i (fun w6 => c5 ⟨w5, w6⟩)] at w
          exact w) hc
        exact hJ k k0 k1 kp c c10 c1 this
    · rw [rmS_g (by decide)] at k1 k8
      have k1 : k < S 20 4 := k1
      have k8 : S 8 k ≠ 0 := k8
      unfold rmS
      have c : ¬ ((14 = 14) ∧ (0 : Int) ≤ k ∧ k < S 20 4 ∧ clB S a ((k.toNat : Nat) : Int) = true) := fun w => by
        have w4 := hq8 k.toNat (by show ((k.toNat : Nat) : Int) < S 20 4; omega) w.2.2.2
        rw [show ((k.toNat : Nat) : Int) = k by omega] at w4
        exact k8 w4
      rw [if_neg c]
      exact hL k k0 k1 k8
  have h1 := G3_rp (S := upS S 7 a 1) (q := fun k => clB S a k) hG hq8
  exact ⟨h1.1, FR_14 h1.2 (FR_u7 ha.2 hF)⟩
theorem wk_g {S : SS} {f : Nat} (h4 : f ≠ 4) (h : f ≠ 20) : wkS S f = S f := by
  unfold wkS
  rw [upS_g h, bkS_g S h4]
theorem wk_20 {S : SS} {i : Int} (h : i ≠ 6) : wkS S 20 i = S 20 i := by
  unfold wkS
  rw [upS_i h, bkS_g S (by decide)]
/-- what is barred when the week begins anew is not locked -/
theorem wk_lk {S : SS} (h : G3 S) : ∀ k : Nat, (k : Int) < S 20 4 → brB (wkS S) k = true → S 8 k = 0 := fun k k1 hk => by
  obtain ⟨hV, hJ, hL⟩ := h
  have hm := hV.2.1
  unfold Bm at hm
  have hVw : VS (wkS S) := VS_today (VS_bk hV _) (by decide) (by decide)
  unfold brB at hk
  rw [Bool.and_eq_true, Bool.and_eq_true, decide_eq_true_eq, Bool.not_eq_true', Bool.not_eq_true', decide_eq_false_iff_not, decide_eq_false_iff_not] at hk
  rw [wk_g (by decide) (by decide)] at hk
  obtain ⟨⟨kp, _⟩, hle⟩ := hk
  have hk14 := B14 hV.1 (k : Int)
  have hr := (hV.2.2 k (by omega) k1).2.2.2 kp
  rw [leM_sLt hVw (by omega) (by rw [wk_20 (by decide)]; exact k1) (by omega) (by rw [wk_20 (by decide)]; exact hr.1) (by omega) (by omega)] at hle
  have hex : ∃ b : Nat, b < 10 ∧ brP (wkS S) k (S 14 k % 8) (S 14 k / 8) b := Classical.byContradiction (fun w => hle (by
    rw [← li_0]
    refine bHas_ext (fun b hb => ?_)
    rw [bHas_0 hb]
    cases d : bHas (sLt (wkS S) k (S 14 k / 8) (S 14 k % 8)) (iI (b : Int))
    · rfl
    · have := (sLt_has _ _ _ _ hb).mp d
      exact absurd ⟨b, this⟩ w))
  obtain ⟨b, b10, hb⟩ := hex
  have b1 : b ≠ 1 := fun w => by
    subst w
    have h1 : S 14 k / 8 / 6 < wkS S 20 6 := hb
    have h2 : wkS S 20 6 = 0 := by unfold wkS; rw [upS_s]
    omega
  have hown : Own S (wkS S) k (S 14 k % 8) := by
    unfold Own
    rw [wk_g (by decide) (by decide), wk_g (by decide) (by decide), wk_g (by decide) (by decide), wk_g (by decide) (by decide), wk_g (by decide) (by decide), wk_g (by decide) (by decide), wk_g (by decide) (by decide), wk_g (by decide) (by decide)]
    exact ⟨rfl, rfl, rfl, rfl, rfl, rfl, rfl, rfl⟩
  have := brP_tr b10 b1 hown (fun j j1 _ jp => by
    rw [wk_20 (by decide)] at j1
    unfold Oth
    rw [wk_g (by decide) (by decide), wk_g (by decide) (by decide), wk_g (by decide) (by decide), wk_g (by decide) (by decide), wk_g (by decide) (by decide)]
    exact ⟨j1, rfl, rfl, rfl, rfl, rfl⟩) (fun _ w => by rw [wk_g (by decide) (by decide)] at w; exact w) (fun _ w => by rw [wk_g (by decide) (by decide)] at w; exact w) hb
  exact (hJ k (by omega) k1 kp b b10 b1 this).2.2
theorem bk_in {S : SS} (hV : VS S) {k : Int} (hk : S 20 2 ≤ k) : ∀ n : Nat, (n : Int) ≤ S 20 4 → bkS S n 4 k = S 4 k := by
  intro n
  induction n with
  | zero => intro _; rfl
  | succ n ih =>
    intro hn
    have e : bkS S (n + 1) = if (0 ≤ bkS S n 14 n ∧ (bkS S n 14 n / 8 + bkS S n 12 n) % 6 = 0) ∧ bkS S n 4 (bkS S n 10 n) < 9 then upS (bkS S n) 4 (bkS S n 10 n) (bkS S n 4 (bkS S n 10 n) + 1) else bkS S n := rfl
    rw [e]
    split
    · have h10 : bkS S n 10 n = S 10 n := by rw [bkS_g S (by decide)]
      have := (hV.2.2 n (by omega) (by omega)).2.2.1
      rw [h10, upS_i (by omega)]
      exact ih (by omega)
    · exact ih (by omega)
theorem GI_week {S : SS} (h : GI S) : GI (nwS S) := by
  have hlk := wk_lk h.1
  obtain ⟨⟨hV, hJ, hL⟩, hF⟩ := h
  have hm := hV.2.1
  unfold Bm at hm
  have hVw : VS (wkS S) := VS_today (VS_bk hV _) (by decide) (by decide)
  have w4 : wkS S 20 4 = S 20 4 := wk_20 (by decide)
  have hq8 : ∀ k : Nat, (k : Int) < wkS S 20 4 → brB (wkS S) k = true → wkS S 8 k = 0 := fun k hk hq => by
    rw [wk_g (by decide) (by decide)]
    exact hlk k (by rw [w4] at hk; exact hk) hq
  have hVr := VS_rm hVw (fun k => brB (wkS S) k) (S 20 4).toNat (by rw [w4]; omega)
  rw [show (((S 20 4).toNat : Nat) : Int) = S 20 4 by omega] at hVr
  have hFw : FR (wkS S) := by
    obtain ⟨f5, f7, f8, f4, f6⟩ := hF
    refine ⟨?_, ?_, ?_, fun n hn => ?_, ?_⟩
    · rw [wk_g (f := 5) (by decide) (by decide), wk_20 (by decide)]; exact f5
    · rw [wk_g (f := 7) (by decide) (by decide), wk_20 (by decide)]; exact f7
    · rw [wk_g (f := 8) (by decide) (by decide), wk_g (f := 14) (by decide) (by decide), wk_20 (by decide)]; exact f8
    · rw [wk_20 (by decide)] at hn
      have e : wkS S 4 n = bkS S (S 20 4).toNat 4 n := by unfold wkS; rw [upS_g (by decide)]
      rw [e, bk_in hV hn _ (by omega)]
      exact f4 n hn
    · rw [wk_g (f := 6) (by decide) (by decide), wk_20 (by decide)]; exact f6
  have hG : G3 (rmS (wkS S) (fun k => brB (wkS S) k) (wkS S 20 4)) := by
    rw [w4]
    refine ⟨hVr, fun k k0 k1 kp c c10 c1 hc => ?_, fun k k0 k1 k8 => ?_⟩
    · exfalso
      rw [rmS_g (by decide), w4] at k1
      rw [← w4] at kp hc
      have hr := rm_in (S := wkS S) (q := fun k => brB (wkS S) k) k0 (by rw [w4]; exact k1) kp
      have hil : brB (wkS S) ((k.toNat : Nat) : Int) = false := hr.1
      rw [show ((k.toNat : Nat) : Int) = k by omega] at hil
      rw [hr.2] at kp hc
      have hg : ∀ f, f ≠ 14 → rmS (wkS S) (fun k => brB (wkS S) k) (wkS S 20 4) f = wkS S f := fun f hf => rmS_g hf
      have hown : Own (wkS S) (rmS (wkS S) (fun k => brB (wkS S) k) (wkS S 20 4)) k (wkS S 14 k % 8) := by
        unfold Own
        rw [hg 12 (by decide), hg 10 (by decide), hg 9 (by decide), hg 11 (by decide), hg 1 (by decide), hg 2 (by decide), hg 0 (by decide), hg 5 (by decide)]
        exact ⟨rfl, rfl, rfl, rfl, rfl, rfl, rfl, rfl⟩
      have hb := brP_tr c10 c1 hown (fun j j1 _ jp => by
        rw [hg 20 (by decide)] at j1
        unfold Oth
        rw [hg 12 (by decide), hg 10 (by decide), hg 9 (by decide), hg 0 (by decide)]
        exact ⟨j1, (rm_in (S := wkS S) (q := fun k => brB (wkS S) k) (by omega) j1 jp).2, rfl, rfl, rfl, rfl⟩) (fun _ w => by rw [hg 3 (by decide)] at w; exact w) (fun _ w => by rw [hg 7 (by decide)] at w; exact w) hc
      have hk14 := B14 hVw.1 k
      have hrr := (hVw.2.2 k k0 (by rw [w4]; exact k1)).2.2.2 kp
      unfold brB at hil
      have w6 : wkS S 20 6 = 0 := by unfold wkS; rw [upS_s]
      rw [decide_eq_true kp, decide_eq_false (show ¬ (0 ≤ wkS S 14 k ∧ wkS S 14 k / 8 / 6 < wkS S 20 6) from fun w => by have := w.2; omega), Bool.not_false, Bool.true_and, Bool.true_and, Bool.not_eq_false', decide_eq_true_eq, leM_sLt hVw k0 (by rw [w4]; exact k1) (by omega) hrr.1 (by omega) (by omega), ← li_0] at hil
      exact np_of hil c10 hb
    · rw [rmS_g (by decide), w4] at k1
      rw [rmS_g (by decide), wk_g (by decide) (by decide)] at k8
      unfold rmS
      have c : ¬ ((14 = 14) ∧ (0 : Int) ≤ k ∧ k < S 20 4 ∧ brB (wkS S) ((k.toNat : Nat) : Int) = true) := fun w => by
        have w5 := hlk k.toNat (by omega) w.2.2.2
        rw [show ((k.toNat : Nat) : Int) = k by omega] at w5
        exact k8 w5
      rw [if_neg c, wk_g (by decide) (by decide)]
      exact hL k k0 k1 k8
  have h1 := G3_rp (S := wkS S) (q := fun k => brB (wkS S) k) hG hq8
  have h2 : GI (rpS (wkS S) (fun k => brB (wkS S) k)) := ⟨h1.1, FR_14 h1.2 hFw⟩
  have e : nwS S = upS (rpS (wkS S) (fun k => brB (wkS S) k)) 20 7 (S 20 7 + 1) := rfl
  rw [e]
  generalize rpS (wkS S) (fun k => brB (wkS S) k) = T at *
  obtain ⟨⟨hVt, hJt, hLt⟩, f5, f7, f8, f4, f6⟩ := h2
  refine ⟨⟨VS_weeks hVt, JI_cg (fun f hf _ _ => upS_g (by omega)) (upS_g (by decide)) (upS_i (by decide)) (by rw [upS_i (by decide)]; exact Int.le_refl _) hJt, LI_cg (upS_g (by decide)) (upS_g (by decide)) (upS_i (by decide)) hLt⟩, ?_, ?_, ?_, ?_, ?_⟩
  · exact f5
  · exact f7
  · exact f8
  · exact f4
  · exact f6
theorem GI_rs {S : SS} (h : GI S) (a : Int) : GI (rsS S a) := GI_14 h (G3_set h.1 (fun k => S 16 (16 * a + k)) (fun k _ => B16 h.1.1.1 _))
theorem GI_mg {S : SS} (h : GI S) (a b : Int) : GI (mgS S a b) := GI_14 h (G3_set h.1 (fun k => mgT S a b k) (fun k _ => by
  have h3 := B16 h.1.1.1 (16 * b + k)
  have h4 := B14 h.1.1.1 (k : Int)
  unfold mgT
  split <;> omega))
/-- no lesson is told as broken -/
theorem GI_br {S : SS} (h : GI S) : ∀ k : Nat, k < (S 20 4).toNat → brB S k = false := fun k hk => by
  obtain ⟨⟨hV, hJ, hL⟩, hF⟩ := h
  have hm := hV.2.1
  unfold Bm at hm
  cases d : brB S k
  · rfl
  · exfalso
    unfold brB at d
    rw [Bool.and_eq_true, Bool.and_eq_true, decide_eq_true_eq, Bool.not_eq_true', Bool.not_eq_true', decide_eq_false_iff_not, decide_eq_false_iff_not] at d
    obtain ⟨⟨kp, kn⟩, hle⟩ := d
    have hk14 := B14 hV.1 (k : Int)
    have hr := (hV.2.2 k (by omega) (by omega)).2.2.2 kp
    rw [leM_sLt hV (by omega) (by omega) (by omega) hr.1 (by omega) (by omega)] at hle
    have hex : ∃ b : Nat, b < 10 ∧ brP S k (S 14 k % 8) (S 14 k / 8) b := Classical.byContradiction (fun w => hle (by
      rw [← li_0]
      refine bHas_ext (fun b hb => ?_)
      rw [bHas_0 hb]
      cases d : bHas (sLt S k (S 14 k / 8) (S 14 k % 8)) (iI (b : Int))
      · rfl
      · have := (sLt_has _ _ _ _ hb).mp d
        exact absurd ⟨b, this⟩ w))
    obtain ⟨b, b10, hb⟩ := hex
    by_cases b1 : b = 1
    · subst b1
      have h1 : S 14 k / 8 / 6 < S 20 6 := hb
      exact kn ⟨kp, h1⟩
    · exact kn ⟨kp, (hJ k (by omega) (by omega) kp b b10 b1 hb).2.1⟩
