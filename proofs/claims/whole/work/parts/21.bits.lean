/-! PURE LAYER: sets of slots -/
def bHas (x i : Int32) : Bool := decide ¬ ((ushr x i) &&& (1 : Int32)) = 0
def bZ (b : Bool) : Int32 := if b then 1 else 0
theorem e_has (x i : Int32) (hs : Hs) : f_X8_has x i hs = some (.ok (bZ (bHas x i)), hs) := by
  unfold f_X8_has bHas bZ
  by_cases h : ((ushr x i) &&& (1 : Int32)) = 0
  · rw [if_pos h]; simp [h]; rfl
  · rw [if_neg h]; simp [h]; rfl
def mtL : Nat → Int32 → Int32 → Int32
  | 0, s, _ => s
  | n + 1, s, a => mtL n (s ||| a) (ushr (a &&& (-17043522 : Int32)) (1 : Int32))
def hrs (len fr : Nat) : Int32 := ((((1 : Int32) <<< (iI len &&& 31)) - 1) <<< (iI fr &&& 31)) &&& ((63 : Int32) <<< (iI ((fr - fr % 6 : Nat)) &&& 31))
def enF (len s : Nat) : Nat := if s + len < 6 * (s / 6) + 6 then s + len else 6 * (s / 6) + 6
def tch (len os ol : Nat) : Int32 := (if os % 6 + ol < 6 then (1 : Int32) <<< (iI ((os + ol : Nat)) &&& 31) else 0) ||| (if len ≤ os % 6 then (1 : Int32) <<< (iI ((os - len : Nat)) &&& 31) else 0)
def lastH : Int32 := 545392672
set_option maxRecDepth 100000 in
theorem mt_has : ∀ l1 : Fin 3, ∀ l2 : Fin 3, ∀ s2 : Fin 30, ∀ s : Fin 30, s2.val % 6 + (l2.val + 1) ≤ 6 → bHas (mtL (l1.val + 1) 0 (hrs (l2.val + 1) s2)) (iI (s.val : Int)) = (decide (s2.val < enF (l1.val + 1) s) && decide (s.val < s2.val + (l2.val + 1))) := by decide +kernel
set_option maxRecDepth 100000 in
theorem tc_has : ∀ l1 : Fin 3, ∀ l2 : Fin 3, ∀ s2 : Fin 30, ∀ s : Fin 30, s2.val % 6 + (l2.val + 1) ≤ 6 → bHas (tch (l1.val + 1) s2 (l2.val + 1)) (iI (s.val : Int)) = (decide (s2.val / 6 = s.val / 6) && (decide (s2.val + (l2.val + 1) = s.val) || decide (s2.val = enF (l1.val + 1) s))) := by decide +kernel
set_option maxRecDepth 100000 in
theorem pa_has : ∀ d : Fin 5, ∀ s : Fin 30, bHas (((1 : Int32) <<< (((6 : Int32) * iI (d.val : Int)) &&& 31)) - 1) (iI (s.val : Int)) = decide (s.val / 6 < d.val) := by decide +kernel
set_option maxRecDepth 100000 in
theorem one_has : ∀ k : Fin 30, ∀ s : Fin 30, bHas ((1 : Int32) <<< (iI (k.val : Int) &&& 31)) (iI (s.val : Int)) = decide (s.val = k.val) := by decide +kernel
set_option maxRecDepth 100000 in
theorem tl_has : ∀ l : Fin 3, ∀ s : Fin 30, bHas (mtL l.val 0 lastH) (iI (s.val : Int)) = decide (6 < s.val % 6 + (l.val + 1)) := by decide +kernel
set_option maxRecDepth 100000 in
theorem hr_has : ∀ l : Fin 3, ∀ s : Fin 30, ∀ j : Fin 30, bHas (hrs (l.val + 1) s) (iI (j.val : Int)) = (decide (s.val ≤ j.val) && decide (j.val < enF (l.val + 1) s)) := by decide +kernel
set_option maxRecDepth 100000 in
theorem la_has : ∀ l : Fin 3, ∀ s : Fin 30, s.val % 6 + (l.val + 1) ≤ 6 → (decide ((hrs (l.val + 1) s) &&& lastH = 0)) = !decide ((s.val + (l.val + 1)) % 6 = 0) := by decide +kernel
theorem ushr_s (x : Int32) : ∀ s : Nat, s < 32 → ushr x (iI (s : Int)) = Int32.ofBitVec (x.toBitVec >>> s)
  | 0, _ => rfl
  | 1, _ => rfl
  | 2, _ => rfl
  | 3, _ => rfl
  | 4, _ => rfl
  | 5, _ => rfl
  | 6, _ => rfl
  | 7, _ => rfl
  | 8, _ => rfl
  | 9, _ => rfl
  | 10, _ => rfl
  | 11, _ => rfl
  | 12, _ => rfl
  | 13, _ => rfl
  | 14, _ => rfl
  | 15, _ => rfl
  | 16, _ => rfl
  | 17, _ => rfl
  | 18, _ => rfl
  | 19, _ => rfl
  | 20, _ => rfl
  | 21, _ => rfl
  | 22, _ => rfl
  | 23, _ => rfl
  | 24, _ => rfl
  | 25, _ => rfl
  | 26, _ => rfl
  | 27, _ => rfl
  | 28, _ => rfl
  | 29, _ => rfl
  | 30, _ => rfl
  | 31, _ => rfl
  | n + 32, h => absurd h (by omega)
theorem bHas_bit (x : Int32) {s : Nat} (h : s < 32) : bHas x (iI (s : Int)) = x.toBitVec.getLsbD s := by
  unfold bHas
  rw [ushr_s x s h]
  have h1 : ((Int32.ofBitVec (x.toBitVec >>> s) &&& (1 : Int32)) = 0) ↔ (x.toBitVec >>> s) &&& 1#32 = 0#32 := by
    rw [← Int32.toBitVec_inj]
    rfl
  have h2 : (x.toBitVec >>> s) &&& 1#32 = (BitVec.ofBool (x.toBitVec.getLsbD s)).setWidth 32 := by
    rw [BitVec.and_one_eq_setWidth_ofBool_getLsbD, BitVec.getLsbD_ushiftRight]
    simp
  have h3 : (decide ¬ (Int32.ofBitVec (x.toBitVec >>> s) &&& (1 : Int32)) = 0) = decide ¬ ((BitVec.ofBool (x.toBitVec.getLsbD s)).setWidth 32 = 0#32) := decide_eq_decide.mpr (not_congr (h1.trans (by rw [h2])))
  rw [h3]
  by_cases hb : x.toBitVec.getLsbD s = true
  · simp only [hb]
    decide
  · have hb2 : x.toBitVec.getLsbD s = false := by simpa using hb
    simp only [hb2]
    decide
theorem bHas_or (x y : Int32) {s : Nat} (h : s < 32) : bHas (x ||| y) (iI (s : Int)) = (bHas x (iI (s : Int)) || bHas y (iI (s : Int))) := by
  rw [bHas_bit _ h, bHas_bit _ h, bHas_bit _ h, Int32.toBitVec_or, BitVec.getLsbD_or]
theorem bHas_and (x y : Int32) {s : Nat} (h : s < 32) : bHas (x &&& y) (iI (s : Int)) = (bHas x (iI (s : Int)) && bHas y (iI (s : Int))) := by
  rw [bHas_bit _ h, bHas_bit _ h, bHas_bit _ h, Int32.toBitVec_and, BitVec.getLsbD_and]
theorem bHas_not (x : Int32) {s : Nat} (h : s < 32) : bHas (x ^^^ (-1 : Int32)) (iI (s : Int)) = !bHas x (iI (s : Int)) := by
  rw [bHas_bit _ h, bHas_bit _ h, Int32.toBitVec_xor, BitVec.getLsbD_xor]
  have : (-1 : Int32).toBitVec.getLsbD s = true := by
    have h0 : (-1 : Int32).toBitVec = BitVec.allOnes 32 := by decide
    rw [h0, BitVec.getLsbD_allOnes]
    exact decide_eq_true h
  rw [this]
  simp
theorem bHas_0 {s : Nat} (h : s < 32) : bHas 0 (iI (s : Int)) = false := by
  rw [bHas_bit _ h]
  simp
theorem bHas_ext {x y : Int32} (h : ∀ s : Nat, s < 32 → bHas x (iI (s : Int)) = bHas y (iI (s : Int))) : x = y := by
  apply Int32.toBitVec_inj.mp
  apply BitVec.eq_of_getLsbD_eq
  intro i hi
  rw [← bHas_bit x hi, ← bHas_bit y hi]
  exact h i hi
