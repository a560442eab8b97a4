/-! PURE LAYER: the two quotients -/
def fQ (i n : Int) : UInt32 := FP.fdiv (FP.i2f (iI i)) (FP.i2f (iI n))
def dQ (i n : Int) : UInt64 := FP.ddiv (FP.i2d (iI i)) (FP.i2d (iI n))
set_option maxRecDepth 100000 in
theorem fl_ok : ∀ i : Fin 17, ∀ n : Fin 16, (fQ (i.val : Int) ((n.val : Int) + 1) &&& 0x7fffffff ≤ 0x7f800000) ∧ vf_n64 (FP.f2d (fQ (i.val : Int) ((n.val : Int) + 1))) ∧ Op.cmpValue (FP.dcmp (FP.f2d (fQ (i.val : Int) ((n.val : Int) + 1))) (FP.f2d (fQ (i.val : Int) ((n.val : Int) + 1)))) .l = 0 := by
  unfold vf_n64
  decide +kernel
set_option maxRecDepth 100000 in
theorem db_ok1 : ∀ h : Fin 5, ∀ m : Fin 64, (dQ (64 * (h.val : Int) + (m.val : Int)) 1 &&& 0x7fffffffffffffff ≤ 0x7ff0000000000000) ∧ Op.cmpValue (FP.dcmp (dQ (64 * (h.val : Int) + (m.val : Int)) 1) (dQ (64 * (h.val : Int) + (m.val : Int)) 1)) .l = 0 := by decide +kernel
set_option maxRecDepth 100000 in
theorem db_ok2 : ∀ h : Fin 9, ∀ m : Fin 64, (dQ (64 * (h.val : Int) + (m.val : Int)) 2 &&& 0x7fffffffffffffff ≤ 0x7ff0000000000000) ∧ Op.cmpValue (FP.dcmp (dQ (64 * (h.val : Int) + (m.val : Int)) 2) (dQ (64 * (h.val : Int) + (m.val : Int)) 2)) .l = 0 := by decide +kernel
set_option maxRecDepth 100000 in
theorem db_ok3 : ∀ h : Fin 13, ∀ m : Fin 64, (dQ (64 * (h.val : Int) + (m.val : Int)) 3 &&& 0x7fffffffffffffff ≤ 0x7ff0000000000000) ∧ Op.cmpValue (FP.dcmp (dQ (64 * (h.val : Int) + (m.val : Int)) 3) (dQ (64 * (h.val : Int) + (m.val : Int)) 3)) .l = 0 := by decide +kernel
set_option maxRecDepth 100000 in
theorem db_ok4 : ∀ h : Fin 17, ∀ m : Fin 64, (dQ (64 * (h.val : Int) + (m.val : Int)) 4 &&& 0x7fffffffffffffff ≤ 0x7ff0000000000000) ∧ Op.cmpValue (FP.dcmp (dQ (64 * (h.val : Int) + (m.val : Int)) 4) (dQ (64 * (h.val : Int) + (m.val : Int)) 4)) .l = 0 := by decide +kernel
set_option maxRecDepth 100000 in
theorem db_ok5 : ∀ h : Fin 21, ∀ m : Fin 64, (dQ (64 * (h.val : Int) + (m.val : Int)) 5 &&& 0x7fffffffffffffff ≤ 0x7ff0000000000000) ∧ Op.cmpValue (FP.dcmp (dQ (64 * (h.val : Int) + (m.val : Int)) 5) (dQ (64 * (h.val : Int) + (m.val : Int)) 5)) .l = 0 := by decide +kernel
set_option maxRecDepth 100000 in
theorem db_ok6 : ∀ h : Fin 25, ∀ m : Fin 64, (dQ (64 * (h.val : Int) + (m.val : Int)) 6 &&& 0x7fffffffffffffff ≤ 0x7ff0000000000000) ∧ Op.cmpValue (FP.dcmp (dQ (64 * (h.val : Int) + (m.val : Int)) 6) (dQ (64 * (h.val : Int) + (m.val : Int)) 6)) .l = 0 := by decide +kernel
set_option maxRecDepth 100000 in
theorem db_ok7 : ∀ h : Fin 29, ∀ m : Fin 64, (dQ (64 * (h.val : Int) + (m.val : Int)) 7 &&& 0x7fffffffffffffff ≤ 0x7ff0000000000000) ∧ Op.cmpValue (FP.dcmp (dQ (64 * (h.val : Int) + (m.val : Int)) 7) (dQ (64 * (h.val : Int) + (m.val : Int)) 7)) .l = 0 := by decide +kernel
set_option maxRecDepth 100000 in
theorem db_ok8 : ∀ h : Fin 33, ∀ m : Fin 64, (dQ (64 * (h.val : Int) + (m.val : Int)) 8 &&& 0x7fffffffffffffff ≤ 0x7ff0000000000000) ∧ Op.cmpValue (FP.dcmp (dQ (64 * (h.val : Int) + (m.val : Int)) 8) (dQ (64 * (h.val : Int) + (m.val : Int)) 8)) .l = 0 := by decide +kernel
set_option maxRecDepth 100000 in
theorem db_ok9 : ∀ h : Fin 37, ∀ m : Fin 64, (dQ (64 * (h.val : Int) + (m.val : Int)) 9 &&& 0x7fffffffffffffff ≤ 0x7ff0000000000000) ∧ Op.cmpValue (FP.dcmp (dQ (64 * (h.val : Int) + (m.val : Int)) 9) (dQ (64 * (h.val : Int) + (m.val : Int)) 9)) .l = 0 := by decide +kernel
set_option maxRecDepth 100000 in
theorem db_ok10 : ∀ h : Fin 41, ∀ m : Fin 64, (dQ (64 * (h.val : Int) + (m.val : Int)) 10 &&& 0x7fffffffffffffff ≤ 0x7ff0000000000000) ∧ Op.cmpValue (FP.dcmp (dQ (64 * (h.val : Int) + (m.val : Int)) 10) (dQ (64 * (h.val : Int) + (m.val : Int)) 10)) .l = 0 := by decide +kernel
set_option maxRecDepth 100000 in
theorem db_ok11 : ∀ h : Fin 45, ∀ m : Fin 64, (dQ (64 * (h.val : Int) + (m.val : Int)) 11 &&& 0x7fffffffffffffff ≤ 0x7ff0000000000000) ∧ Op.cmpValue (FP.dcmp (dQ (64 * (h.val : Int) + (m.val : Int)) 11) (dQ (64 * (h.val : Int) + (m.val : Int)) 11)) .l = 0 := by decide +kernel
set_option maxRecDepth 100000 in
theorem db_ok12 : ∀ h : Fin 49, ∀ m : Fin 64, (dQ (64 * (h.val : Int) + (m.val : Int)) 12 &&& 0x7fffffffffffffff ≤ 0x7ff0000000000000) ∧ Op.cmpValue (FP.dcmp (dQ (64 * (h.val : Int) + (m.val : Int)) 12) (dQ (64 * (h.val : Int) + (m.val : Int)) 12)) .l = 0 := by decide +kernel
set_option maxRecDepth 100000 in
theorem db_ok13 : ∀ h : Fin 53, ∀ m : Fin 64, (dQ (64 * (h.val : Int) + (m.val : Int)) 13 &&& 0x7fffffffffffffff ≤ 0x7ff0000000000000) ∧ Op.cmpValue (FP.dcmp (dQ (64 * (h.val : Int) + (m.val : Int)) 13) (dQ (64 * (h.val : Int) + (m.val : Int)) 13)) .l = 0 := by decide +kernel
set_option maxRecDepth 100000 in
theorem db_ok14 : ∀ h : Fin 57, ∀ m : Fin 64, (dQ (64 * (h.val : Int) + (m.val : Int)) 14 &&& 0x7fffffffffffffff ≤ 0x7ff0000000000000) ∧ Op.cmpValue (FP.dcmp (dQ (64 * (h.val : Int) + (m.val : Int)) 14) (dQ (64 * (h.val : Int) + (m.val : Int)) 14)) .l = 0 := by decide +kernel
set_option maxRecDepth 100000 in
theorem db_ok15 : ∀ h : Fin 61, ∀ m : Fin 64, (dQ (64 * (h.val : Int) + (m.val : Int)) 15 &&& 0x7fffffffffffffff ≤ 0x7ff0000000000000) ∧ Op.cmpValue (FP.dcmp (dQ (64 * (h.val : Int) + (m.val : Int)) 15) (dQ (64 * (h.val : Int) + (m.val : Int)) 15)) .l = 0 := by decide +kernel
set_option maxRecDepth 100000 in
theorem db_ok16 : ∀ h : Fin 65, ∀ m : Fin 64, (dQ (64 * (h.val : Int) + (m.val : Int)) 16 &&& 0x7fffffffffffffff ≤ 0x7ff0000000000000) ∧ Op.cmpValue (FP.dcmp (dQ (64 * (h.val : Int) + (m.val : Int)) 16) (dQ (64 * (h.val : Int) + (m.val : Int)) 16)) .l = 0 := by decide +kernel
theorem fl_okI {i n : Int} (i0 : 0 ≤ i) (i1 : i ≤ 16) (n0 : 1 ≤ n) (n1 : n ≤ 16) : (fQ i n &&& 0x7fffffff ≤ 0x7f800000) ∧ vf_n64 (FP.f2d (fQ i n)) ∧ Op.cmpValue (FP.dcmp (FP.f2d (fQ i n)) (FP.f2d (fQ i n))) .l = 0 := by
  have h := fl_ok ⟨i.toNat, by omega⟩ ⟨(n - 1).toNat, by omega⟩
  simp only at h
  rw [show ((i.toNat : Nat) : Int) = i by omega, show (((n - 1).toNat : Nat) : Int) + 1 = n by omega] at h
  exact h
theorem db_okI {i n : Int} (i0 : 0 ≤ i) (i1 : i ≤ 256 * n) (n0 : 1 ≤ n) (n1 : n ≤ 16) : vf_n64 (dQ i n) ∧ Op.cmpValue (FP.dcmp (dQ i n) (dQ i n)) .l = 0 := by
  unfold vf_n64
  have e : i = 64 * (((i / 64).toNat : Nat) : Int) + (((i % 64).toNat : Nat) : Int) := by omega
  rcases (show n = 1 ∨ n = 2 ∨ n = 3 ∨ n = 4 ∨ n = 5 ∨ n = 6 ∨ n = 7 ∨ n = 8 ∨ n = 9 ∨ n = 10 ∨ n = 11 ∨ n = 12 ∨ n = 13 ∨ n = 14 ∨ n = 15 ∨ n = 16 by omega) with rfl | rfl | rfl | rfl | rfl | rfl | rfl | rfl | rfl | rfl | rfl | rfl | rfl | rfl | rfl | rfl
  · have h := db_ok1 ⟨(i / 64).toNat, by omega⟩ ⟨(i % 64).toNat, by omega⟩
    simp only at h
    rw [← e] at h
    exact h
  · have h := db_ok2 ⟨(i / 64).toNat, by omega⟩ ⟨(i % 64).toNat, by omega⟩
    simp only at h
    rw [← e] at h
    exact h
  · have h := db_ok3 ⟨(i / 64).toNat, by omega⟩ ⟨(i % 64).toNat, by omega⟩
    simp only at h
    rw [← e] at h
    exact h
  · have h := db_ok4 ⟨(i / 64).toNat, by omega⟩ ⟨(i % 64).toNat, by omega⟩
    simp only at h
    rw [← e] at h
    exact h
  · have h := db_ok5 ⟨(i / 64).toNat, by omega⟩ ⟨(i % 64).toNat, by omega⟩
    simp only at h
    rw [← e] at h
    exact h
  · have h := db_ok6 ⟨(i / 64).toNat, by omega⟩ ⟨(i % 64).toNat, by omega⟩
    simp only at h
    rw [← e] at h
    exact h
  · have h := db_ok7 ⟨(i / 64).toNat, by omega⟩ ⟨(i % 64).toNat, by omega⟩
    simp only at h
    rw [← e] at h
    exact h
  · have h := db_ok8 ⟨(i / 64).toNat, by omega⟩ ⟨(i % 64).toNat, by omega⟩
    simp only at h
    rw [← e] at h
    exact h
  · have h := db_ok9 ⟨(i / 64).toNat, by omega⟩ ⟨(i % 64).toNat, by omega⟩
    simp only at h
    rw [← e] at h
    exact h
  · have h := db_ok10 ⟨(i / 64).toNat, by omega⟩ ⟨(i % 64).toNat, by omega⟩
    simp only at h
    rw [← e] at h
    exact h
  · have h := db_ok11 ⟨(i / 64).toNat, by omega⟩ ⟨(i % 64).toNat, by omega⟩
    simp only at h
    rw [← e] at h
    exact h
  · have h := db_ok12 ⟨(i / 64).toNat, by omega⟩ ⟨(i % 64).toNat, by omega⟩
    simp only at h
    rw [← e] at h
    exact h
  · have h := db_ok13 ⟨(i / 64).toNat, by omega⟩ ⟨(i % 64).toNat, by omega⟩
    simp only at h
    rw [← e] at h
    exact h
  · have h := db_ok14 ⟨(i / 64).toNat, by omega⟩ ⟨(i % 64).toNat, by omega⟩
    simp only at h
    rw [← e] at h
    exact h
  · have h := db_ok15 ⟨(i / 64).toNat, by omega⟩ ⟨(i % 64).toNat, by omega⟩
    simp only at h
    rw [← e] at h
    exact h
  · have h := db_ok16 ⟨(i / 64).toNat, by omega⟩ ⟨(i % 64).toNat, by omega⟩
    simp only at h
    rw [← e] at h
    exact h
