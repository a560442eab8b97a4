/-! PURE LAYER: both ways of what lacks agree -/
theorem ly_mx {S : SS} (h : GI S) {c : Int} (c0 : 0 ≤ c) (c1 : c < 4) : lyS S c (S 20 4).toNat (fun _ => 0) (fun _ => false) 0 = mxI S c 100 := by
  sorry
theorem lb_mx {S : SS} (h : GI S) {c : Int} (c0 : 0 ≤ c) (c1 : c < 4) : lbN S c (S 20 1).toNat = mxI S c 100 := by
  sorry
