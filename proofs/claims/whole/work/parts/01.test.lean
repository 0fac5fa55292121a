theorem tt1 (x : Int32) (h : x < 10) (h0 : 0 ≤ x) : x + 1 ≤ 10 := by grind
theorem tt2 (x y : Int32) (h : x < 10) (h0 : 0 ≤ x) (hy : y < 60) (hy0 : 0 ≤ y) : 0 ≤ y + x * 2 := by grind
theorem tt3 (x : Int32) (h : x < 10) (h0 : 0 ≤ x) : x.toNatClampNeg < 10 := by grind
theorem tt4 (x b : Int32) : (x + 2 * b) + 2 = x + 2 * (b + 1) := by grind
theorem tt5 (x y z : Int32) : (x + y) * z = z * y + x * z := by grind
theorem tt6 (k : Nat) (h : k < 100) : Int32.ofNat k < 100 := by grind
theorem tt7 (x : Int32) (h : ¬ x < 0) (h2 : ¬ 12 ≤ x) : ¬ (x < 0 ∨ 12 ≤ x.toNatClampNeg) := by grind
