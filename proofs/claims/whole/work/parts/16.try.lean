theorem cl_int (x : Int32) (h : 0 ≤ x.toInt) : ((x.toNatClampNeg : Nat) : Int) = x.toInt := by
  show ((x.toInt.toNat : Nat) : Int) = x.toInt
  omega
theorem i32_m12 (x : Int32) (h : 0 ≤ x.toInt ∧ x.toInt ≤ 5) : (x * 12).toInt = x.toInt * 12 := by
  rw [i32_mul (by simp; omega)]; simp
theorem i32_12m (x : Int32) (h : 0 ≤ x.toInt ∧ x.toInt ≤ 5) : (12 * x).toInt = x.toInt * 12 := by
  rw [i32_mul (by simp; omega)]; simp; omega
theorem ix12 (x y : Int32) (h : 0 ≤ x.toInt ∧ x.toInt ≤ 5) (h2 : 0 ≤ y.toInt ∧ y.toInt ≤ 12) : (x * 12 + y).toInt = x.toInt * 12 + y.toInt := by
  rw [i32_add (by rw [i32_m12 x h]; omega), i32_m12 x h]
theorem ix12' (x y : Int32) (h : 0 ≤ x.toInt ∧ x.toInt ≤ 5) (h2 : 0 ≤ y.toInt ∧ y.toInt ≤ 12) : (12 * x + y).toInt = x.toInt * 12 + y.toInt := by
  rw [i32_add (by rw [i32_12m x h]; omega), i32_12m x h]
