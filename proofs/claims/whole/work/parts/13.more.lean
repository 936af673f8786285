/-! numbers without a wrap -/
theorem i32_add {x y : Int32} (h : -2147483648 ≤ x.toInt + y.toInt ∧ x.toInt + y.toInt < 2147483648) : (x + y).toInt = x.toInt + y.toInt := by
  rw [Int32.toInt_add]
  simp only [Int.bmod]
  split <;> omega
theorem i32_sub {x y : Int32} (h : -2147483648 ≤ x.toInt - y.toInt ∧ x.toInt - y.toInt < 2147483648) : (x - y).toInt = x.toInt - y.toInt := by
  rw [Int32.toInt_sub]
  simp only [Int.bmod]
  split <;> omega
theorem i32_mul {x y : Int32} (h : -2147483648 ≤ x.toInt * y.toInt ∧ x.toInt * y.toInt < 2147483648) : (x * y).toInt = x.toInt * y.toInt := by
  rw [Int32.toInt_mul]
  simp only [Int.bmod]
  split <;> omega
theorem i64_add {x y : Int64} (h : -9223372036854775808 ≤ x.toInt + y.toInt ∧ x.toInt + y.toInt < 9223372036854775808) : (x + y).toInt = x.toInt + y.toInt := by
  rw [Int64.toInt_add]
  simp only [Int.bmod]
  split <;> omega
theorem i64_sub {x y : Int64} (h : -9223372036854775808 ≤ x.toInt - y.toInt ∧ x.toInt - y.toInt < 9223372036854775808) : (x - y).toInt = x.toInt - y.toInt := by
  rw [Int64.toInt_sub]
  simp only [Int.bmod]
  split <;> omega
theorem i64_of (x : Int32) : x.toInt64.toInt = x.toInt := Int32.toInt_toInt64 x
theorem i32_rng (x : Int32) : -2147483648 ≤ x.toInt ∧ x.toInt < 2147483648 := ⟨Int32.le_toInt x, Int32.toInt_lt x⟩
theorem i64_m1 (x : Int32) : (x.toInt64 - 1).toInt = x.toInt - 1 := by
  have h := i32_rng x
  rw [i64_sub (by rw [i64_of]; simp; omega), i64_of]
  rfl
theorem r_isSpan {d : Nat} {x y : Int32} {h : zH} {Q : zQ} (h1 : 0 ≤ x.toInt ∧ x.toInt ≤ y.toInt ∧ y.toInt ≤ 2399 → Q (some (.int 1)) h) (h0 : ¬ (0 ≤ x.toInt ∧ x.toInt ≤ y.toInt ∧ y.toInt ≤ 2399) → Q (some (.int 0)) h) : zG (d + 3) 3 [.int x, .int y] h Q := by
  refine g_3 (Nat.le_of_ble_eq_true rfl) ?_
  intro X hX
  iterate 2 refine hX _ _ _ _ ?_
  refine r_isHour (fun c1 => ?_) (fun c1 => ?_)
  · refine hX _ _ _ _ ?_
    refine And.intro (fun c => absurd c (by decide)) (fun _ => ?_)
    iterate 2 refine hX _ _ _ _ ?_
    refine r_isHour (fun c2 => ?_) (fun c2 => ?_)
    · refine hX _ _ _ _ ?_
      refine And.intro (fun c => absurd c (by decide)) (fun _ => ?_)
      iterate 3 refine hX _ _ _ _ ?_
      refine And.intro (fun c3 => ?_) (fun c3 => ?_)
      · iterate 2 refine hX _ _ _ _ ?_
        exact And.intro (Or.inl rfl) (h0 (by rw [fa_lt] at c3; omega))
      · iterate 3 refine hX _ _ _ _ ?_
        exact And.intro (Or.inr rfl) (h1 (by rw [fa_lt] at c3; omega))
    · refine hX _ _ _ _ ?_
      refine And.intro (fun _ => ?_) (fun c => absurd c (by decide))
      iterate 2 refine hX _ _ _ _ ?_
      exact And.intro (Or.inl rfl) (h0 (by omega))
  · refine hX _ _ _ _ ?_
    refine And.intro (fun _ => ?_) (fun c => absurd c (by decide))
    iterate 2 refine hX _ _ _ _ ?_
    exact And.intro (Or.inl rfl) (h0 (by omega))
