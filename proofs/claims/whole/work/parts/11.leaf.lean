/-! LEAVES: the range tests, the codes -/
theorem fa_lt (a b : Int32) : a < b ↔ a.toInt < b.toInt := Int32.lt_iff_toInt_lt
theorem fa_le (a b : Int32) : a ≤ b ↔ a.toInt ≤ b.toInt := Int32.le_iff_toInt_le
theorem fa_eq (a b : Int32) : a = b ↔ a.toInt = b.toInt := Int32.toInt_inj.symm
theorem fa_ltL (a b : Int64) : a < b ↔ a.toInt < b.toInt := Int64.lt_iff_toInt_lt
theorem fa_leL (a b : Int64) : a ≤ b ↔ a.toInt ≤ b.toInt := Int64.le_iff_toInt_le
theorem r_within {d : Nat} {x lo hi : Int32} {h : zH} {Q : zQ} (A B : Int) (eA : lo.toInt = A) (eB : hi.toInt = B) (h1 : A ≤ x.toInt ∧ x.toInt ≤ B → Q (some (.int 1)) h) (h0 : ¬ (A ≤ x.toInt ∧ x.toInt ≤ B) → Q (some (.int 0)) h) : zG (d + 1) 0 [.int x, .int lo, .int hi] h Q := by
  refine g_0 (Nat.le_of_ble_eq_true rfl) ?_
  intro X hX
  iterate 3 refine hX _ _ _ _ ?_
  refine And.intro (fun c1 => ?_) (fun c1 => ?_)
  · iterate 2 refine hX _ _ _ _ ?_
    exact And.intro (Or.inl rfl) (h0 (by rw [fa_lt] at c1; omega))
  · iterate 3 refine hX _ _ _ _ ?_
    refine And.intro (fun c2 => ?_) (fun c2 => ?_)
    · iterate 2 refine hX _ _ _ _ ?_
      exact And.intro (Or.inl rfl) (h0 (by rw [fa_lt] at c2; omega))
    · iterate 3 refine hX _ _ _ _ ?_
      exact And.intro (Or.inr rfl) (h1 (by rw [fa_lt] at c1 c2; omega))
