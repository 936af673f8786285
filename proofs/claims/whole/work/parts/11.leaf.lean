/-! LEAVES: the range tests, the codes -/
theorem fa_lt (a b : Int32) : a < b ↔ a.toInt < b.toInt := Int32.lt_iff_toInt_lt
theorem fa_le (a b : Int32) : a ≤ b ↔ a.toInt ≤ b.toInt := Int32.le_iff_toInt_le
theorem fa_eq (a b : Int32) : a = b ↔ a.toInt = b.toInt := Int32.toInt_inj.symm
theorem fa_ltL (a b : Int64) : a < b ↔ a.toInt < b.toInt := Int64.lt_iff_toInt_lt
theorem fa_leL (a b : Int64) : a ≤ b ↔ a.toInt ≤ b.toInt := Int64.le_iff_toInt_le
theorem r_within {d : Nat} {x lo hi : Int32} {h : zH} {Q : zQ} (A B : Int) (eA : lo.toInt = A) (eB : hi.toInt = B) (h1 : A ≤ x.toInt ∧ x.toInt ≤ B → Q (some (.int 1)) h) (h0 : ¬ (A ≤ x.toInt ∧ x.toInt ≤ B) → Q (some (.int 0)) h) : zG (d + 1) 0 [.int x, .int lo, .int hi] h Q := by
  refine g_0 (Nat.le_of_ble_eq_true rfl) ?_
  intro X hX
  iterate 3 refine hX _ _ _ _ ?_
  refine And.intro (fun c1 => ?_) (fun c1 => ?_)
  · iterate 2 refine hX _ _ _ _ ?_
    exact And.intro (Or.inl rfl) (h0 (by rw [fa_lt] at c1; omega))
  · iterate 3 refine hX _ _ _ _ ?_
    refine And.intro (fun c2 => ?_) (fun c2 => ?_)
    · iterate 2 refine hX _ _ _ _ ?_
      exact And.intro (Or.inl rfl) (h0 (by rw [fa_lt] at c2; omega))
    · iterate 3 refine hX _ _ _ _ ?_
      exact And.intro (Or.inr rfl) (h1 (by rw [fa_lt] at c1 c2; omega))
theorem r_in {d : Nat} {x : Int32} {lo hi : Int64} {h : zH} {Q : zQ} (A B : Int) (eA : lo.toInt = A) (eB : hi.toInt = B) (h1 : A ≤ x.toInt ∧ x.toInt ≤ B → Q (some (.int 1)) h) (h0 : ¬ (A ≤ x.toInt ∧ x.toInt ≤ B) → Q (some (.int 0)) h) : zG (d + 1) 105 [.long x.toInt64, .long lo, .long hi] h Q := by
  have ex : x.toInt64.toInt = x.toInt := Int32.toInt_toInt64 x
  refine g_105 (Nat.le_of_ble_eq_true rfl) ?_
  intro X hX
  iterate 4 refine hX _ _ _ _ ?_
  refine And.intro (fun c1 => ?_) (fun c1 => ?_)
  · iterate 2 refine hX _ _ _ _ ?_
    exact And.intro (Or.inl rfl) (h0 (by rw [lg_cmp_lt, fa_ltL] at c1; omega))
  · iterate 4 refine hX _ _ _ _ ?_
    refine And.intro (fun c2 => ?_) (fun c2 => ?_)
    · iterate 2 refine hX _ _ _ _ ?_
      exact And.intro (Or.inl rfl) (h0 (by rw [lg_cmp_gt, fa_ltL] at c2; omega))
    · iterate 3 refine hX _ _ _ _ ?_
      exact And.intro (Or.inr rfl) (h1 (by rw [lg_cmp_lt, fa_ltL] at c1; rw [lg_cmp_gt, fa_ltL] at c2; omega))
/-- the code of a refusal, or 0 -/
def zcode (v : Int32) : Int32 := if v < 0 then v else 0
theorem r_answered {d : Nat} {s : Nat → Int32} {a : Nat → Nat → Int32} {w : Bool} {Z : zH} {v : Int32} {Q : zQ} (h : Q (some (.int v)) (HX (va_up s 2 (zcode v)) a w ++ Z)) : zG (d + 1) 75 [.ref 0, .int v] (HX s a w ++ Z) Q := by
  refine g_75 (Nat.le_of_ble_eq_true rfl) ?_
  intro X hX
  iterate 5 refine hX _ _ _ _ ?_
  have e : (if 0 < v then 0 else v) = zcode v := by
    unfold zcode
    by_cases h1 : v < 0
    · have h2 : ¬ 0 < v := by rw [fa_lt] at h1 ⊢; simp at h1 ⊢; omega
      rw [if_neg h2, if_pos h1]
    · rw [if_neg h1]
      split
      · rfl
      · next h2 => rw [fa_lt] at h1 h2; rw [fa_eq]; simp at h1 h2 ⊢; omega
  show X _ _ _ (HX (va_up s 2 (if 0 < v then 0 else v)) a w ++ Z)
  rw [e]
  iterate 2 refine hX _ _ _ _ ?_
  exact h
theorem r_told {d : Nat} {s : Nat → Int32} {a : Nat → Nat → Int32} {w : Bool} {t : Nat → Int32} {b : Nat → Nat → Int32} {u : Nat → Int64} {c : Nat → Nat → Int64} {v : Int32} {Q : zQ} (h : Q (some (.int v)) (HX s a w ++ HM (va_up t 1 (zcode v)) b u c)) : zG (d + 1) 106 [.ref 56, .int v] (HX s a w ++ HM t b u c) Q := by
  refine g_106 (Nat.le_of_ble_eq_true rfl) ?_
  intro X hX
  iterate 3 refine hX _ _ _ _ ?_
  refine And.intro (fun c1 => ?_) (fun c1 => ?_)
  · have e : zcode v = 0 := by
      unfold zcode
      rw [if_neg (by rw [fa_le] at c1; rw [fa_lt]; simp at c1 ⊢; omega)]
    rw [e] at h
    iterate 2 refine hX _ _ _ _ ?_
    show X _ _ _ (HX s a w ++ HM (va_up t 1 0) b u c)
    iterate 2 refine hX _ _ _ _ ?_
    exact h
  · have e : zcode v = v := by
      unfold zcode
      rw [if_pos (by rw [fa_le] at c1; rw [fa_lt]; simp at c1 ⊢; omega)]
    rw [e] at h
    iterate 3 refine hX _ _ _ _ ?_
    show X _ _ _ (HX s a w ++ HM (va_up t 1 v) b u c)
    iterate 2 refine hX _ _ _ _ ?_
    exact h
theorem r_isHour {d : Nat} {x : Int32} {h : zH} {Q : zQ} (h1 : 0 ≤ x.toInt ∧ x.toInt ≤ 2399 → Q (some (.int 1)) h) (h0 : ¬ (0 ≤ x.toInt ∧ x.toInt ≤ 2399) → Q (some (.int 0)) h) : zG (d + 2) 2 [.int x] h Q := by
  refine g_2 (Nat.le_of_ble_eq_true rfl) ?_
  intro X hX
  iterate 4 refine hX _ _ _ _ ?_
  refine r_within 0 2399 rfl rfl (fun c1 => ?_) (fun c1 => ?_)
  · refine hX _ _ _ _ ?_
    exact And.intro (Or.inr rfl) (h1 c1)
  · refine hX _ _ _ _ ?_
    exact And.intro (Or.inl rfl) (h0 c1)
theorem r_isHourM {d : Nat} {x : Int32} {h : zH} {Q : zQ} (h1 : 0 ≤ x.toInt ∧ x.toInt ≤ 2399 → Q (some (.int 1)) h) (h0 : ¬ (0 ≤ x.toInt ∧ x.toInt ≤ 2399) → Q (some (.int 0)) h) : zG (d + 2) 107 [.int x] h Q := by
  refine g_107 (Nat.le_of_ble_eq_true rfl) ?_
  intro X hX
  iterate 5 refine hX _ _ _ _ ?_
  refine r_in 0 2399 rfl rfl (fun c1 => ?_) (fun c1 => ?_)
  · refine hX _ _ _ _ ?_
    exact And.intro (Or.inr rfl) (h1 c1)
  · refine hX _ _ _ _ ?_
    exact And.intro (Or.inl rfl) (h0 c1)
