theorem cl_int (x : Int32) (h : 0 ≤ x.toInt) : ((x.toNatClampNeg : Nat) : Int) = x.toInt := by
  show ((x.toInt.toNat : Nat) : Int) = x.toInt
  omega
theorem i32_m12 (x : Int32) (h : 0 ≤ x.toInt ∧ x.toInt ≤ 5) : (x * 12).toInt = x.toInt * 12 := by
  rw [i32_mul (by simp; omega)]; simp
theorem i32_12m (x : Int32) (h : 0 ≤ x.toInt ∧ x.toInt ≤ 5) : (12 * x).toInt = x.toInt * 12 := by
  rw [i32_mul (by simp; omega)]; simp; omega
theorem ix12 (x y : Int32) (h : 0 ≤ x.toInt ∧ x.toInt ≤ 5) (h2 : 0 ≤ y.toInt ∧ y.toInt ≤ 12) : (x * 12 + y).toInt = x.toInt * 12 + y.toInt := by
  rw [i32_add (by rw [i32_m12 x h]; omega), i32_m12 x h]
theorem ix12' (x y : Int32) (h : 0 ≤ x.toInt ∧ x.toInt ≤ 5) (h2 : 0 ≤ y.toInt ∧ y.toInt ≤ 12) : (12 * x + y).toInt = x.toInt * 12 + y.toInt := by
  rw [i32_add (by rw [i32_12m x h]; omega), i32_12m x h]
theorem upd_at (f : Nat → Int32) (k j : Nat) (v : Int32) : upd f k v j = if j = k then v else f j := rfl
/-! BOXES, TAPE, ENGINES' SWITCH -/

set_option maxRecDepth 100000 in
theorem x_isStack {d : Nat} {s : Nat → Int32} {a : Nat → Nat → Int32} {w : Bool} {Z : zH} {x : Int32} {Q : zQ}  (h0 : (0 ≤ x.toInt ∧ x.toInt ≤ 5) → Q (some (.int (1))) (HX s a w ++ Z)) (h1 : (¬ (0 ≤ x.toInt ∧ x.toInt ≤ 5)) → Q (some (.int (0))) (HX s a w ++ Z)) : zG (d + 2) 67 [.int x] (HX s a w ++ Z) Q := by
  refine g_67 (Nat.le_of_ble_eq_true rfl) ?_
  intro X0 hX0
  iterate 4 refine hX0 _ _ _ _ ?_
  refine r_within (0) (5) rfl rfl (fun c1 => ?_) (fun c2 => ?_)
  · refine hX0 _ _ _ _ ?_
    refine And.intro (by first | exact Or.inl rfl | exact Or.inr rfl | rw [vp_in_iff]; first | omega | ((try simp only [fa_le, fa_lt, fa_eq, va_up] at c1 ⊢) <;> (try simp [-Int32.toInt_sub, -Int32.toInt_add, -Int32.toInt_mul, -Int32.toInt_neg, -Int64.toInt_sub, -Int64.toInt_add] at c1 ⊢) <;> omega)) ?_
    first | exact h0 (by first | omega | ((try simp only [fa_le, fa_lt, fa_eq, va_up] at c1 ⊢) <;> (try simp [-Int32.toInt_sub, -Int32.toInt_add, -Int32.toInt_mul, -Int32.toInt_neg, -Int64.toInt_sub, -Int64.toInt_add] at c1 ⊢) <;> omega)) | exact h1 (by first | omega | ((try simp only [fa_le, fa_lt, fa_eq, va_up] at c1 ⊢) <;> (try simp [-Int32.toInt_sub, -Int32.toInt_add, -Int32.toInt_mul, -Int32.toInt_neg, -Int64.toInt_sub, -Int64.toInt_add] at c1 ⊢) <;> omega)) | (exfalso; first | omega | ((try simp only [fa_le, fa_lt, fa_eq, va_up] at c1 ⊢) <;> (try simp [-Int32.toInt_sub, -Int32.toInt_add, -Int32.toInt_mul, -Int32.toInt_neg, -Int64.toInt_sub, -Int64.toInt_add] at c1 ⊢) <;> omega))
  · refine hX0 _ _ _ _ ?_
    refine And.intro (by first | exact Or.inl rfl | exact Or.inr rfl | rw [vp_in_iff]; first | omega | ((try simp only [fa_le, fa_lt, fa_eq, va_up] at c2 ⊢) <;> (try simp [-Int32.toInt_sub, -Int32.toInt_add, -Int32.toInt_mul, -Int32.toInt_neg, -Int64.toInt_sub, -Int64.toInt_add] at c2 ⊢) <;> omega)) ?_
    first | exact h0 (by first | omega | ((try simp only [fa_le, fa_lt, fa_eq, va_up] at c2 ⊢) <;> (try simp [-Int32.toInt_sub, -Int32.toInt_add, -Int32.toInt_mul, -Int32.toInt_neg, -Int64.toInt_sub, -Int64.toInt_add] at c2 ⊢) <;> omega)) | exact h1 (by first | omega | ((try simp only [fa_le, fa_lt, fa_eq, va_up] at c2 ⊢) <;> (try simp [-Int32.toInt_sub, -Int32.toInt_add, -Int32.toInt_mul, -Int32.toInt_neg, -Int64.toInt_sub, -Int64.toInt_add] at c2 ⊢) <;> omega)) | (exfalso; first | omega | ((try simp only [fa_le, fa_lt, fa_eq, va_up] at c2 ⊢) <;> (try simp [-Int32.toInt_sub, -Int32.toInt_add, -Int32.toInt_mul, -Int32.toInt_neg, -Int64.toInt_sub, -Int64.toInt_add] at c2 ⊢) <;> omega))

set_option maxRecDepth 100000 in
theorem y_isStack {d : Nat} {s : Nat → Int32} {a : Nat → Nat → Int32} {w : Bool} {t : Nat → Int32} {b : Nat → Nat → Int32} {u : Nat → Int64} {c : Nat → Nat → Int64} {x : Int32} {Q : zQ}  (h0 : (0 ≤ x.toInt ∧ x.toInt ≤ 5) → Q (some (.int (1))) (HX s a w ++ HM t b u c)) (h1 : (¬ (0 ≤ x.toInt ∧ x.toInt ≤ 5)) → Q (some (.int (0))) (HX s a w ++ HM t b u c)) : zG (d + 2) 121 [.int x] (HX s a w ++ HM t b u c) Q := by
  refine g_121 (Nat.le_of_ble_eq_true rfl) ?_
  intro X0 hX0
  iterate 5 refine hX0 _ _ _ _ ?_
  refine r_in (0) (5) rfl rfl (fun c1 => ?_) (fun c2 => ?_)
  · refine hX0 _ _ _ _ ?_
    refine And.intro (by first | exact Or.inl rfl | exact Or.inr rfl | rw [vp_in_iff]; first | omega | ((try simp only [fa_le, fa_lt, fa_eq, va_up] at c1 ⊢) <;> (try simp [-Int32.toInt_sub, -Int32.toInt_add, -Int32.toInt_mul, -Int32.toInt_neg, -Int64.toInt_sub, -Int64.toInt_add] at c1 ⊢) <;> omega)) ?_
    first | exact h0 (by first | omega | ((try simp only [fa_le, fa_lt, fa_eq, va_up] at c1 ⊢) <;> (try simp [-Int32.toInt_sub, -Int32.toInt_add, -Int32.toInt_mul, -Int32.toInt_neg, -Int64.toInt_sub, -Int64.toInt_add] at c1 ⊢) <;> omega)) | exact h1 (by first | omega | ((try simp only [fa_le, fa_lt, fa_eq, va_up] at c1 ⊢) <;> (try simp [-Int32.toInt_sub, -Int32.toInt_add, -Int32.toInt_mul, -Int32.toInt_neg, -Int64.toInt_sub, -Int64.toInt_add] at c1 ⊢) <;> omega)) | (exfalso; first | omega | ((try simp only [fa_le, fa_lt, fa_eq, va_up] at c1 ⊢) <;> (try simp [-Int32.toInt_sub, -Int32.toInt_add, -Int32.toInt_mul, -Int32.toInt_neg, -Int64.toInt_sub, -Int64.toInt_add] at c1 ⊢) <;> omega))
  · refine hX0 _ _ _ _ ?_
    refine And.intro (by first | exact Or.inl rfl | exact Or.inr rfl | rw [vp_in_iff]; first | omega | ((try simp only [fa_le, fa_lt, fa_eq, va_up] at c2 ⊢) <;> (try simp [-Int32.toInt_sub, -Int32.toInt_add, -Int32.toInt_mul, -Int32.toInt_neg, -Int64.toInt_sub, -Int64.toInt_add] at c2 ⊢) <;> omega)) ?_
    first | exact h0 (by first | omega | ((try simp only [fa_le, fa_lt, fa_eq, va_up] at c2 ⊢) <;> (try simp [-Int32.toInt_sub, -Int32.toInt_add, -Int32.toInt_mul, -Int32.toInt_neg, -Int64.toInt_sub, -Int64.toInt_add] at c2 ⊢) <;> omega)) | exact h1 (by first | omega | ((try simp only [fa_le, fa_lt, fa_eq, va_up] at c2 ⊢) <;> (try simp [-Int32.toInt_sub, -Int32.toInt_add, -Int32.toInt_mul, -Int32.toInt_neg, -Int64.toInt_sub, -Int64.toInt_add] at c2 ⊢) <;> omega)) | (exfalso; first | omega | ((try simp only [fa_le, fa_lt, fa_eq, va_up] at c2 ⊢) <;> (try simp [-Int32.toInt_sub, -Int32.toInt_add, -Int32.toInt_mul, -Int32.toInt_neg, -Int64.toInt_sub, -Int64.toInt_add] at c2 ⊢) <;> omega))

set_option maxRecDepth 100000 in
theorem x_put {d : Nat} {s : Nat → Int32} {a : Nat → Nat → Int32} {w : Bool} {Z : zH} {x y : Int32} {Q : zQ} (hh : ∀ j, j < 6 → 0 ≤ (a 12 j).toInt ∧ (a 12 j).toInt ≤ 12) (h0 : (¬ (0 ≤ y.toInt ∧ y.toInt ≤ 9)) → Q (some (.int (-1))) (HX s a w ++ Z)) (h1 : ((0 ≤ y.toInt ∧ y.toInt ≤ 9) ∧ ¬ (0 ≤ x.toInt ∧ x.toInt ≤ 5)) → Q (some (.int (-2))) (HX s a w ++ Z)) (h2 : (((0 ≤ y.toInt ∧ y.toInt ≤ 9) ∧ (0 ≤ x.toInt ∧ x.toInt ≤ 5)) ∧ 12 ≤ (a 12 x.toNatClampNeg).toInt) → Q (some (.int (-5))) (HX s a w ++ Z)) (h3 : (((0 ≤ y.toInt ∧ y.toInt ≤ 9) ∧ (0 ≤ x.toInt ∧ x.toInt ≤ 5)) ∧ (a 12 x.toNatClampNeg).toInt < 12) → Q (some (.int (a 12 x.toNatClampNeg + 1))) (HX (va_up s 7 (s 7 + 1)) (va_up (va_up a 11 (upd (a 11) (x * 12 + a 12 x.toNatClampNeg).toNatClampNeg y)) 12 (upd (a 12) x.toNatClampNeg (a 12 x.toNatClampNeg + 1))) w ++ Z)) : zG (d + 3) 68 [.ref 14, .int x, .int y] (HX s a w ++ Z) Q := by
  refine g_68 (Nat.le_of_ble_eq_true rfl) ?_
  intro X0 hX0
  have e1 : (0 ≤ x.toInt ∧ x.toInt ≤ 5) → 0 ≤ (a 12 x.toNatClampNeg).toInt ∧ (a 12 x.toNatClampNeg).toInt ≤ 12 := fun h => hh _ (by have := cl_int x h.1; omega)
  have e2 : (0 ≤ x.toInt ∧ x.toInt ≤ 5) → (x * 12).toInt = x.toInt * 12 := fun h => i32_m12 x h
  have e3 : (0 ≤ x.toInt ∧ x.toInt ≤ 5) → (x * 12 + a 12 x.toNatClampNeg).toInt = x.toInt * 12 + (a 12 x.toNatClampNeg).toInt := fun h => ix12 x _ h (e1 h)
  iterate 4 refine hX0 _ _ _ _ ?_
  refine r_within (0) (9) rfl rfl (fun c1 => ?_) (fun c2 => ?_)
  · refine hX0 _ _ _ _ ?_
    refine And.intro (fun _ => ?_) (fun c => absurd c (by decide))
    iterate 2 refine hX0 _ _ _ _ ?_
    refine x_isStack (fun c3 => ?_) (fun c4 => ?_)
    · refine hX0 _ _ _ _ ?_
      refine And.intro (fun _ => ?_) (fun c => absurd c (by decide))
      iterate 4 refine hX0 _ _ _ _ ?_
      refine And.intro (by rw [vp_in_iff]; first | omega | ((try simp only [fa_le, fa_lt, fa_eq, va_up] at c1 c3 ⊢) <;> (try simp [-Int32.toInt_sub, -Int32.toInt_add, -Int32.toInt_mul, -Int32.toInt_neg, -Int64.toInt_sub, -Int64.toInt_add] at c1 c3 ⊢) <;> omega)) ?_
      iterate 4 refine hX0 _ _ _ _ ?_
      refine And.intro (fun c5 => ?_) (fun c5 => ?_)
      · iterate 9 refine hX0 _ _ _ _ ?_
        refine And.intro (by rw [vp_in_iff]; first | omega | ((try simp only [fa_le, fa_lt, fa_eq, va_up] at c1 c3 c5 ⊢) <;> (try simp [-Int32.toInt_sub, -Int32.toInt_add, -Int32.toInt_mul, -Int32.toInt_neg, -Int64.toInt_sub, -Int64.toInt_add] at c1 c3 c5 ⊢) <;> omega)) ?_
        refine zcast (X := X0) xa_11 ?_
        iterate 7 refine hX0 _ _ _ _ ?_
        refine And.intro (by rw [vp_in_iff]; first | omega | ((try simp only [fa_le, fa_lt, fa_eq, va_up] at c1 c3 c5 ⊢) <;> (try simp [-Int32.toInt_sub, -Int32.toInt_add, -Int32.toInt_mul, -Int32.toInt_neg, -Int64.toInt_sub, -Int64.toInt_add] at c1 c3 c5 ⊢) <;> omega)) ?_
        refine zcast (X := X0) xa_12 ?_
        iterate 6 refine hX0 _ _ _ _ ?_
        refine zcast (X := X0) xs_7 ?_
        iterate 4 refine hX0 _ _ _ _ ?_
        first | exact h0 (by first | omega | ((try simp only [fa_le, fa_lt, fa_eq, va_up] at c1 c3 c5 ⊢) <;> (try simp [-Int32.toInt_sub, -Int32.toInt_add, -Int32.toInt_mul, -Int32.toInt_neg, -Int64.toInt_sub, -Int64.toInt_add] at c1 c3 c5 ⊢) <;> omega)) | exact h1 (by first | omega | ((try simp only [fa_le, fa_lt, fa_eq, va_up] at c1 c3 c5 ⊢) <;> (try simp [-Int32.toInt_sub, -Int32.toInt_add, -Int32.toInt_mul, -Int32.toInt_neg, -Int64.toInt_sub, -Int64.toInt_add] at c1 c3 c5 ⊢) <;> omega)) | exact h2 (by first | omega | ((try simp only [fa_le, fa_lt, fa_eq, va_up] at c1 c3 c5 ⊢) <;> (try simp [-Int32.toInt_sub, -Int32.toInt_add, -Int32.toInt_mul, -Int32.toInt_neg, -Int64.toInt_sub, -Int64.toInt_add] at c1 c3 c5 ⊢) <;> omega)) | exact h3 (by first | omega | ((try simp only [fa_le, fa_lt, fa_eq, va_up] at c1 c3 c5 ⊢) <;> (try simp [-Int32.toInt_sub, -Int32.toInt_add, -Int32.toInt_mul, -Int32.toInt_neg, -Int64.toInt_sub, -Int64.toInt_add] at c1 c3 c5 ⊢) <;> omega)) | (exfalso; first | omega | ((try simp only [fa_le, fa_lt, fa_eq, va_up] at c1 c3 c5 ⊢) <;> (try simp [-Int32.toInt_sub, -Int32.toInt_add, -Int32.toInt_mul, -Int32.toInt_neg, -Int64.toInt_sub, -Int64.toInt_add] at c1 c3 c5 ⊢) <;> omega))
      · iterate 2 refine hX0 _ _ _ _ ?_
        first | exact h0 (by first | omega | ((try simp only [fa_le, fa_lt, fa_eq, va_up] at c1 c3 c5 ⊢) <;> (try simp [-Int32.toInt_sub, -Int32.toInt_add, -Int32.toInt_mul, -Int32.toInt_neg, -Int64.toInt_sub, -Int64.toInt_add] at c1 c3 c5 ⊢) <;> omega)) | exact h1 (by first | omega | ((try simp only [fa_le, fa_lt, fa_eq, va_up] at c1 c3 c5 ⊢) <;> (try simp [-Int32.toInt_sub, -Int32.toInt_add, -Int32.toInt_mul, -Int32.toInt_neg, -Int64.toInt_sub, -Int64.toInt_add] at c1 c3 c5 ⊢) <;> omega)) | exact h2 (by first | omega | ((try simp only [fa_le, fa_lt, fa_eq, va_up] at c1 c3 c5 ⊢) <;> (try simp [-Int32.toInt_sub, -Int32.toInt_add, -Int32.toInt_mul, -Int32.toInt_neg, -Int64.toInt_sub, -Int64.toInt_add] at c1 c3 c5 ⊢) <;> omega)) | exact h3 (by first | omega | ((try simp only [fa_le, fa_lt, fa_eq, va_up] at c1 c3 c5 ⊢) <;> (try simp [-Int32.toInt_sub, -Int32.toInt_add, -Int32.toInt_mul, -Int32.toInt_neg, -Int64.toInt_sub, -Int64.toInt_add] at c1 c3 c5 ⊢) <;> omega)) | (exfalso; first | omega | ((try simp only [fa_le, fa_lt, fa_eq, va_up] at c1 c3 c5 ⊢) <;> (try simp [-Int32.toInt_sub, -Int32.toInt_add, -Int32.toInt_mul, -Int32.toInt_neg, -Int64.toInt_sub, -Int64.toInt_add] at c1 c3 c5 ⊢) <;> omega))
    · refine hX0 _ _ _ _ ?_
      refine And.intro (fun c => absurd c (by decide)) (fun _ => ?_)
      iterate 2 refine hX0 _ _ _ _ ?_
      first | exact h0 (by first | omega | ((try simp only [fa_le, fa_lt, fa_eq, va_up] at c1 c4 ⊢) <;> (try simp [-Int32.toInt_sub, -Int32.toInt_add, -Int32.toInt_mul, -Int32.toInt_neg, -Int64.toInt_sub, -Int64.toInt_add] at c1 c4 ⊢) <;> omega)) | exact h1 (by first | omega | ((try simp only [fa_le, fa_lt, fa_eq, va_up] at c1 c4 ⊢) <;> (try simp [-Int32.toInt_sub, -Int32.toInt_add, -Int32.toInt_mul, -Int32.toInt_neg, -Int64.toInt_sub, -Int64.toInt_add] at c1 c4 ⊢) <;> omega)) | exact h2 (by first | omega | ((try simp only [fa_le, fa_lt, fa_eq, va_up] at c1 c4 ⊢) <;> (try simp [-Int32.toInt_sub, -Int32.toInt_add, -Int32.toInt_mul, -Int32.toInt_neg, -Int64.toInt_sub, -Int64.toInt_add] at c1 c4 ⊢) <;> omega)) | exact h3 (by first | omega | ((try simp only [fa_le, fa_lt, fa_eq, va_up] at c1 c4 ⊢) <;> (try simp [-Int32.toInt_sub, -Int32.toInt_add, -Int32.toInt_mul, -Int32.toInt_neg, -Int64.toInt_sub, -Int64.toInt_add] at c1 c4 ⊢) <;> omega)) | (exfalso; first | omega | ((try simp only [fa_le, fa_lt, fa_eq, va_up] at c1 c4 ⊢) <;> (try simp [-Int32.toInt_sub, -Int32.toInt_add, -Int32.toInt_mul, -Int32.toInt_neg, -Int64.toInt_sub, -Int64.toInt_add] at c1 c4 ⊢) <;> omega))
  · refine hX0 _ _ _ _ ?_
    refine And.intro (fun c => absurd c (by decide)) (fun _ => ?_)
    iterate 2 refine hX0 _ _ _ _ ?_
    first | exact h0 (by first | omega | ((try simp only [fa_le, fa_lt, fa_eq, va_up] at c2 ⊢) <;> (try simp [-Int32.toInt_sub, -Int32.toInt_add, -Int32.toInt_mul, -Int32.toInt_neg, -Int64.toInt_sub, -Int64.toInt_add] at c2 ⊢) <;> omega)) | exact h1 (by first | omega | ((try simp only [fa_le, fa_lt, fa_eq, va_up] at c2 ⊢) <;> (try simp [-Int32.toInt_sub, -Int32.toInt_add, -Int32.toInt_mul, -Int32.toInt_neg, -Int64.toInt_sub, -Int64.toInt_add] at c2 ⊢) <;> omega)) | exact h2 (by first | omega | ((try simp only [fa_le, fa_lt, fa_eq, va_up] at c2 ⊢) <;> (try simp [-Int32.toInt_sub, -Int32.toInt_add, -Int32.toInt_mul, -Int32.toInt_neg, -Int64.toInt_sub, -Int64.toInt_add] at c2 ⊢) <;> omega)) | exact h3 (by first | omega | ((try simp only [fa_le, fa_lt, fa_eq, va_up] at c2 ⊢) <;> (try simp [-Int32.toInt_sub, -Int32.toInt_add, -Int32.toInt_mul, -Int32.toInt_neg, -Int64.toInt_sub, -Int64.toInt_add] at c2 ⊢) <;> omega)) | (exfalso; first | omega | ((try simp only [fa_le, fa_lt, fa_eq, va_up] at c2 ⊢) <;> (try simp [-Int32.toInt_sub, -Int32.toInt_add, -Int32.toInt_mul, -Int32.toInt_neg, -Int64.toInt_sub, -Int64.toInt_add] at c2 ⊢) <;> omega))

set_option maxRecDepth 100000 in
theorem x_box {d : Nat} {s : Nat → Int32} {a : Nat → Nat → Int32} {w : Bool} {Z : zH} {x y : Int32} {Q : zQ} (hh : ∀ j, j < 6 → 0 ≤ (a 12 j).toInt ∧ (a 12 j).toInt ≤ 12) (h0 : (¬ (0 ≤ y.toInt ∧ y.toInt ≤ 9)) → Q (some (.int (-1))) (HX (va_up s 2 (-1)) a w ++ Z)) (h1 : ((0 ≤ y.toInt ∧ y.toInt ≤ 9) ∧ ¬ (0 ≤ x.toInt ∧ x.toInt ≤ 5)) → Q (some (.int (-2))) (HX (va_up s 2 (-2)) a w ++ Z)) (h2 : (((0 ≤ y.toInt ∧ y.toInt ≤ 9) ∧ (0 ≤ x.toInt ∧ x.toInt ≤ 5)) ∧ 12 ≤ (a 12 x.toNatClampNeg).toInt) → Q (some (.int (-5))) (HX (va_up s 2 (-5)) a w ++ Z)) (h3 : (((0 ≤ y.toInt ∧ y.toInt ≤ 9) ∧ (0 ≤ x.toInt ∧ x.toInt ≤ 5)) ∧ (a 12 x.toNatClampNeg).toInt < 12) → Q (some (.int (a 12 x.toNatClampNeg + 1))) (HX (va_up (va_up s 7 (s 7 + 1)) 2 (zcode (a 12 x.toNatClampNeg + 1))) (va_up (va_up a 11 (upd (a 11) (x * 12 + a 12 x.toNatClampNeg).toNatClampNeg y)) 12 (upd (a 12) x.toNatClampNeg (a 12 x.toNatClampNeg + 1))) w ++ Z)) : zG (d + 4) 84 [.ref 0, .int x, .int y] (HX s a w ++ Z) Q := by
  refine g_84 (Nat.le_of_ble_eq_true rfl) ?_
  intro X0 hX0
  iterate 6 refine hX0 _ _ _ _ ?_
  refine x_put hh (fun c1 => ?_) (fun c2 => ?_) (fun c3 => ?_) (fun c4 => ?_)
  · refine hX0 _ _ _ _ ?_
    refine r_answered ?_
    refine hX0 _ _ _ _ ?_
    first | exact h0 (by first | omega | ((try simp only [fa_le, fa_lt, fa_eq, va_up] at c1 ⊢) <;> (try simp [-Int32.toInt_sub, -Int32.toInt_add, -Int32.toInt_mul, -Int32.toInt_neg, -Int64.toInt_sub, -Int64.toInt_add] at c1 ⊢) <;> omega)) | exact h1 (by first | omega | ((try simp only [fa_le, fa_lt, fa_eq, va_up] at c1 ⊢) <;> (try simp [-Int32.toInt_sub, -Int32.toInt_add, -Int32.toInt_mul, -Int32.toInt_neg, -Int64.toInt_sub, -Int64.toInt_add] at c1 ⊢) <;> omega)) | exact h2 (by first | omega | ((try simp only [fa_le, fa_lt, fa_eq, va_up] at c1 ⊢) <;> (try simp [-Int32.toInt_sub, -Int32.toInt_add, -Int32.toInt_mul, -Int32.toInt_neg, -Int64.toInt_sub, -Int64.toInt_add] at c1 ⊢) <;> omega)) | exact h3 (by first | omega | ((try simp only [fa_le, fa_lt, fa_eq, va_up] at c1 ⊢) <;> (try simp [-Int32.toInt_sub, -Int32.toInt_add, -Int32.toInt_mul, -Int32.toInt_neg, -Int64.toInt_sub, -Int64.toInt_add] at c1 ⊢) <;> omega)) | (exfalso; first | omega | ((try simp only [fa_le, fa_lt, fa_eq, va_up] at c1 ⊢) <;> (try simp [-Int32.toInt_sub, -Int32.toInt_add, -Int32.toInt_mul, -Int32.toInt_neg, -Int64.toInt_sub, -Int64.toInt_add] at c1 ⊢) <;> omega))
  · refine hX0 _ _ _ _ ?_
    refine r_answered ?_
    refine hX0 _ _ _ _ ?_
    first | exact h0 (by first | omega | ((try simp only [fa_le, fa_lt, fa_eq, va_up] at c2 ⊢) <;> (try simp [-Int32.toInt_sub, -Int32.toInt_add, -Int32.toInt_mul, -Int32.toInt_neg, -Int64.toInt_sub, -Int64.toInt_add] at c2 ⊢) <;> omega)) | exact h1 (by first | omega | ((try simp only [fa_le, fa_lt, fa_eq, va_up] at c2 ⊢) <;> (try simp [-Int32.toInt_sub, -Int32.toInt_add, -Int32.toInt_mul, -Int32.toInt_neg, -Int64.toInt_sub, -Int64.toInt_add] at c2 ⊢) <;> omega)) | exact h2 (by first | omega | ((try simp only [fa_le, fa_lt, fa_eq, va_up] at c2 ⊢) <;> (try simp [-Int32.toInt_sub, -Int32.toInt_add, -Int32.toInt_mul, -Int32.toInt_neg, -Int64.toInt_sub, -Int64.toInt_add] at c2 ⊢) <;> omega)) | exact h3 (by first | omega | ((try simp only [fa_le, fa_lt, fa_eq, va_up] at c2 ⊢) <;> (try simp [-Int32.toInt_sub, -Int32.toInt_add, -Int32.toInt_mul, -Int32.toInt_neg, -Int64.toInt_sub, -Int64.toInt_add] at c2 ⊢) <;> omega)) | (exfalso; first | omega | ((try simp only [fa_le, fa_lt, fa_eq, va_up] at c2 ⊢) <;> (try simp [-Int32.toInt_sub, -Int32.toInt_add, -Int32.toInt_mul, -Int32.toInt_neg, -Int64.toInt_sub, -Int64.toInt_add] at c2 ⊢) <;> omega))
  · refine hX0 _ _ _ _ ?_
    refine r_answered ?_
    refine hX0 _ _ _ _ ?_
    first | exact h0 (by first | omega | ((try simp only [fa_le, fa_lt, fa_eq, va_up] at c3 ⊢) <;> (try simp [-Int32.toInt_sub, -Int32.toInt_add, -Int32.toInt_mul, -Int32.toInt_neg, -Int64.toInt_sub, -Int64.toInt_add] at c3 ⊢) <;> omega)) | exact h1 (by first | omega | ((try simp only [fa_le, fa_lt, fa_eq, va_up] at c3 ⊢) <;> (try simp [-Int32.toInt_sub, -Int32.toInt_add, -Int32.toInt_mul, -Int32.toInt_neg, -Int64.toInt_sub, -Int64.toInt_add] at c3 ⊢) <;> omega)) | exact h2 (by first | omega | ((try simp only [fa_le, fa_lt, fa_eq, va_up] at c3 ⊢) <;> (try simp [-Int32.toInt_sub, -Int32.toInt_add, -Int32.toInt_mul, -Int32.toInt_neg, -Int64.toInt_sub, -Int64.toInt_add] at c3 ⊢) <;> omega)) | exact h3 (by first | omega | ((try simp only [fa_le, fa_lt, fa_eq, va_up] at c3 ⊢) <;> (try simp [-Int32.toInt_sub, -Int32.toInt_add, -Int32.toInt_mul, -Int32.toInt_neg, -Int64.toInt_sub, -Int64.toInt_add] at c3 ⊢) <;> omega)) | (exfalso; first | omega | ((try simp only [fa_le, fa_lt, fa_eq, va_up] at c3 ⊢) <;> (try simp [-Int32.toInt_sub, -Int32.toInt_add, -Int32.toInt_mul, -Int32.toInt_neg, -Int64.toInt_sub, -Int64.toInt_add] at c3 ⊢) <;> omega))
  · refine hX0 _ _ _ _ ?_
    refine r_answered ?_
    refine hX0 _ _ _ _ ?_
    first | exact h0 (by first | omega | ((try simp only [fa_le, fa_lt, fa_eq, va_up] at c4 ⊢) <;> (try simp [-Int32.toInt_sub, -Int32.toInt_add, -Int32.toInt_mul, -Int32.toInt_neg, -Int64.toInt_sub, -Int64.toInt_add] at c4 ⊢) <;> omega)) | exact h1 (by first | omega | ((try simp only [fa_le, fa_lt, fa_eq, va_up] at c4 ⊢) <;> (try simp [-Int32.toInt_sub, -Int32.toInt_add, -Int32.toInt_mul, -Int32.toInt_neg, -Int64.toInt_sub, -Int64.toInt_add] at c4 ⊢) <;> omega)) | exact h2 (by first | omega | ((try simp only [fa_le, fa_lt, fa_eq, va_up] at c4 ⊢) <;> (try simp [-Int32.toInt_sub, -Int32.toInt_add, -Int32.toInt_mul, -Int32.toInt_neg, -Int64.toInt_sub, -Int64.toInt_add] at c4 ⊢) <;> omega)) | exact h3 (by first | omega | ((try simp only [fa_le, fa_lt, fa_eq, va_up] at c4 ⊢) <;> (try simp [-Int32.toInt_sub, -Int32.toInt_add, -Int32.toInt_mul, -Int32.toInt_neg, -Int64.toInt_sub, -Int64.toInt_add] at c4 ⊢) <;> omega)) | (exfalso; first | omega | ((try simp only [fa_le, fa_lt, fa_eq, va_up] at c4 ⊢) <;> (try simp [-Int32.toInt_sub, -Int32.toInt_add, -Int32.toInt_mul, -Int32.toInt_neg, -Int64.toInt_sub, -Int64.toInt_add] at c4 ⊢) <;> omega))

set_option maxRecDepth 100000 in
theorem y_box {d : Nat} {s : Nat → Int32} {a : Nat → Nat → Int32} {w : Bool} {t : Nat → Int32} {b : Nat → Nat → Int32} {u : Nat → Int64} {c : Nat → Nat → Int64} {x y : Int32} {Q : zQ} (hh : ∀ j, j < 6 → 0 ≤ (b 18 j).toInt ∧ (b 18 j).toInt ≤ 12) (h0 : (¬ (0 ≤ y.toInt ∧ y.toInt ≤ 9)) → Q (some (.int (-1))) (HX s a w ++ HM (va_up (va_up t 0 (0)) 1 (-1)) b u c)) (h1 : ((0 ≤ y.toInt ∧ y.toInt ≤ 9) ∧ ¬ (0 ≤ x.toInt ∧ x.toInt ≤ 5)) → Q (some (.int (-2))) (HX s a w ++ HM (va_up (va_up t 0 (0)) 1 (-2)) b u c)) (h2 : (((0 ≤ y.toInt ∧ y.toInt ≤ 9) ∧ (0 ≤ x.toInt ∧ x.toInt ≤ 5)) ∧ 12 = (b 18 x.toNatClampNeg).toInt) → Q (some (.int (-5))) (HX s a w ++ HM (va_up (va_up t 0 (0)) 1 (-5)) b u c)) (h3 : (((0 ≤ y.toInt ∧ y.toInt ≤ 9) ∧ (0 ≤ x.toInt ∧ x.toInt ≤ 5)) ∧ (b 18 x.toNatClampNeg).toInt < 12) → Q (some (.int (b 18 x.toNatClampNeg + 1))) (HX s a w ++ HM (va_up (va_up t 0 (0)) 1 (zcode (b 18 x.toNatClampNeg + 1))) (va_up (va_up b 17 (upd (b 17) (12 * x + b 18 x.toNatClampNeg).toNatClampNeg y)) 18 (upd (b 18) x.toNatClampNeg (b 18 x.toNatClampNeg + 1))) u c)) : zG (d + 3) 122 [.ref 56, .int x, .int y] (HX s a w ++ HM t b u c) Q := by
  refine g_122 (Nat.le_of_ble_eq_true rfl) ?_
  intro X0 hX0
  have e1 : (0 ≤ x.toInt ∧ x.toInt ≤ 5) → 0 ≤ (b 18 x.toNatClampNeg).toInt ∧ (b 18 x.toNatClampNeg).toInt ≤ 12 := fun h => hh _ (by have := cl_int x h.1; omega)
  have e2 : (0 ≤ x.toInt ∧ x.toInt ≤ 5) → (12 * x).toInt = x.toInt * 12 := fun h => i32_12m x h
  have e3 : (0 ≤ x.toInt ∧ x.toInt ≤ 5) → (12 * x + b 18 x.toNatClampNeg).toInt = x.toInt * 12 + (b 18 x.toNatClampNeg).toInt := fun h => ix12' x _ h (e1 h)
  iterate 3 refine hX0 _ _ _ _ ?_
  refine zcast (X := X0) yt_0 ?_
  iterate 5 refine hX0 _ _ _ _ ?_
  refine r_in (0) (9) rfl rfl (fun c1 => ?_) (fun c2 => ?_)
  · refine hX0 _ _ _ _ ?_
    refine And.intro (fun _ => ?_) (fun c => absurd c (by decide))
    iterate 2 refine hX0 _ _ _ _ ?_
    refine y_isStack (fun c3 => ?_) (fun c4 => ?_)
    · refine hX0 _ _ _ _ ?_
      refine And.intro (fun _ => ?_) (fun c => absurd c (by decide))
      iterate 4 refine hX0 _ _ _ _ ?_
      refine And.intro (by rw [vp_in_iff]; first | omega | ((try simp only [fa_le, fa_lt, fa_eq, va_up] at c1 c3 ⊢) <;> (try simp [-Int32.toInt_sub, -Int32.toInt_add, -Int32.toInt_mul, -Int32.toInt_neg, -Int64.toInt_sub, -Int64.toInt_add] at c1 c3 ⊢) <;> omega)) ?_
      iterate 2 refine hX0 _ _ _ _ ?_
      refine And.intro (fun c5 => ?_) (fun c5 => ?_)
      · iterate 9 refine hX0 _ _ _ _ ?_
        refine And.intro (by rw [vp_in_iff]; first | omega | ((try simp only [fa_le, fa_lt, fa_eq, va_up] at c1 c3 c5 ⊢) <;> (try simp [-Int32.toInt_sub, -Int32.toInt_add, -Int32.toInt_mul, -Int32.toInt_neg, -Int64.toInt_sub, -Int64.toInt_add] at c1 c3 c5 ⊢) <;> omega)) ?_
        iterate 3 refine hX0 _ _ _ _ ?_
        refine And.intro (by rw [vp_in_iff]; first | omega | ((try simp only [fa_le, fa_lt, fa_eq, va_up] at c1 c3 c5 ⊢) <;> (try simp [-Int32.toInt_sub, -Int32.toInt_add, -Int32.toInt_mul, -Int32.toInt_neg, -Int64.toInt_sub, -Int64.toInt_add] at c1 c3 c5 ⊢) <;> omega)) ?_
        refine zcast (X := X0) yb_17 ?_
        iterate 5 refine hX0 _ _ _ _ ?_
        refine And.intro (by rw [vp_in_iff]; first | omega | ((try simp only [fa_le, fa_lt, fa_eq, va_up] at c1 c3 c5 ⊢) <;> (try simp [-Int32.toInt_sub, -Int32.toInt_add, -Int32.toInt_mul, -Int32.toInt_neg, -Int64.toInt_sub, -Int64.toInt_add] at c1 c3 c5 ⊢) <;> omega)) ?_
        iterate 3 refine hX0 _ _ _ _ ?_
        refine And.intro (by rw [vp_in_iff]; first | omega | ((try simp only [fa_le, fa_lt, fa_eq, va_up] at c1 c3 c5 ⊢) <;> (try simp [-Int32.toInt_sub, -Int32.toInt_add, -Int32.toInt_mul, -Int32.toInt_neg, -Int64.toInt_sub, -Int64.toInt_add] at c1 c3 c5 ⊢) <;> omega)) ?_
        refine zcast (X := X0) yb_18 ?_
        iterate 5 refine hX0 _ _ _ _ ?_
        refine And.intro (by rw [vp_in_iff]; first | omega | ((try simp only [fa_le, fa_lt, fa_eq, va_up] at c1 c3 c5 ⊢) <;> (try simp [-Int32.toInt_sub, -Int32.toInt_add, -Int32.toInt_mul, -Int32.toInt_neg, -Int64.toInt_sub, -Int64.toInt_add] at c1 c3 c5 ⊢) <;> omega)) ?_
        refine hX0 _ _ _ _ ?_
        refine r_told ?_
        refine hX0 _ _ _ _ ?_
        first | exact h0 (by first | omega | ((try simp only [fa_le, fa_lt, fa_eq, va_up] at c1 c3 c5 ⊢) <;> (try simp [-Int32.toInt_sub, -Int32.toInt_add, -Int32.toInt_mul, -Int32.toInt_neg, -Int64.toInt_sub, -Int64.toInt_add] at c1 c3 c5 ⊢) <;> omega)) | exact h1 (by first | omega | ((try simp only [fa_le, fa_lt, fa_eq, va_up] at c1 c3 c5 ⊢) <;> (try simp [-Int32.toInt_sub, -Int32.toInt_add, -Int32.toInt_mul, -Int32.toInt_neg, -Int64.toInt_sub, -Int64.toInt_add] at c1 c3 c5 ⊢) <;> omega)) | exact h2 (by first | omega | ((try simp only [fa_le, fa_lt, fa_eq, va_up] at c1 c3 c5 ⊢) <;> (try simp [-Int32.toInt_sub, -Int32.toInt_add, -Int32.toInt_mul, -Int32.toInt_neg, -Int64.toInt_sub, -Int64.toInt_add] at c1 c3 c5 ⊢) <;> omega)) | (show Q (some (.int _)) (HX _ _ _ ++ HM _ _ _ _); simp only [vu_s, pk_us]; exact h3 (by first | omega | ((try simp only [fa_le, fa_lt, fa_eq, va_up] at c1 c3 c5 ⊢) <;> (try simp [-Int32.toInt_sub, -Int32.toInt_add, -Int32.toInt_mul, -Int32.toInt_neg, -Int64.toInt_sub, -Int64.toInt_add] at c1 c3 c5 ⊢) <;> omega))) | (exfalso; first | omega | ((try simp only [fa_le, fa_lt, fa_eq, va_up] at c1 c3 c5 ⊢) <;> (try simp [-Int32.toInt_sub, -Int32.toInt_add, -Int32.toInt_mul, -Int32.toInt_neg, -Int64.toInt_sub, -Int64.toInt_add] at c1 c3 c5 ⊢) <;> omega))
      · iterate 3 refine hX0 _ _ _ _ ?_
        refine r_told ?_
        refine hX0 _ _ _ _ ?_
        first | exact h0 (by first | omega | ((try simp only [fa_le, fa_lt, fa_eq, va_up] at c1 c3 c5 ⊢) <;> (try simp [-Int32.toInt_sub, -Int32.toInt_add, -Int32.toInt_mul, -Int32.toInt_neg, -Int64.toInt_sub, -Int64.toInt_add] at c1 c3 c5 ⊢) <;> omega)) | exact h1 (by first | omega | ((try simp only [fa_le, fa_lt, fa_eq, va_up] at c1 c3 c5 ⊢) <;> (try simp [-Int32.toInt_sub, -Int32.toInt_add, -Int32.toInt_mul, -Int32.toInt_neg, -Int64.toInt_sub, -Int64.toInt_add] at c1 c3 c5 ⊢) <;> omega)) | exact h2 (by first | omega | ((try simp only [fa_le, fa_lt, fa_eq, va_up] at c1 c3 c5 ⊢) <;> (try simp [-Int32.toInt_sub, -Int32.toInt_add, -Int32.toInt_mul, -Int32.toInt_neg, -Int64.toInt_sub, -Int64.toInt_add] at c1 c3 c5 ⊢) <;> omega)) | (show Q (some (.int _)) (HX _ _ _ ++ HM _ _ _ _); simp only [vu_s, pk_us]; exact h3 (by first | omega | ((try simp only [fa_le, fa_lt, fa_eq, va_up] at c1 c3 c5 ⊢) <;> (try simp [-Int32.toInt_sub, -Int32.toInt_add, -Int32.toInt_mul, -Int32.toInt_neg, -Int64.toInt_sub, -Int64.toInt_add] at c1 c3 c5 ⊢) <;> omega))) | (exfalso; first | omega | ((try simp only [fa_le, fa_lt, fa_eq, va_up] at c1 c3 c5 ⊢) <;> (try simp [-Int32.toInt_sub, -Int32.toInt_add, -Int32.toInt_mul, -Int32.toInt_neg, -Int64.toInt_sub, -Int64.toInt_add] at c1 c3 c5 ⊢) <;> omega))
    · refine hX0 _ _ _ _ ?_
      refine And.intro (fun c => absurd c (by decide)) (fun _ => ?_)
      iterate 3 refine hX0 _ _ _ _ ?_
      refine r_told ?_
      refine hX0 _ _ _ _ ?_
      first | exact h0 (by first | omega | ((try simp only [fa_le, fa_lt, fa_eq, va_up] at c1 c4 ⊢) <;> (try simp [-Int32.toInt_sub, -Int32.toInt_add, -Int32.toInt_mul, -Int32.toInt_neg, -Int64.toInt_sub, -Int64.toInt_add] at c1 c4 ⊢) <;> omega)) | exact h1 (by first | omega | ((try simp only [fa_le, fa_lt, fa_eq, va_up] at c1 c4 ⊢) <;> (try simp [-Int32.toInt_sub, -Int32.toInt_add, -Int32.toInt_mul, -Int32.toInt_neg, -Int64.toInt_sub, -Int64.toInt_add] at c1 c4 ⊢) <;> omega)) | exact h2 (by first | omega | ((try simp only [fa_le, fa_lt, fa_eq, va_up] at c1 c4 ⊢) <;> (try simp [-Int32.toInt_sub, -Int32.toInt_add, -Int32.toInt_mul, -Int32.toInt_neg, -Int64.toInt_sub, -Int64.toInt_add] at c1 c4 ⊢) <;> omega)) | (show Q (some (.int _)) (HX _ _ _ ++ HM _ _ _ _); simp only [vu_s, pk_us]; exact h3 (by first | omega | ((try simp only [fa_le, fa_lt, fa_eq, va_up] at c1 c4 ⊢) <;> (try simp [-Int32.toInt_sub, -Int32.toInt_add, -Int32.toInt_mul, -Int32.toInt_neg, -Int64.toInt_sub, -Int64.toInt_add] at c1 c4 ⊢) <;> omega))) | (exfalso; first | omega | ((try simp only [fa_le, fa_lt, fa_eq, va_up] at c1 c4 ⊢) <;> (try simp [-Int32.toInt_sub, -Int32.toInt_add, -Int32.toInt_mul, -Int32.toInt_neg, -Int64.toInt_sub, -Int64.toInt_add] at c1 c4 ⊢) <;> omega))
  · refine hX0 _ _ _ _ ?_
    refine And.intro (fun c => absurd c (by decide)) (fun _ => ?_)
    iterate 3 refine hX0 _ _ _ _ ?_
    refine r_told ?_
    refine hX0 _ _ _ _ ?_
    first | exact h0 (by first | omega | ((try simp only [fa_le, fa_lt, fa_eq, va_up] at c2 ⊢) <;> (try simp [-Int32.toInt_sub, -Int32.toInt_add, -Int32.toInt_mul, -Int32.toInt_neg, -Int64.toInt_sub, -Int64.toInt_add] at c2 ⊢) <;> omega)) | exact h1 (by first | omega | ((try simp only [fa_le, fa_lt, fa_eq, va_up] at c2 ⊢) <;> (try simp [-Int32.toInt_sub, -Int32.toInt_add, -Int32.toInt_mul, -Int32.toInt_neg, -Int64.toInt_sub, -Int64.toInt_add] at c2 ⊢) <;> omega)) | exact h2 (by first | omega | ((try simp only [fa_le, fa_lt, fa_eq, va_up] at c2 ⊢) <;> (try simp [-Int32.toInt_sub, -Int32.toInt_add, -Int32.toInt_mul, -Int32.toInt_neg, -Int64.toInt_sub, -Int64.toInt_add] at c2 ⊢) <;> omega)) | (show Q (some (.int _)) (HX _ _ _ ++ HM _ _ _ _); simp only [vu_s, pk_us]; exact h3 (by first | omega | ((try simp only [fa_le, fa_lt, fa_eq, va_up] at c2 ⊢) <;> (try simp [-Int32.toInt_sub, -Int32.toInt_add, -Int32.toInt_mul, -Int32.toInt_neg, -Int64.toInt_sub, -Int64.toInt_add] at c2 ⊢) <;> omega))) | (exfalso; first | omega | ((try simp only [fa_le, fa_lt, fa_eq, va_up] at c2 ⊢) <;> (try simp [-Int32.toInt_sub, -Int32.toInt_add, -Int32.toInt_mul, -Int32.toInt_neg, -Int64.toInt_sub, -Int64.toInt_add] at c2 ⊢) <;> omega))

set_option maxRecDepth 100000 in
theorem x_ofStack {d : Nat} {s : Nat → Int32} {a : Nat → Nat → Int32} {w : Bool} {Z : zH} {x y : Int32} {Q : zQ} (hh : ∀ j, j < 6 → 0 ≤ (a 12 j).toInt ∧ (a 12 j).toInt ≤ 12) (h0 : (¬ ((0 ≤ x.toInt ∧ x.toInt ≤ 5) ∧ (-1 ≤ y.toInt ∧ y.toInt < (a 12 x.toNatClampNeg).toInt))) → Q (some (.int (-1))) (HX s a w ++ Z)) (h1 : (((0 ≤ x.toInt ∧ x.toInt ≤ 5) ∧ (-1 ≤ y.toInt ∧ y.toInt < (a 12 x.toNatClampNeg).toInt)) ∧ y.toInt = -1) → Q (some (.int (a 12 x.toNatClampNeg))) (HX s a w ++ Z)) (h2 : (((0 ≤ x.toInt ∧ x.toInt ≤ 5) ∧ (-1 ≤ y.toInt ∧ y.toInt < (a 12 x.toNatClampNeg).toInt)) ∧ 0 ≤ y.toInt) → Q (some (.int (a 11 (x * 12 + y).toNatClampNeg))) (HX s a w ++ Z)) : zG (d + 3) 72 [.ref 14, .int x, .int y] (HX s a w ++ Z) Q := by
  refine g_72 (Nat.le_of_ble_eq_true rfl) ?_
  intro X0 hX0
  have e1 : (0 ≤ x.toInt ∧ x.toInt ≤ 5) → 0 ≤ (a 12 x.toNatClampNeg).toInt ∧ (a 12 x.toNatClampNeg).toInt ≤ 12 := fun h => hh _ (by have := cl_int x h.1; omega)
  have e2 : (0 ≤ x.toInt ∧ x.toInt ≤ 5) → (x * 12).toInt = x.toInt * 12 := fun h => i32_m12 x h
  have e4 : (0 ≤ x.toInt ∧ x.toInt ≤ 5) → (a 12 x.toNatClampNeg - 1).toInt = (a 12 x.toNatClampNeg).toInt - 1 := fun h => i32_sub (by have := e1 h; simp; omega)
  have e3 : (0 ≤ x.toInt ∧ x.toInt ≤ 5) → (0 ≤ y.toInt ∧ y.toInt ≤ 12) → (x * 12 + y).toInt = x.toInt * 12 + y.toInt := fun h h2 => ix12 x y h h2
  iterate 2 refine hX0 _ _ _ _ ?_
  refine x_isStack (fun c1 => ?_) (fun c2 => ?_)
  · refine hX0 _ _ _ _ ?_
    refine And.intro (fun c => absurd c (by decide)) (fun _ => ?_)
    iterate 6 refine hX0 _ _ _ _ ?_
    refine And.intro (by rw [vp_in_iff]; first | omega | ((try simp only [fa_le, fa_lt, fa_eq, va_up] at c1 ⊢) <;> (try simp [-Int32.toInt_sub, -Int32.toInt_add, -Int32.toInt_mul, -Int32.toInt_neg, -Int64.toInt_sub, -Int64.toInt_add] at c1 ⊢) <;> omega)) ?_
    iterate 3 refine hX0 _ _ _ _ ?_
    refine r_within (-1) _ rfl rfl (fun c3 => ?_) (fun c4 => ?_)
    · refine hX0 _ _ _ _ ?_
      refine And.intro (fun _ => ?_) (fun c => absurd c (by decide))
      iterate 3 refine hX0 _ _ _ _ ?_
      refine And.intro (fun c5 => ?_) (fun c5 => ?_)
      · iterate 8 refine hX0 _ _ _ _ ?_
        refine And.intro (by rw [vp_in_iff]; first | omega | ((try simp only [fa_le, fa_lt, fa_eq, va_up] at c1 c3 c5 ⊢) <;> (try simp [-Int32.toInt_sub, -Int32.toInt_add, -Int32.toInt_mul, -Int32.toInt_neg, -Int64.toInt_sub, -Int64.toInt_add] at c1 c3 c5 ⊢) <;> omega)) ?_
        refine hX0 _ _ _ _ ?_
        first | exact h0 (by first | omega | ((try simp only [fa_le, fa_lt, fa_eq, va_up] at c1 c3 c5 ⊢) <;> (try simp [-Int32.toInt_sub, -Int32.toInt_add, -Int32.toInt_mul, -Int32.toInt_neg, -Int64.toInt_sub, -Int64.toInt_add] at c1 c3 c5 ⊢) <;> omega)) | exact h1 (by first | omega | ((try simp only [fa_le, fa_lt, fa_eq, va_up] at c1 c3 c5 ⊢) <;> (try simp [-Int32.toInt_sub, -Int32.toInt_add, -Int32.toInt_mul, -Int32.toInt_neg, -Int64.toInt_sub, -Int64.toInt_add] at c1 c3 c5 ⊢) <;> omega)) | exact h2 (by first | omega | ((try simp only [fa_le, fa_lt, fa_eq, va_up] at c1 c3 c5 ⊢) <;> (try simp [-Int32.toInt_sub, -Int32.toInt_add, -Int32.toInt_mul, -Int32.toInt_neg, -Int64.toInt_sub, -Int64.toInt_add] at c1 c3 c5 ⊢) <;> omega)) | (exfalso; first | omega | ((try simp only [fa_le, fa_lt, fa_eq, va_up] at c1 c3 c5 ⊢) <;> (try simp [-Int32.toInt_sub, -Int32.toInt_add, -Int32.toInt_mul, -Int32.toInt_neg, -Int64.toInt_sub, -Int64.toInt_add] at c1 c3 c5 ⊢) <;> omega))
      · iterate 4 refine hX0 _ _ _ _ ?_
        refine And.intro (by rw [vp_in_iff]; first | omega | ((try simp only [fa_le, fa_lt, fa_eq, va_up] at c1 c3 c5 ⊢) <;> (try simp [-Int32.toInt_sub, -Int32.toInt_add, -Int32.toInt_mul, -Int32.toInt_neg, -Int64.toInt_sub, -Int64.toInt_add] at c1 c3 c5 ⊢) <;> omega)) ?_
        iterate 2 refine hX0 _ _ _ _ ?_
        first | exact h0 (by first | omega | ((try simp only [fa_le, fa_lt, fa_eq, va_up] at c1 c3 c5 ⊢) <;> (try simp [-Int32.toInt_sub, -Int32.toInt_add, -Int32.toInt_mul, -Int32.toInt_neg, -Int64.toInt_sub, -Int64.toInt_add] at c1 c3 c5 ⊢) <;> omega)) | exact h1 (by first | omega | ((try simp only [fa_le, fa_lt, fa_eq, va_up] at c1 c3 c5 ⊢) <;> (try simp [-Int32.toInt_sub, -Int32.toInt_add, -Int32.toInt_mul, -Int32.toInt_neg, -Int64.toInt_sub, -Int64.toInt_add] at c1 c3 c5 ⊢) <;> omega)) | exact h2 (by first | omega | ((try simp only [fa_le, fa_lt, fa_eq, va_up] at c1 c3 c5 ⊢) <;> (try simp [-Int32.toInt_sub, -Int32.toInt_add, -Int32.toInt_mul, -Int32.toInt_neg, -Int64.toInt_sub, -Int64.toInt_add] at c1 c3 c5 ⊢) <;> omega)) | (exfalso; first | omega | ((try simp only [fa_le, fa_lt, fa_eq, va_up] at c1 c3 c5 ⊢) <;> (try simp [-Int32.toInt_sub, -Int32.toInt_add, -Int32.toInt_mul, -Int32.toInt_neg, -Int64.toInt_sub, -Int64.toInt_add] at c1 c3 c5 ⊢) <;> omega))
    · refine hX0 _ _ _ _ ?_
      refine And.intro (fun c => absurd c (by decide)) (fun _ => ?_)
      iterate 2 refine hX0 _ _ _ _ ?_
      first | exact h0 (by first | omega | ((try simp only [fa_le, fa_lt, fa_eq, va_up] at c1 c4 ⊢) <;> (try simp [-Int32.toInt_sub, -Int32.toInt_add, -Int32.toInt_mul, -Int32.toInt_neg, -Int64.toInt_sub, -Int64.toInt_add] at c1 c4 ⊢) <;> omega)) | exact h1 (by first | omega | ((try simp only [fa_le, fa_lt, fa_eq, va_up] at c1 c4 ⊢) <;> (try simp [-Int32.toInt_sub, -Int32.toInt_add, -Int32.toInt_mul, -Int32.toInt_neg, -Int64.toInt_sub, -Int64.toInt_add] at c1 c4 ⊢) <;> omega)) | exact h2 (by first | omega | ((try simp only [fa_le, fa_lt, fa_eq, va_up] at c1 c4 ⊢) <;> (try simp [-Int32.toInt_sub, -Int32.toInt_add, -Int32.toInt_mul, -Int32.toInt_neg, -Int64.toInt_sub, -Int64.toInt_add] at c1 c4 ⊢) <;> omega)) | (exfalso; first | omega | ((try simp only [fa_le, fa_lt, fa_eq, va_up] at c1 c4 ⊢) <;> (try simp [-Int32.toInt_sub, -Int32.toInt_add, -Int32.toInt_mul, -Int32.toInt_neg, -Int64.toInt_sub, -Int64.toInt_add] at c1 c4 ⊢) <;> omega))
  · refine hX0 _ _ _ _ ?_
    refine And.intro (fun _ => ?_) (fun c => absurd c (by decide))
    iterate 2 refine hX0 _ _ _ _ ?_
    first | exact h0 (by first | omega | ((try simp only [fa_le, fa_lt, fa_eq, va_up] at c2 ⊢) <;> (try simp [-Int32.toInt_sub, -Int32.toInt_add, -Int32.toInt_mul, -Int32.toInt_neg, -Int64.toInt_sub, -Int64.toInt_add] at c2 ⊢) <;> omega)) | exact h1 (by first | omega | ((try simp only [fa_le, fa_lt, fa_eq, va_up] at c2 ⊢) <;> (try simp [-Int32.toInt_sub, -Int32.toInt_add, -Int32.toInt_mul, -Int32.toInt_neg, -Int64.toInt_sub, -Int64.toInt_add] at c2 ⊢) <;> omega)) | exact h2 (by first | omega | ((try simp only [fa_le, fa_lt, fa_eq, va_up] at c2 ⊢) <;> (try simp [-Int32.toInt_sub, -Int32.toInt_add, -Int32.toInt_mul, -Int32.toInt_neg, -Int64.toInt_sub, -Int64.toInt_add] at c2 ⊢) <;> omega)) | (exfalso; first | omega | ((try simp only [fa_le, fa_lt, fa_eq, va_up] at c2 ⊢) <;> (try simp [-Int32.toInt_sub, -Int32.toInt_add, -Int32.toInt_mul, -Int32.toInt_neg, -Int64.toInt_sub, -Int64.toInt_add] at c2 ⊢) <;> omega))

set_option maxRecDepth 100000 in
theorem x_stack {d : Nat} {s : Nat → Int32} {a : Nat → Nat → Int32} {w : Bool} {Z : zH} {x y : Int32} {Q : zQ} (hh : ∀ j, j < 6 → 0 ≤ (a 12 j).toInt ∧ (a 12 j).toInt ≤ 12) (h0 : (¬ ((0 ≤ x.toInt ∧ x.toInt ≤ 5) ∧ (-1 ≤ y.toInt ∧ y.toInt < (a 12 x.toNatClampNeg).toInt))) → Q (some (.int (-1))) (HX s a w ++ Z)) (h1 : (((0 ≤ x.toInt ∧ x.toInt ≤ 5) ∧ (-1 ≤ y.toInt ∧ y.toInt < (a 12 x.toNatClampNeg).toInt)) ∧ y.toInt = -1) → Q (some (.int (a 12 x.toNatClampNeg))) (HX s a w ++ Z)) (h2 : (((0 ≤ x.toInt ∧ x.toInt ≤ 5) ∧ (-1 ≤ y.toInt ∧ y.toInt < (a 12 x.toNatClampNeg).toInt)) ∧ 0 ≤ y.toInt) → Q (some (.int (a 11 (x * 12 + y).toNatClampNeg))) (HX s a w ++ Z)) : zG (d + 4) 86 [.ref 0, .int x, .int y] (HX s a w ++ Z) Q := by
  refine g_86 (Nat.le_of_ble_eq_true rfl) ?_
  intro X0 hX0
  iterate 5 refine hX0 _ _ _ _ ?_
  refine x_ofStack hh (fun c1 => ?_) (fun c2 => ?_) (fun c3 => ?_)
  · refine hX0 _ _ _ _ ?_
    first | exact h0 (by first | omega | ((try simp only [fa_le, fa_lt, fa_eq, va_up] at c1 ⊢) <;> (try simp [-Int32.toInt_sub, -Int32.toInt_add, -Int32.toInt_mul, -Int32.toInt_neg, -Int64.toInt_sub, -Int64.toInt_add] at c1 ⊢) <;> omega)) | exact h1 (by first | omega | ((try simp only [fa_le, fa_lt, fa_eq, va_up] at c1 ⊢) <;> (try simp [-Int32.toInt_sub, -Int32.toInt_add, -Int32.toInt_mul, -Int32.toInt_neg, -Int64.toInt_sub, -Int64.toInt_add] at c1 ⊢) <;> omega)) | exact h2 (by first | omega | ((try simp only [fa_le, fa_lt, fa_eq, va_up] at c1 ⊢) <;> (try simp [-Int32.toInt_sub, -Int32.toInt_add, -Int32.toInt_mul, -Int32.toInt_neg, -Int64.toInt_sub, -Int64.toInt_add] at c1 ⊢) <;> omega)) | (exfalso; first | omega | ((try simp only [fa_le, fa_lt, fa_eq, va_up] at c1 ⊢) <;> (try simp [-Int32.toInt_sub, -Int32.toInt_add, -Int32.toInt_mul, -Int32.toInt_neg, -Int64.toInt_sub, -Int64.toInt_add] at c1 ⊢) <;> omega))
  · refine hX0 _ _ _ _ ?_
    first | exact h0 (by first | omega | ((try simp only [fa_le, fa_lt, fa_eq, va_up] at c2 ⊢) <;> (try simp [-Int32.toInt_sub, -Int32.toInt_add, -Int32.toInt_mul, -Int32.toInt_neg, -Int64.toInt_sub, -Int64.toInt_add] at c2 ⊢) <;> omega)) | exact h1 (by first | omega | ((try simp only [fa_le, fa_lt, fa_eq, va_up] at c2 ⊢) <;> (try simp [-Int32.toInt_sub, -Int32.toInt_add, -Int32.toInt_mul, -Int32.toInt_neg, -Int64.toInt_sub, -Int64.toInt_add] at c2 ⊢) <;> omega)) | exact h2 (by first | omega | ((try simp only [fa_le, fa_lt, fa_eq, va_up] at c2 ⊢) <;> (try simp [-Int32.toInt_sub, -Int32.toInt_add, -Int32.toInt_mul, -Int32.toInt_neg, -Int64.toInt_sub, -Int64.toInt_add] at c2 ⊢) <;> omega)) | (exfalso; first | omega | ((try simp only [fa_le, fa_lt, fa_eq, va_up] at c2 ⊢) <;> (try simp [-Int32.toInt_sub, -Int32.toInt_add, -Int32.toInt_mul, -Int32.toInt_neg, -Int64.toInt_sub, -Int64.toInt_add] at c2 ⊢) <;> omega))
  · refine hX0 _ _ _ _ ?_
    first | exact h0 (by first | omega | ((try simp only [fa_le, fa_lt, fa_eq, va_up] at c3 ⊢) <;> (try simp [-Int32.toInt_sub, -Int32.toInt_add, -Int32.toInt_mul, -Int32.toInt_neg, -Int64.toInt_sub, -Int64.toInt_add] at c3 ⊢) <;> omega)) | exact h1 (by first | omega | ((try simp only [fa_le, fa_lt, fa_eq, va_up] at c3 ⊢) <;> (try simp [-Int32.toInt_sub, -Int32.toInt_add, -Int32.toInt_mul, -Int32.toInt_neg, -Int64.toInt_sub, -Int64.toInt_add] at c3 ⊢) <;> omega)) | exact h2 (by first | omega | ((try simp only [fa_le, fa_lt, fa_eq, va_up] at c3 ⊢) <;> (try simp [-Int32.toInt_sub, -Int32.toInt_add, -Int32.toInt_mul, -Int32.toInt_neg, -Int64.toInt_sub, -Int64.toInt_add] at c3 ⊢) <;> omega)) | (exfalso; first | omega | ((try simp only [fa_le, fa_lt, fa_eq, va_up] at c3 ⊢) <;> (try simp [-Int32.toInt_sub, -Int32.toInt_add, -Int32.toInt_mul, -Int32.toInt_neg, -Int64.toInt_sub, -Int64.toInt_add] at c3 ⊢) <;> omega))

set_option maxRecDepth 100000 in
theorem y_stack {d : Nat} {s : Nat → Int32} {a : Nat → Nat → Int32} {w : Bool} {t : Nat → Int32} {b : Nat → Nat → Int32} {u : Nat → Int64} {c : Nat → Nat → Int64} {x y : Int32} {Q : zQ} (hh : ∀ j, j < 6 → 0 ≤ (b 18 j).toInt ∧ (b 18 j).toInt ≤ 12) (h0 : (¬ ((0 ≤ x.toInt ∧ x.toInt ≤ 5) ∧ (-1 ≤ y.toInt ∧ y.toInt < (b 18 x.toNatClampNeg).toInt))) → Q (some (.int (-1))) (HX s a w ++ HM (va_up t 0 (0)) b u c)) (h1 : (((0 ≤ x.toInt ∧ x.toInt ≤ 5) ∧ (-1 ≤ y.toInt ∧ y.toInt < (b 18 x.toNatClampNeg).toInt)) ∧ y.toInt = -1) → Q (some (.int (b 18 x.toNatClampNeg))) (HX s a w ++ HM (va_up t 0 (0)) b u c)) (h2 : (((0 ≤ x.toInt ∧ x.toInt ≤ 5) ∧ (-1 ≤ y.toInt ∧ y.toInt < (b 18 x.toNatClampNeg).toInt)) ∧ 0 ≤ y.toInt) → Q (some (.int (b 17 (12 * x + y).toNatClampNeg))) (HX s a w ++ HM (va_up t 0 (0)) b u c)) : zG (d + 3) 125 [.ref 56, .int x, .int y] (HX s a w ++ HM t b u c) Q := by
  refine g_125 (Nat.le_of_ble_eq_true rfl) ?_
  intro X0 hX0
  have e1 : (0 ≤ x.toInt ∧ x.toInt ≤ 5) → 0 ≤ (b 18 x.toNatClampNeg).toInt ∧ (b 18 x.toNatClampNeg).toInt ≤ 12 := fun h => hh _ (by have := cl_int x h.1; omega)
  have e2 : (0 ≤ x.toInt ∧ x.toInt ≤ 5) → (12 * x).toInt = x.toInt * 12 := fun h => i32_12m x h
  have e4 := i64_m1 (b 18 x.toNatClampNeg)
  have e3 : (0 ≤ x.toInt ∧ x.toInt ≤ 5) → (0 ≤ y.toInt ∧ y.toInt ≤ 12) → (12 * x + y).toInt = x.toInt * 12 + y.toInt := fun h h2 => ix12' x y h h2
  iterate 3 refine hX0 _ _ _ _ ?_
  refine zcast (X := X0) yt_0 ?_
  iterate 2 refine hX0 _ _ _ _ ?_
  refine y_isStack (fun c1 => ?_) (fun c2 => ?_)
  · refine hX0 _ _ _ _ ?_
    refine And.intro (fun _ => ?_) (fun c => absurd c (by decide))
    iterate 3 refine hX0 _ _ _ _ ?_
    refine And.intro (fun c3 => ?_) (fun c3 => ?_)
    · iterate 7 refine hX0 _ _ _ _ ?_
      refine And.intro (by rw [vp_in_iff]; first | omega | ((try simp only [fa_le, fa_lt, fa_eq, va_up] at c1 c3 ⊢) <;> (try simp [-Int32.toInt_sub, -Int32.toInt_add, -Int32.toInt_mul, -Int32.toInt_neg, -Int64.toInt_sub, -Int64.toInt_add] at c1 c3 ⊢) <;> omega)) ?_
      iterate 4 refine hX0 _ _ _ _ ?_
      refine r_in (0) _ rfl rfl (fun c4 => ?_) (fun c5 => ?_)
      · refine hX0 _ _ _ _ ?_
        refine And.intro (fun c => absurd c (by decide)) (fun _ => ?_)
        iterate 8 refine hX0 _ _ _ _ ?_
        refine And.intro (by rw [vp_in_iff]; first | omega | ((try simp only [fa_le, fa_lt, fa_eq, va_up] at c1 c3 c4 ⊢) <;> (try simp [-Int32.toInt_sub, -Int32.toInt_add, -Int32.toInt_mul, -Int32.toInt_neg, -Int64.toInt_sub, -Int64.toInt_add] at c1 c3 c4 ⊢) <;> omega)) ?_
        iterate 2 refine hX0 _ _ _ _ ?_
        first | exact h0 (by first | omega | ((try simp only [fa_le, fa_lt, fa_eq, va_up] at c1 c3 c4 ⊢) <;> (try simp [-Int32.toInt_sub, -Int32.toInt_add, -Int32.toInt_mul, -Int32.toInt_neg, -Int64.toInt_sub, -Int64.toInt_add] at c1 c3 c4 ⊢) <;> omega)) | exact h1 (by first | omega | ((try simp only [fa_le, fa_lt, fa_eq, va_up] at c1 c3 c4 ⊢) <;> (try simp [-Int32.toInt_sub, -Int32.toInt_add, -Int32.toInt_mul, -Int32.toInt_neg, -Int64.toInt_sub, -Int64.toInt_add] at c1 c3 c4 ⊢) <;> omega)) | exact h2 (by first | omega | ((try simp only [fa_le, fa_lt, fa_eq, va_up] at c1 c3 c4 ⊢) <;> (try simp [-Int32.toInt_sub, -Int32.toInt_add, -Int32.toInt_mul, -Int32.toInt_neg, -Int64.toInt_sub, -Int64.toInt_add] at c1 c3 c4 ⊢) <;> omega)) | (exfalso; first | omega | ((try simp only [fa_le, fa_lt, fa_eq, va_up] at c1 c3 c4 ⊢) <;> (try simp [-Int32.toInt_sub, -Int32.toInt_add, -Int32.toInt_mul, -Int32.toInt_neg, -Int64.toInt_sub, -Int64.toInt_add] at c1 c3 c4 ⊢) <;> omega))
      · refine hX0 _ _ _ _ ?_
        refine And.intro (fun _ => ?_) (fun c => absurd c (by decide))
        iterate 2 refine hX0 _ _ _ _ ?_
        first | exact h0 (by first | omega | ((try simp only [fa_le, fa_lt, fa_eq, va_up] at c1 c3 c5 ⊢) <;> (try simp [-Int32.toInt_sub, -Int32.toInt_add, -Int32.toInt_mul, -Int32.toInt_neg, -Int64.toInt_sub, -Int64.toInt_add] at c1 c3 c5 ⊢) <;> omega)) | exact h1 (by first | omega | ((try simp only [fa_le, fa_lt, fa_eq, va_up] at c1 c3 c5 ⊢) <;> (try simp [-Int32.toInt_sub, -Int32.toInt_add, -Int32.toInt_mul, -Int32.toInt_neg, -Int64.toInt_sub, -Int64.toInt_add] at c1 c3 c5 ⊢) <;> omega)) | exact h2 (by first | omega | ((try simp only [fa_le, fa_lt, fa_eq, va_up] at c1 c3 c5 ⊢) <;> (try simp [-Int32.toInt_sub, -Int32.toInt_add, -Int32.toInt_mul, -Int32.toInt_neg, -Int64.toInt_sub, -Int64.toInt_add] at c1 c3 c5 ⊢) <;> omega)) | (exfalso; first | omega | ((try simp only [fa_le, fa_lt, fa_eq, va_up] at c1 c3 c5 ⊢) <;> (try simp [-Int32.toInt_sub, -Int32.toInt_add, -Int32.toInt_mul, -Int32.toInt_neg, -Int64.toInt_sub, -Int64.toInt_add] at c1 c3 c5 ⊢) <;> omega))
    · iterate 4 refine hX0 _ _ _ _ ?_
      refine And.intro (by rw [vp_in_iff]; first | omega | ((try simp only [fa_le, fa_lt, fa_eq, va_up] at c1 c3 ⊢) <;> (try simp [-Int32.toInt_sub, -Int32.toInt_add, -Int32.toInt_mul, -Int32.toInt_neg, -Int64.toInt_sub, -Int64.toInt_add] at c1 c3 ⊢) <;> omega)) ?_
      iterate 2 refine hX0 _ _ _ _ ?_
      first | exact h0 (by first | omega | ((try simp only [fa_le, fa_lt, fa_eq, va_up] at c1 c3 ⊢) <;> (try simp [-Int32.toInt_sub, -Int32.toInt_add, -Int32.toInt_mul, -Int32.toInt_neg, -Int64.toInt_sub, -Int64.toInt_add] at c1 c3 ⊢) <;> omega)) | exact h1 (by first | omega | ((try simp only [fa_le, fa_lt, fa_eq, va_up] at c1 c3 ⊢) <;> (try simp [-Int32.toInt_sub, -Int32.toInt_add, -Int32.toInt_mul, -Int32.toInt_neg, -Int64.toInt_sub, -Int64.toInt_add] at c1 c3 ⊢) <;> omega)) | exact h2 (by first | omega | ((try simp only [fa_le, fa_lt, fa_eq, va_up] at c1 c3 ⊢) <;> (try simp [-Int32.toInt_sub, -Int32.toInt_add, -Int32.toInt_mul, -Int32.toInt_neg, -Int64.toInt_sub, -Int64.toInt_add] at c1 c3 ⊢) <;> omega)) | (exfalso; first | omega | ((try simp only [fa_le, fa_lt, fa_eq, va_up] at c1 c3 ⊢) <;> (try simp [-Int32.toInt_sub, -Int32.toInt_add, -Int32.toInt_mul, -Int32.toInt_neg, -Int64.toInt_sub, -Int64.toInt_add] at c1 c3 ⊢) <;> omega))
  · refine hX0 _ _ _ _ ?_
    refine And.intro (fun c => absurd c (by decide)) (fun _ => ?_)
    iterate 2 refine hX0 _ _ _ _ ?_
    first | exact h0 (by first | omega | ((try simp only [fa_le, fa_lt, fa_eq, va_up] at c2 ⊢) <;> (try simp [-Int32.toInt_sub, -Int32.toInt_add, -Int32.toInt_mul, -Int32.toInt_neg, -Int64.toInt_sub, -Int64.toInt_add] at c2 ⊢) <;> omega)) | exact h1 (by first | omega | ((try simp only [fa_le, fa_lt, fa_eq, va_up] at c2 ⊢) <;> (try simp [-Int32.toInt_sub, -Int32.toInt_add, -Int32.toInt_mul, -Int32.toInt_neg, -Int64.toInt_sub, -Int64.toInt_add] at c2 ⊢) <;> omega)) | exact h2 (by first | omega | ((try simp only [fa_le, fa_lt, fa_eq, va_up] at c2 ⊢) <;> (try simp [-Int32.toInt_sub, -Int32.toInt_add, -Int32.toInt_mul, -Int32.toInt_neg, -Int64.toInt_sub, -Int64.toInt_add] at c2 ⊢) <;> omega)) | (exfalso; first | omega | ((try simp only [fa_le, fa_lt, fa_eq, va_up] at c2 ⊢) <;> (try simp [-Int32.toInt_sub, -Int32.toInt_add, -Int32.toInt_mul, -Int32.toInt_neg, -Int64.toInt_sub, -Int64.toInt_add] at c2 ⊢) <;> omega))

set_option maxRecDepth 100000 in
theorem x_switchOn {d : Nat} {s : Nat → Int32} {a : Nat → Nat → Int32} {w : Bool} {Z : zH} {x : Int32} {Q : zQ}  (h0 : (¬ (0 ≤ x.toInt ∧ x.toInt ≤ ((1 : Int32) <<< (s 6 &&& 31) - 1).toInt)) → Q (some (.int (-1))) (HX s a w ++ Z)) (h1 : (0 ≤ x.toInt ∧ x.toInt ≤ ((1 : Int32) <<< (s 6 &&& 31) - 1).toInt) → Q (some (.int (s 5))) (HX (va_up s 5 (x)) a w ++ Z)) : zG (d + 2) 20 [.ref 3, .int x] (HX s a w ++ Z) Q := by
  refine g_20 (Nat.le_of_ble_eq_true rfl) ?_
  intro X0 hX0
  iterate 9 refine hX0 _ _ _ _ ?_
  refine r_within (0) _ rfl rfl (fun c1 => ?_) (fun c2 => ?_)
  · refine hX0 _ _ _ _ ?_
    refine And.intro (fun _ => ?_) (fun c => absurd c (by decide))
    iterate 6 refine hX0 _ _ _ _ ?_
    refine zcast (X := X0) xs_5 ?_
    iterate 2 refine hX0 _ _ _ _ ?_
    first | exact h0 (by first | omega | ((try simp only [fa_le, fa_lt, fa_eq, va_up] at c1 ⊢) <;> (try simp [-Int32.toInt_sub, -Int32.toInt_add, -Int32.toInt_mul, -Int32.toInt_neg, -Int64.toInt_sub, -Int64.toInt_add] at c1 ⊢) <;> omega)) | exact h1 (by first | omega | ((try simp only [fa_le, fa_lt, fa_eq, va_up] at c1 ⊢) <;> (try simp [-Int32.toInt_sub, -Int32.toInt_add, -Int32.toInt_mul, -Int32.toInt_neg, -Int64.toInt_sub, -Int64.toInt_add] at c1 ⊢) <;> omega)) | (exfalso; first | omega | ((try simp only [fa_le, fa_lt, fa_eq, va_up] at c1 ⊢) <;> (try simp [-Int32.toInt_sub, -Int32.toInt_add, -Int32.toInt_mul, -Int32.toInt_neg, -Int64.toInt_sub, -Int64.toInt_add] at c1 ⊢) <;> omega))
  · refine hX0 _ _ _ _ ?_
    refine And.intro (fun c => absurd c (by decide)) (fun _ => ?_)
    iterate 2 refine hX0 _ _ _ _ ?_
    first | exact h0 (by first | omega | ((try simp only [fa_le, fa_lt, fa_eq, va_up] at c2 ⊢) <;> (try simp [-Int32.toInt_sub, -Int32.toInt_add, -Int32.toInt_mul, -Int32.toInt_neg, -Int64.toInt_sub, -Int64.toInt_add] at c2 ⊢) <;> omega)) | exact h1 (by first | omega | ((try simp only [fa_le, fa_lt, fa_eq, va_up] at c2 ⊢) <;> (try simp [-Int32.toInt_sub, -Int32.toInt_add, -Int32.toInt_mul, -Int32.toInt_neg, -Int64.toInt_sub, -Int64.toInt_add] at c2 ⊢) <;> omega)) | (exfalso; first | omega | ((try simp only [fa_le, fa_lt, fa_eq, va_up] at c2 ⊢) <;> (try simp [-Int32.toInt_sub, -Int32.toInt_add, -Int32.toInt_mul, -Int32.toInt_neg, -Int64.toInt_sub, -Int64.toInt_add] at c2 ⊢) <;> omega))

set_option maxRecDepth 100000 in
theorem x_on {d : Nat} {s : Nat → Int32} {a : Nat → Nat → Int32} {w : Bool} {Z : zH} {x : Int32} {Q : zQ}  (h0 : (¬ (0 ≤ x.toInt ∧ x.toInt ≤ ((1 : Int32) <<< (s 6 &&& 31) - 1).toInt)) → Q (some (.int (-1))) (HX (va_up s 2 (-1)) a w ++ Z)) (h1 : (0 ≤ x.toInt ∧ x.toInt ≤ ((1 : Int32) <<< (s 6 &&& 31) - 1).toInt) → Q (some (.int (s 5))) (HX (va_up (va_up s 5 (x)) 2 (zcode (s 5))) a w ++ Z)) : zG (d + 3) 81 [.ref 0, .int x] (HX s a w ++ Z) Q := by
  refine g_81 (Nat.le_of_ble_eq_true rfl) ?_
  intro X0 hX0
  iterate 5 refine hX0 _ _ _ _ ?_
  refine x_switchOn (fun c1 => ?_) (fun c2 => ?_)
  · refine hX0 _ _ _ _ ?_
    refine r_answered ?_
    refine hX0 _ _ _ _ ?_
    first | exact h0 (by first | omega | ((try simp only [fa_le, fa_lt, fa_eq, va_up] at c1 ⊢) <;> (try simp [-Int32.toInt_sub, -Int32.toInt_add, -Int32.toInt_mul, -Int32.toInt_neg, -Int64.toInt_sub, -Int64.toInt_add] at c1 ⊢) <;> omega)) | exact h1 (by first | omega | ((try simp only [fa_le, fa_lt, fa_eq, va_up] at c1 ⊢) <;> (try simp [-Int32.toInt_sub, -Int32.toInt_add, -Int32.toInt_mul, -Int32.toInt_neg, -Int64.toInt_sub, -Int64.toInt_add] at c1 ⊢) <;> omega)) | (exfalso; first | omega | ((try simp only [fa_le, fa_lt, fa_eq, va_up] at c1 ⊢) <;> (try simp [-Int32.toInt_sub, -Int32.toInt_add, -Int32.toInt_mul, -Int32.toInt_neg, -Int64.toInt_sub, -Int64.toInt_add] at c1 ⊢) <;> omega))
  · refine hX0 _ _ _ _ ?_
    refine r_answered ?_
    refine hX0 _ _ _ _ ?_
    first | exact h0 (by first | omega | ((try simp only [fa_le, fa_lt, fa_eq, va_up] at c2 ⊢) <;> (try simp [-Int32.toInt_sub, -Int32.toInt_add, -Int32.toInt_mul, -Int32.toInt_neg, -Int64.toInt_sub, -Int64.toInt_add] at c2 ⊢) <;> omega)) | exact h1 (by first | omega | ((try simp only [fa_le, fa_lt, fa_eq, va_up] at c2 ⊢) <;> (try simp [-Int32.toInt_sub, -Int32.toInt_add, -Int32.toInt_mul, -Int32.toInt_neg, -Int64.toInt_sub, -Int64.toInt_add] at c2 ⊢) <;> omega)) | (exfalso; first | omega | ((try simp only [fa_le, fa_lt, fa_eq, va_up] at c2 ⊢) <;> (try simp [-Int32.toInt_sub, -Int32.toInt_add, -Int32.toInt_mul, -Int32.toInt_neg, -Int64.toInt_sub, -Int64.toInt_add] at c2 ⊢) <;> omega))

set_option maxRecDepth 100000 in
theorem y_on {d : Nat} {s : Nat → Int32} {a : Nat → Nat → Int32} {w : Bool} {t : Nat → Int32} {b : Nat → Nat → Int32} {u : Nat → Int64} {c : Nat → Nat → Int64} {x : Int32} {Q : zQ}  (h0 : (¬ (0 ≤ x.toInt ∧ x.toInt ≤ ((1 : Int64) <<< ((t 7).toInt64 &&& 63) - 1).toInt)) → Q (some (.int (-1))) (HX s a w ++ HM (va_up (va_up t 0 (0)) 1 (-1)) b u c)) (h1 : (0 ≤ x.toInt ∧ x.toInt ≤ ((1 : Int64) <<< ((t 7).toInt64 &&& 63) - 1).toInt) → Q (some (.int (t 8))) (HX s a w ++ HM (va_up (va_up (va_up t 0 (0)) 8 (x)) 1 (zcode (t 8))) b u c)) : zG (d + 2) 116 [.ref 56, .int x] (HX s a w ++ HM t b u c) Q := by
  refine g_116 (Nat.le_of_ble_eq_true rfl) ?_
  intro X0 hX0
  iterate 3 refine hX0 _ _ _ _ ?_
  refine zcast (X := X0) yt_0 ?_
  iterate 10 refine hX0 _ _ _ _ ?_
  refine r_in (0) _ rfl rfl (fun c1 => ?_) (fun c2 => ?_)
  · refine hX0 _ _ _ _ ?_
    refine And.intro (fun _ => ?_) (fun c => absurd c (by decide))
    iterate 6 refine hX0 _ _ _ _ ?_
    refine zcast (X := X0) yt_8 ?_
    iterate 3 refine hX0 _ _ _ _ ?_
    refine r_told ?_
    refine hX0 _ _ _ _ ?_
    first | exact h0 (by first | omega | ((try simp only [fa_le, fa_lt, fa_eq, va_up] at c1 ⊢) <;> (try simp [-Int32.toInt_sub, -Int32.toInt_add, -Int32.toInt_mul, -Int32.toInt_neg, -Int64.toInt_sub, -Int64.toInt_add] at c1 ⊢) <;> omega)) | exact h1 (by first | omega | ((try simp only [fa_le, fa_lt, fa_eq, va_up] at c1 ⊢) <;> (try simp [-Int32.toInt_sub, -Int32.toInt_add, -Int32.toInt_mul, -Int32.toInt_neg, -Int64.toInt_sub, -Int64.toInt_add] at c1 ⊢) <;> omega)) | (exfalso; first | omega | ((try simp only [fa_le, fa_lt, fa_eq, va_up] at c1 ⊢) <;> (try simp [-Int32.toInt_sub, -Int32.toInt_add, -Int32.toInt_mul, -Int32.toInt_neg, -Int64.toInt_sub, -Int64.toInt_add] at c1 ⊢) <;> omega))
  · refine hX0 _ _ _ _ ?_
    refine And.intro (fun c => absurd c (by decide)) (fun _ => ?_)
    iterate 3 refine hX0 _ _ _ _ ?_
    refine r_told ?_
    refine hX0 _ _ _ _ ?_
    first | exact h0 (by first | omega | ((try simp only [fa_le, fa_lt, fa_eq, va_up] at c2 ⊢) <;> (try simp [-Int32.toInt_sub, -Int32.toInt_add, -Int32.toInt_mul, -Int32.toInt_neg, -Int64.toInt_sub, -Int64.toInt_add] at c2 ⊢) <;> omega)) | exact h1 (by first | omega | ((try simp only [fa_le, fa_lt, fa_eq, va_up] at c2 ⊢) <;> (try simp [-Int32.toInt_sub, -Int32.toInt_add, -Int32.toInt_mul, -Int32.toInt_neg, -Int64.toInt_sub, -Int64.toInt_add] at c2 ⊢) <;> omega)) | (exfalso; first | omega | ((try simp only [fa_le, fa_lt, fa_eq, va_up] at c2 ⊢) <;> (try simp [-Int32.toInt_sub, -Int32.toInt_add, -Int32.toInt_mul, -Int32.toInt_neg, -Int64.toInt_sub, -Int64.toInt_add] at c2 ⊢) <;> omega))
