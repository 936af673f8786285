/-! SIMPLE METHODS, station (x_) and reference (y_): what they answer and write -/

set_option maxRecDepth 100000 in
theorem x_setMill {d : Nat} {s : Nat → Int32} {a : Nat → Nat → Int32} {w : Bool} {Z : zH} {x y : Int32} {Q : zQ}  (h0 : (¬ (0 ≤ x.toInt ∧ x.toInt ≤ 60 ∧ 0 ≤ y.toInt ∧ y.toInt ≤ 1000)) → Q (some (.int (-1))) (HX s a w ++ Z)) (h1 : (0 ≤ x.toInt ∧ x.toInt ≤ 60 ∧ 0 ≤ y.toInt ∧ y.toInt ≤ 1000) → Q (some (.int (0))) (HX s (va_up a 4 (upd (a 4) x.toNatClampNeg y)) w ++ Z)) : zG (d + 2) 18 [.ref 3, .int x, .int y] (HX s a w ++ Z) Q := by
  refine g_18 (Nat.le_of_ble_eq_true rfl) ?_
  intro X0 hX0
  iterate 4 refine hX0 _ _ _ _ ?_
  refine r_within (0) (60) rfl rfl (fun c1 => ?_) (fun c2 => ?_)
  · refine hX0 _ _ _ _ ?_
    refine And.intro (fun c => absurd c (by decide)) (fun _ => ?_)
    iterate 4 refine hX0 _ _ _ _ ?_
    refine r_within (0) (1000) rfl rfl (fun c3 => ?_) (fun c4 => ?_)
    · refine hX0 _ _ _ _ ?_
      refine And.intro (fun _ => ?_) (fun c => absurd c (by decide))
      iterate 5 refine hX0 _ _ _ _ ?_
      refine And.intro (by rw [vp_in_iff]; omega) ?_
      refine zcast (X := X0) xa_4 ?_
      iterate 2 refine hX0 _ _ _ _ ?_
      first | exact h0 (by omega) | exact h1 (by omega) | (exfalso; omega)
    · refine hX0 _ _ _ _ ?_
      refine And.intro (fun c => absurd c (by decide)) (fun _ => ?_)
      iterate 2 refine hX0 _ _ _ _ ?_
      first | exact h0 (by omega) | exact h1 (by omega) | (exfalso; omega)
  · refine hX0 _ _ _ _ ?_
    refine And.intro (fun _ => ?_) (fun c => absurd c (by decide))
    iterate 2 refine hX0 _ _ _ _ ?_
    first | exact h0 (by omega) | exact h1 (by omega) | (exfalso; omega)

set_option maxRecDepth 100000 in
theorem x_mill {d : Nat} {s : Nat → Int32} {a : Nat → Nat → Int32} {w : Bool} {Z : zH} {x y : Int32} {Q : zQ}  (h0 : (¬ (0 ≤ x.toInt ∧ x.toInt ≤ 60 ∧ 0 ≤ y.toInt ∧ y.toInt ≤ 1000)) → Q (some (.int (-1))) (HX (va_up s 2 (-1)) a w ++ Z)) (h1 : (0 ≤ x.toInt ∧ x.toInt ≤ 60 ∧ 0 ≤ y.toInt ∧ y.toInt ≤ 1000) → Q (some (.int (0))) (HX (va_up s 2 (0)) (va_up a 4 (upd (a 4) x.toNatClampNeg y)) w ++ Z)) : zG (d + 3) 79 [.ref 0, .int x, .int y] (HX s a w ++ Z) Q := by
  refine g_79 (Nat.le_of_ble_eq_true rfl) ?_
  intro X0 hX0
  iterate 6 refine hX0 _ _ _ _ ?_
  refine x_setMill (fun c1 => ?_) (fun c2 => ?_)
  · refine hX0 _ _ _ _ ?_
    refine r_answered ?_
    refine hX0 _ _ _ _ ?_
    first | exact h0 (by omega) | exact h1 (by omega) | (exfalso; omega)
  · refine hX0 _ _ _ _ ?_
    refine r_answered ?_
    refine hX0 _ _ _ _ ?_
    first | exact h0 (by omega) | exact h1 (by omega) | (exfalso; omega)

set_option maxRecDepth 100000 in
theorem y_mill {d : Nat} {s : Nat → Int32} {a : Nat → Nat → Int32} {w : Bool} {t : Nat → Int32} {b : Nat → Nat → Int32} {u : Nat → Int64} {c : Nat → Nat → Int64} {x y : Int32} {Q : zQ}  (h0 : (¬ (0 ≤ x.toInt ∧ x.toInt ≤ 60 ∧ 0 ≤ y.toInt ∧ y.toInt ≤ 1000)) → Q (some (.int (-1))) (HX s a w ++ HM (va_up (va_up t 0 (0)) 1 (-1)) b u c)) (h1 : (0 ≤ x.toInt ∧ x.toInt ≤ 60 ∧ 0 ≤ y.toInt ∧ y.toInt ≤ 1000) → Q (some (.int (0))) (HX s a w ++ HM (va_up (va_up t 0 (0)) 1 (0)) (va_up b 12 (upd (b 12) x.toNatClampNeg y)) u c)) : zG (d + 2) 114 [.ref 56, .int x, .int y] (HX s a w ++ HM t b u c) Q := by
  refine g_114 (Nat.le_of_ble_eq_true rfl) ?_
  intro X0 hX0
  iterate 3 refine hX0 _ _ _ _ ?_
  refine zcast (X := X0) yt_0 ?_
  iterate 5 refine hX0 _ _ _ _ ?_
  refine r_in (0) (60) rfl rfl (fun c1 => ?_) (fun c2 => ?_)
  · refine hX0 _ _ _ _ ?_
    refine And.intro (fun c => absurd c (by decide)) (fun _ => ?_)
    iterate 5 refine hX0 _ _ _ _ ?_
    refine r_in (0) (1000) rfl rfl (fun c3 => ?_) (fun c4 => ?_)
    · refine hX0 _ _ _ _ ?_
      refine And.intro (fun _ => ?_) (fun c => absurd c (by decide))
      iterate 5 refine hX0 _ _ _ _ ?_
      refine And.intro (by rw [vp_in_iff]; omega) ?_
      refine zcast (X := X0) yb_12 ?_
      iterate 3 refine hX0 _ _ _ _ ?_
      refine r_told ?_
      refine hX0 _ _ _ _ ?_
      first | exact h0 (by omega) | exact h1 (by omega) | (exfalso; omega)
    · refine hX0 _ _ _ _ ?_
      refine And.intro (fun c => absurd c (by decide)) (fun _ => ?_)
      iterate 3 refine hX0 _ _ _ _ ?_
      refine r_told ?_
      refine hX0 _ _ _ _ ?_
      first | exact h0 (by omega) | exact h1 (by omega) | (exfalso; omega)
  · refine hX0 _ _ _ _ ?_
    refine And.intro (fun _ => ?_) (fun c => absurd c (by decide))
    iterate 3 refine hX0 _ _ _ _ ?_
    refine r_told ?_
    refine hX0 _ _ _ _ ?_
    first | exact h0 (by omega) | exact h1 (by omega) | (exfalso; omega)

set_option maxRecDepth 100000 in
theorem x_setDemand {d : Nat} {s : Nat → Int32} {a : Nat → Nat → Int32} {w : Bool} {Z : zH} {x y : Int32} {Q : zQ}  (h0 : (¬ (0 ≤ x.toInt ∧ x.toInt ≤ 23 ∧ 0 ≤ y.toInt ∧ y.toInt ≤ 10000)) → Q (some (.int (-1))) (HX s a w ++ Z)) (h1 : (0 ≤ x.toInt ∧ x.toInt ≤ 23 ∧ 0 ≤ y.toInt ∧ y.toInt ≤ 10000) → Q (some (.int (0))) (HX s (va_up a 5 (upd (a 5) x.toNatClampNeg y)) w ++ Z)) : zG (d + 2) 19 [.ref 3, .int x, .int y] (HX s a w ++ Z) Q := by
  refine g_19 (Nat.le_of_ble_eq_true rfl) ?_
  intro X0 hX0
  iterate 4 refine hX0 _ _ _ _ ?_
  refine r_within (0) (23) rfl rfl (fun c1 => ?_) (fun c2 => ?_)
  · refine hX0 _ _ _ _ ?_
    refine And.intro (fun c => absurd c (by decide)) (fun _ => ?_)
    iterate 4 refine hX0 _ _ _ _ ?_
    refine r_within (0) (10000) rfl rfl (fun c3 => ?_) (fun c4 => ?_)
    · refine hX0 _ _ _ _ ?_
      refine And.intro (fun _ => ?_) (fun c => absurd c (by decide))
      iterate 5 refine hX0 _ _ _ _ ?_
      refine And.intro (by rw [vp_in_iff]; omega) ?_
      refine zcast (X := X0) xa_5 ?_
      iterate 2 refine hX0 _ _ _ _ ?_
      first | exact h0 (by omega) | exact h1 (by omega) | (exfalso; omega)
    · refine hX0 _ _ _ _ ?_
      refine And.intro (fun c => absurd c (by decide)) (fun _ => ?_)
      iterate 2 refine hX0 _ _ _ _ ?_
      first | exact h0 (by omega) | exact h1 (by omega) | (exfalso; omega)
  · refine hX0 _ _ _ _ ?_
    refine And.intro (fun _ => ?_) (fun c => absurd c (by decide))
    iterate 2 refine hX0 _ _ _ _ ?_
    first | exact h0 (by omega) | exact h1 (by omega) | (exfalso; omega)

set_option maxRecDepth 100000 in
theorem x_demand {d : Nat} {s : Nat → Int32} {a : Nat → Nat → Int32} {w : Bool} {Z : zH} {x y : Int32} {Q : zQ}  (h0 : (¬ (0 ≤ x.toInt ∧ x.toInt ≤ 23 ∧ 0 ≤ y.toInt ∧ y.toInt ≤ 10000)) → Q (some (.int (-1))) (HX (va_up s 2 (-1)) a w ++ Z)) (h1 : (0 ≤ x.toInt ∧ x.toInt ≤ 23 ∧ 0 ≤ y.toInt ∧ y.toInt ≤ 10000) → Q (some (.int (0))) (HX (va_up s 2 (0)) (va_up a 5 (upd (a 5) x.toNatClampNeg y)) w ++ Z)) : zG (d + 3) 80 [.ref 0, .int x, .int y] (HX s a w ++ Z) Q := by
  refine g_80 (Nat.le_of_ble_eq_true rfl) ?_
  intro X0 hX0
  iterate 6 refine hX0 _ _ _ _ ?_
  refine x_setDemand (fun c1 => ?_) (fun c2 => ?_)
  · refine hX0 _ _ _ _ ?_
    refine r_answered ?_
    refine hX0 _ _ _ _ ?_
    first | exact h0 (by omega) | exact h1 (by omega) | (exfalso; omega)
  · refine hX0 _ _ _ _ ?_
    refine r_answered ?_
    refine hX0 _ _ _ _ ?_
    first | exact h0 (by omega) | exact h1 (by omega) | (exfalso; omega)

set_option maxRecDepth 100000 in
theorem y_demand {d : Nat} {s : Nat → Int32} {a : Nat → Nat → Int32} {w : Bool} {t : Nat → Int32} {b : Nat → Nat → Int32} {u : Nat → Int64} {c : Nat → Nat → Int64} {x y : Int32} {Q : zQ}  (h0 : (¬ (0 ≤ x.toInt ∧ x.toInt ≤ 23 ∧ 0 ≤ y.toInt ∧ y.toInt ≤ 10000)) → Q (some (.int (-1))) (HX s a w ++ HM (va_up (va_up t 0 (0)) 1 (-1)) b u c)) (h1 : (0 ≤ x.toInt ∧ x.toInt ≤ 23 ∧ 0 ≤ y.toInt ∧ y.toInt ≤ 10000) → Q (some (.int (0))) (HX s a w ++ HM (va_up (va_up t 0 (0)) 1 (0)) (va_up b 13 (upd (b 13) x.toNatClampNeg y)) u c)) : zG (d + 2) 115 [.ref 56, .int x, .int y] (HX s a w ++ HM t b u c) Q := by
  refine g_115 (Nat.le_of_ble_eq_true rfl) ?_
  intro X0 hX0
  iterate 3 refine hX0 _ _ _ _ ?_
  refine zcast (X := X0) yt_0 ?_
  iterate 5 refine hX0 _ _ _ _ ?_
  refine r_in (0) (23) rfl rfl (fun c1 => ?_) (fun c2 => ?_)
  · refine hX0 _ _ _ _ ?_
    refine And.intro (fun c => absurd c (by decide)) (fun _ => ?_)
    iterate 5 refine hX0 _ _ _ _ ?_
    refine r_in (0) (10000) rfl rfl (fun c3 => ?_) (fun c4 => ?_)
    · refine hX0 _ _ _ _ ?_
      refine And.intro (fun _ => ?_) (fun c => absurd c (by decide))
      iterate 5 refine hX0 _ _ _ _ ?_
      refine And.intro (by rw [vp_in_iff]; omega) ?_
      refine zcast (X := X0) yb_13 ?_
      iterate 3 refine hX0 _ _ _ _ ?_
      refine r_told ?_
      refine hX0 _ _ _ _ ?_
      first | exact h0 (by omega) | exact h1 (by omega) | (exfalso; omega)
    · refine hX0 _ _ _ _ ?_
      refine And.intro (fun c => absurd c (by decide)) (fun _ => ?_)
      iterate 3 refine hX0 _ _ _ _ ?_
      refine r_told ?_
      refine hX0 _ _ _ _ ?_
      first | exact h0 (by omega) | exact h1 (by omega) | (exfalso; omega)
  · refine hX0 _ _ _ _ ?_
    refine And.intro (fun _ => ?_) (fun c => absurd c (by decide))
    iterate 3 refine hX0 _ _ _ _ ?_
    refine r_told ?_
    refine hX0 _ _ _ _ ?_
    first | exact h0 (by omega) | exact h1 (by omega) | (exfalso; omega)

set_option maxRecDepth 100000 in
theorem x_status {d : Nat} {s : Nat → Int32} {a : Nat → Nat → Int32} {w : Bool} {Z : zH} {Q : zQ}  (h0 : Q (some (.int (s 2))) (HX s a w ++ Z)) : zG (d + 1) 104 [.ref 0] (HX s a w ++ Z) Q := by
  refine g_104 (Nat.le_of_ble_eq_true rfl) ?_
  intro X0 hX0
  iterate 3 refine hX0 _ _ _ _ ?_
  first | exact h0 | (exfalso; omega)

set_option maxRecDepth 100000 in
theorem y_status {d : Nat} {s : Nat → Int32} {a : Nat → Nat → Int32} {w : Bool} {t : Nat → Int32} {b : Nat → Nat → Int32} {u : Nat → Int64} {c : Nat → Nat → Int64} {Q : zQ}  (h0 : Q (some (.int (t 1))) (HX s a w ++ HM (va_up t 0 (0)) b u c)) : zG (d + 1) 157 [.ref 56] (HX s a w ++ HM t b u c) Q := by
  refine g_157 (Nat.le_of_ble_eq_true rfl) ?_
  intro X0 hX0
  iterate 3 refine hX0 _ _ _ _ ?_
  refine zcast (X := X0) yt_0 ?_
  iterate 3 refine hX0 _ _ _ _ ?_
  first | exact h0 | (exfalso; omega)

set_option maxRecDepth 100000 in
theorem x_fault {d : Nat} {s : Nat → Int32} {a : Nat → Nat → Int32} {w : Bool} {Z : zH} {Q : zQ}  (h0 : Q (some (.int (s 1))) (HX s a w ++ Z)) : zG (d + 1) 95 [.ref 0] (HX s a w ++ Z) Q := by
  refine g_95 (Nat.le_of_ble_eq_true rfl) ?_
  intro X0 hX0
  iterate 3 refine hX0 _ _ _ _ ?_
  first | exact h0 | (exfalso; omega)

set_option maxRecDepth 100000 in
theorem y_fault {d : Nat} {s : Nat → Int32} {a : Nat → Nat → Int32} {w : Bool} {t : Nat → Int32} {b : Nat → Nat → Int32} {u : Nat → Int64} {c : Nat → Nat → Int64} {Q : zQ}  (h0 : Q (some (.int (t 19))) (HX s a w ++ HM (va_up t 0 (0)) b u c)) : zG (d + 1) 146 [.ref 56] (HX s a w ++ HM t b u c) Q := by
  refine g_146 (Nat.le_of_ble_eq_true rfl) ?_
  intro X0 hX0
  iterate 3 refine hX0 _ _ _ _ ?_
  refine zcast (X := X0) yt_0 ?_
  iterate 3 refine hX0 _ _ _ _ ?_
  first | exact h0 | (exfalso; omega)

set_option maxRecDepth 100000 in
theorem x_addPerson {d : Nat} {s : Nat → Int32} {a : Nat → Nat → Int32} {w : Bool} {Z : zH} {x : Int32} {Q : zQ} (hp : 0 ≤ (s 9).toInt ∧ (s 9).toInt ≤ 14) (h0 : (¬ (0 ≤ x.toInt ∧ x.toInt ≤ 255)) → Q (some (.int (-1))) (HX s a w ++ Z)) (h1 : ((0 ≤ x.toInt ∧ x.toInt ≤ 255) ∧ 14 ≤ (s 9).toInt) → Q (some (.int (-5))) (HX s a w ++ Z)) (h2 : ((0 ≤ x.toInt ∧ x.toInt ≤ 255) ∧ (s 9).toInt < 14) → Q (some (.int (s 9 + 1 - 1))) (HX (va_up s 9 (s 9 + 1)) (va_up a 13 (upd (a 13) (s 9).toNatClampNeg x)) w ++ Z)) : zG (d + 2) 1 [.ref 17, .int x] (HX s a w ++ Z) Q := by
  refine g_1 (Nat.le_of_ble_eq_true rfl) ?_
  intro X0 hX0
  iterate 4 refine hX0 _ _ _ _ ?_
  refine r_within (0) (255) rfl rfl (fun c1 => ?_) (fun c2 => ?_)
  · refine hX0 _ _ _ _ ?_
    refine And.intro (fun _ => ?_) (fun c => absurd c (by decide))
    iterate 4 refine hX0 _ _ _ _ ?_
    refine And.intro (fun c3 => ?_) (fun c3 => ?_)
    · iterate 6 refine hX0 _ _ _ _ ?_
      refine And.intro (by rw [vp_in_iff]; first | omega | ((try simp only [fa_le, fa_lt, fa_eq, va_up] at c1 c3 ⊢) <;> (try simp [-Int32.toInt_sub, -Int32.toInt_add, -Int32.toInt_mul, -Int32.toInt_neg, -Int64.toInt_sub, -Int64.toInt_add] at c1 c3 ⊢) <;> omega)) ?_
      refine zcast (X := X0) xa_13 ?_
      iterate 6 refine hX0 _ _ _ _ ?_
      refine zcast (X := X0) xs_9 ?_
      iterate 5 refine hX0 _ _ _ _ ?_
      first | exact h0 (by first | omega | ((try simp only [fa_le, fa_lt, fa_eq, va_up] at c1 c3 ⊢) <;> (try simp [-Int32.toInt_sub, -Int32.toInt_add, -Int32.toInt_mul, -Int32.toInt_neg, -Int64.toInt_sub, -Int64.toInt_add] at c1 c3 ⊢) <;> omega)) | exact h1 (by first | omega | ((try simp only [fa_le, fa_lt, fa_eq, va_up] at c1 c3 ⊢) <;> (try simp [-Int32.toInt_sub, -Int32.toInt_add, -Int32.toInt_mul, -Int32.toInt_neg, -Int64.toInt_sub, -Int64.toInt_add] at c1 c3 ⊢) <;> omega)) | exact h2 (by first | omega | ((try simp only [fa_le, fa_lt, fa_eq, va_up] at c1 c3 ⊢) <;> (try simp [-Int32.toInt_sub, -Int32.toInt_add, -Int32.toInt_mul, -Int32.toInt_neg, -Int64.toInt_sub, -Int64.toInt_add] at c1 c3 ⊢) <;> omega)) | (exfalso; first | omega | ((try simp only [fa_le, fa_lt, fa_eq, va_up] at c1 c3 ⊢) <;> (try simp [-Int32.toInt_sub, -Int32.toInt_add, -Int32.toInt_mul, -Int32.toInt_neg, -Int64.toInt_sub, -Int64.toInt_add] at c1 c3 ⊢) <;> omega))
    · iterate 2 refine hX0 _ _ _ _ ?_
      first | exact h0 (by first | omega | ((try simp only [fa_le, fa_lt, fa_eq, va_up] at c1 c3 ⊢) <;> (try simp [-Int32.toInt_sub, -Int32.toInt_add, -Int32.toInt_mul, -Int32.toInt_neg, -Int64.toInt_sub, -Int64.toInt_add] at c1 c3 ⊢) <;> omega)) | exact h1 (by first | omega | ((try simp only [fa_le, fa_lt, fa_eq, va_up] at c1 c3 ⊢) <;> (try simp [-Int32.toInt_sub, -Int32.toInt_add, -Int32.toInt_mul, -Int32.toInt_neg, -Int64.toInt_sub, -Int64.toInt_add] at c1 c3 ⊢) <;> omega)) | exact h2 (by first | omega | ((try simp only [fa_le, fa_lt, fa_eq, va_up] at c1 c3 ⊢) <;> (try simp [-Int32.toInt_sub, -Int32.toInt_add, -Int32.toInt_mul, -Int32.toInt_neg, -Int64.toInt_sub, -Int64.toInt_add] at c1 c3 ⊢) <;> omega)) | (exfalso; first | omega | ((try simp only [fa_le, fa_lt, fa_eq, va_up] at c1 c3 ⊢) <;> (try simp [-Int32.toInt_sub, -Int32.toInt_add, -Int32.toInt_mul, -Int32.toInt_neg, -Int64.toInt_sub, -Int64.toInt_add] at c1 c3 ⊢) <;> omega))
  · refine hX0 _ _ _ _ ?_
    refine And.intro (fun c => absurd c (by decide)) (fun _ => ?_)
    iterate 2 refine hX0 _ _ _ _ ?_
    first | exact h0 (by first | omega | ((try simp only [fa_le, fa_lt, fa_eq, va_up] at c2 ⊢) <;> (try simp [-Int32.toInt_sub, -Int32.toInt_add, -Int32.toInt_mul, -Int32.toInt_neg, -Int64.toInt_sub, -Int64.toInt_add] at c2 ⊢) <;> omega)) | exact h1 (by first | omega | ((try simp only [fa_le, fa_lt, fa_eq, va_up] at c2 ⊢) <;> (try simp [-Int32.toInt_sub, -Int32.toInt_add, -Int32.toInt_mul, -Int32.toInt_neg, -Int64.toInt_sub, -Int64.toInt_add] at c2 ⊢) <;> omega)) | exact h2 (by first | omega | ((try simp only [fa_le, fa_lt, fa_eq, va_up] at c2 ⊢) <;> (try simp [-Int32.toInt_sub, -Int32.toInt_add, -Int32.toInt_mul, -Int32.toInt_neg, -Int64.toInt_sub, -Int64.toInt_add] at c2 ⊢) <;> omega)) | (exfalso; first | omega | ((try simp only [fa_le, fa_lt, fa_eq, va_up] at c2 ⊢) <;> (try simp [-Int32.toInt_sub, -Int32.toInt_add, -Int32.toInt_mul, -Int32.toInt_neg, -Int64.toInt_sub, -Int64.toInt_add] at c2 ⊢) <;> omega))

set_option maxRecDepth 100000 in
theorem x_person {d : Nat} {s : Nat → Int32} {a : Nat → Nat → Int32} {w : Bool} {Z : zH} {x : Int32} {Q : zQ} (hp : 0 ≤ (s 9).toInt ∧ (s 9).toInt ≤ 14) (h0 : (¬ (0 ≤ x.toInt ∧ x.toInt ≤ 255)) → Q (some (.int (-1))) (HX (va_up s 2 (-1)) a w ++ Z)) (h1 : ((0 ≤ x.toInt ∧ x.toInt ≤ 255) ∧ 14 ≤ (s 9).toInt) → Q (some (.int (-5))) (HX (va_up s 2 (-5)) a w ++ Z)) (h2 : ((0 ≤ x.toInt ∧ x.toInt ≤ 255) ∧ (s 9).toInt < 14) → Q (some (.int (s 9 + 1 - 1))) (HX (va_up (va_up s 9 (s 9 + 1)) 2 (zcode (s 9 + 1 - 1))) (va_up a 13 (upd (a 13) (s 9).toNatClampNeg x)) w ++ Z)) : zG (d + 3) 87 [.ref 0, .int x] (HX s a w ++ Z) Q := by
  refine g_87 (Nat.le_of_ble_eq_true rfl) ?_
  intro X0 hX0
  iterate 5 refine hX0 _ _ _ _ ?_
  refine x_addPerson hp (fun c1 => ?_) (fun c2 => ?_) (fun c3 => ?_)
  · refine hX0 _ _ _ _ ?_
    refine r_answered ?_
    refine hX0 _ _ _ _ ?_
    first | exact h0 (by first | omega | ((try simp only [fa_le, fa_lt, fa_eq, va_up] at c1 ⊢) <;> (try simp [-Int32.toInt_sub, -Int32.toInt_add, -Int32.toInt_mul, -Int32.toInt_neg, -Int64.toInt_sub, -Int64.toInt_add] at c1 ⊢) <;> omega)) | exact h1 (by first | omega | ((try simp only [fa_le, fa_lt, fa_eq, va_up] at c1 ⊢) <;> (try simp [-Int32.toInt_sub, -Int32.toInt_add, -Int32.toInt_mul, -Int32.toInt_neg, -Int64.toInt_sub, -Int64.toInt_add] at c1 ⊢) <;> omega)) | exact h2 (by first | omega | ((try simp only [fa_le, fa_lt, fa_eq, va_up] at c1 ⊢) <;> (try simp [-Int32.toInt_sub, -Int32.toInt_add, -Int32.toInt_mul, -Int32.toInt_neg, -Int64.toInt_sub, -Int64.toInt_add] at c1 ⊢) <;> omega)) | (exfalso; first | omega | ((try simp only [fa_le, fa_lt, fa_eq, va_up] at c1 ⊢) <;> (try simp [-Int32.toInt_sub, -Int32.toInt_add, -Int32.toInt_mul, -Int32.toInt_neg, -Int64.toInt_sub, -Int64.toInt_add] at c1 ⊢) <;> omega))
  · refine hX0 _ _ _ _ ?_
    refine r_answered ?_
    refine hX0 _ _ _ _ ?_
    first | exact h0 (by first | omega | ((try simp only [fa_le, fa_lt, fa_eq, va_up] at c2 ⊢) <;> (try simp [-Int32.toInt_sub, -Int32.toInt_add, -Int32.toInt_mul, -Int32.toInt_neg, -Int64.toInt_sub, -Int64.toInt_add] at c2 ⊢) <;> omega)) | exact h1 (by first | omega | ((try simp only [fa_le, fa_lt, fa_eq, va_up] at c2 ⊢) <;> (try simp [-Int32.toInt_sub, -Int32.toInt_add, -Int32.toInt_mul, -Int32.toInt_neg, -Int64.toInt_sub, -Int64.toInt_add] at c2 ⊢) <;> omega)) | exact h2 (by first | omega | ((try simp only [fa_le, fa_lt, fa_eq, va_up] at c2 ⊢) <;> (try simp [-Int32.toInt_sub, -Int32.toInt_add, -Int32.toInt_mul, -Int32.toInt_neg, -Int64.toInt_sub, -Int64.toInt_add] at c2 ⊢) <;> omega)) | (exfalso; first | omega | ((try simp only [fa_le, fa_lt, fa_eq, va_up] at c2 ⊢) <;> (try simp [-Int32.toInt_sub, -Int32.toInt_add, -Int32.toInt_mul, -Int32.toInt_neg, -Int64.toInt_sub, -Int64.toInt_add] at c2 ⊢) <;> omega))
  · refine hX0 _ _ _ _ ?_
    refine r_answered ?_
    refine hX0 _ _ _ _ ?_
    first | exact h0 (by first | omega | ((try simp only [fa_le, fa_lt, fa_eq, va_up] at c3 ⊢) <;> (try simp [-Int32.toInt_sub, -Int32.toInt_add, -Int32.toInt_mul, -Int32.toInt_neg, -Int64.toInt_sub, -Int64.toInt_add] at c3 ⊢) <;> omega)) | exact h1 (by first | omega | ((try simp only [fa_le, fa_lt, fa_eq, va_up] at c3 ⊢) <;> (try simp [-Int32.toInt_sub, -Int32.toInt_add, -Int32.toInt_mul, -Int32.toInt_neg, -Int64.toInt_sub, -Int64.toInt_add] at c3 ⊢) <;> omega)) | exact h2 (by first | omega | ((try simp only [fa_le, fa_lt, fa_eq, va_up] at c3 ⊢) <;> (try simp [-Int32.toInt_sub, -Int32.toInt_add, -Int32.toInt_mul, -Int32.toInt_neg, -Int64.toInt_sub, -Int64.toInt_add] at c3 ⊢) <;> omega)) | (exfalso; first | omega | ((try simp only [fa_le, fa_lt, fa_eq, va_up] at c3 ⊢) <;> (try simp [-Int32.toInt_sub, -Int32.toInt_add, -Int32.toInt_mul, -Int32.toInt_neg, -Int64.toInt_sub, -Int64.toInt_add] at c3 ⊢) <;> omega))

set_option maxRecDepth 100000 in
theorem y_person {d : Nat} {s : Nat → Int32} {a : Nat → Nat → Int32} {w : Bool} {t : Nat → Int32} {b : Nat → Nat → Int32} {u : Nat → Int64} {c : Nat → Nat → Int64} {x : Int32} {Q : zQ} (hp : 0 ≤ (t 11).toInt ∧ (t 11).toInt ≤ 14) (h0 : (¬ (0 ≤ x.toInt ∧ x.toInt ≤ 255)) → Q (some (.int (-1))) (HX s a w ++ HM (va_up (va_up t 0 (0)) 1 (-1)) b u c)) (h1 : ((0 ≤ x.toInt ∧ x.toInt ≤ 255) ∧ 14 = (t 11).toInt) → Q (some (.int (-5))) (HX s a w ++ HM (va_up (va_up t 0 (0)) 1 (-5)) b u c)) (h2 : ((0 ≤ x.toInt ∧ x.toInt ≤ 255) ∧ (t 11).toInt < 14) → Q (some (.int (t 11 + 1 - 1))) (HX s a w ++ HM (va_up (va_up (va_up t 0 (0)) 11 (t 11 + 1)) 1 (zcode (t 11 + 1 - 1))) (va_up b 19 (upd (b 19) (t 11).toNatClampNeg x)) u c)) : zG (d + 2) 126 [.ref 56, .int x] (HX s a w ++ HM t b u c) Q := by
  refine g_126 (Nat.le_of_ble_eq_true rfl) ?_
  intro X0 hX0
  iterate 3 refine hX0 _ _ _ _ ?_
  refine zcast (X := X0) yt_0 ?_
  iterate 5 refine hX0 _ _ _ _ ?_
  refine r_in (0) (255) rfl rfl (fun c1 => ?_) (fun c2 => ?_)
  · refine hX0 _ _ _ _ ?_
    refine And.intro (fun _ => ?_) (fun c => absurd c (by decide))
    iterate 4 refine hX0 _ _ _ _ ?_
    refine And.intro (fun c3 => ?_) (fun c3 => ?_)
    · iterate 6 refine hX0 _ _ _ _ ?_
      refine And.intro (by rw [vp_in_iff]; first | omega | ((try simp only [fa_le, fa_lt, fa_eq, va_up] at c1 c3 ⊢) <;> (try simp [-Int32.toInt_sub, -Int32.toInt_add, -Int32.toInt_mul, -Int32.toInt_neg, -Int64.toInt_sub, -Int64.toInt_add] at c1 c3 ⊢) <;> omega)) ?_
      refine zcast (X := X0) yb_19 ?_
      iterate 6 refine hX0 _ _ _ _ ?_
      refine zcast (X := X0) yt_11 ?_
      iterate 6 refine hX0 _ _ _ _ ?_
      refine r_told ?_
      refine hX0 _ _ _ _ ?_
      first | exact h0 (by first | omega | ((try simp only [fa_le, fa_lt, fa_eq, va_up] at c1 c3 ⊢) <;> (try simp [-Int32.toInt_sub, -Int32.toInt_add, -Int32.toInt_mul, -Int32.toInt_neg, -Int64.toInt_sub, -Int64.toInt_add] at c1 c3 ⊢) <;> omega)) | exact h1 (by first | omega | ((try simp only [fa_le, fa_lt, fa_eq, va_up] at c1 c3 ⊢) <;> (try simp [-Int32.toInt_sub, -Int32.toInt_add, -Int32.toInt_mul, -Int32.toInt_neg, -Int64.toInt_sub, -Int64.toInt_add] at c1 c3 ⊢) <;> omega)) | exact h2 (by first | omega | ((try simp only [fa_le, fa_lt, fa_eq, va_up] at c1 c3 ⊢) <;> (try simp [-Int32.toInt_sub, -Int32.toInt_add, -Int32.toInt_mul, -Int32.toInt_neg, -Int64.toInt_sub, -Int64.toInt_add] at c1 c3 ⊢) <;> omega)) | (exfalso; first | omega | ((try simp only [fa_le, fa_lt, fa_eq, va_up] at c1 c3 ⊢) <;> (try simp [-Int32.toInt_sub, -Int32.toInt_add, -Int32.toInt_mul, -Int32.toInt_neg, -Int64.toInt_sub, -Int64.toInt_add] at c1 c3 ⊢) <;> omega))
    · iterate 3 refine hX0 _ _ _ _ ?_
      refine r_told ?_
      refine hX0 _ _ _ _ ?_
      first | exact h0 (by first | omega | ((try simp only [fa_le, fa_lt, fa_eq, va_up] at c1 c3 ⊢) <;> (try simp [-Int32.toInt_sub, -Int32.toInt_add, -Int32.toInt_mul, -Int32.toInt_neg, -Int64.toInt_sub, -Int64.toInt_add] at c1 c3 ⊢) <;> omega)) | exact h1 (by first | omega | ((try simp only [fa_le, fa_lt, fa_eq, va_up] at c1 c3 ⊢) <;> (try simp [-Int32.toInt_sub, -Int32.toInt_add, -Int32.toInt_mul, -Int32.toInt_neg, -Int64.toInt_sub, -Int64.toInt_add] at c1 c3 ⊢) <;> omega)) | exact h2 (by first | omega | ((try simp only [fa_le, fa_lt, fa_eq, va_up] at c1 c3 ⊢) <;> (try simp [-Int32.toInt_sub, -Int32.toInt_add, -Int32.toInt_mul, -Int32.toInt_neg, -Int64.toInt_sub, -Int64.toInt_add] at c1 c3 ⊢) <;> omega)) | (exfalso; first | omega | ((try simp only [fa_le, fa_lt, fa_eq, va_up] at c1 c3 ⊢) <;> (try simp [-Int32.toInt_sub, -Int32.toInt_add, -Int32.toInt_mul, -Int32.toInt_neg, -Int64.toInt_sub, -Int64.toInt_add] at c1 c3 ⊢) <;> omega))
  · refine hX0 _ _ _ _ ?_
    refine And.intro (fun c => absurd c (by decide)) (fun _ => ?_)
    iterate 3 refine hX0 _ _ _ _ ?_
    refine r_told ?_
    refine hX0 _ _ _ _ ?_
    first | exact h0 (by first | omega | ((try simp only [fa_le, fa_lt, fa_eq, va_up] at c2 ⊢) <;> (try simp [-Int32.toInt_sub, -Int32.toInt_add, -Int32.toInt_mul, -Int32.toInt_neg, -Int64.toInt_sub, -Int64.toInt_add] at c2 ⊢) <;> omega)) | exact h1 (by first | omega | ((try simp only [fa_le, fa_lt, fa_eq, va_up] at c2 ⊢) <;> (try simp [-Int32.toInt_sub, -Int32.toInt_add, -Int32.toInt_mul, -Int32.toInt_neg, -Int64.toInt_sub, -Int64.toInt_add] at c2 ⊢) <;> omega)) | exact h2 (by first | omega | ((try simp only [fa_le, fa_lt, fa_eq, va_up] at c2 ⊢) <;> (try simp [-Int32.toInt_sub, -Int32.toInt_add, -Int32.toInt_mul, -Int32.toInt_neg, -Int64.toInt_sub, -Int64.toInt_add] at c2 ⊢) <;> omega)) | (exfalso; first | omega | ((try simp only [fa_le, fa_lt, fa_eq, va_up] at c2 ⊢) <;> (try simp [-Int32.toInt_sub, -Int32.toInt_add, -Int32.toInt_mul, -Int32.toInt_neg, -Int64.toInt_sub, -Int64.toInt_add] at c2 ⊢) <;> omega))

set_option maxRecDepth 100000 in
theorem x_tune {d : Nat} {s : Nat → Int32} {a : Nat → Nat → Int32} {w : Bool} {Z : zH} {x y z : Int32} {Q : zQ}  (h0 : (¬ (0 ≤ x.toInt ∧ x.toInt ≤ y.toInt ∧ y.toInt ≤ 23 ∧ 1 ≤ z.toInt ∧ z.toInt ≤ 1000)) → Q (some (.int (-1))) (HX s a w ++ Z)) (h1 : (0 ≤ x.toInt ∧ x.toInt ≤ y.toInt ∧ y.toInt ≤ 23 ∧ 1 ≤ z.toInt ∧ z.toInt ≤ 1000) → Q (some (.int (0))) (HX (va_up (va_up (va_up s 17 (x)) 18 (y)) 19 (z)) a w ++ Z)) : zG (d + 2) 33 [.ref 33, .int x, .int y, .int z] (HX s a w ++ Z) Q := by
  refine g_33 (Nat.le_of_ble_eq_true rfl) ?_
  intro X0 hX0
  iterate 4 refine hX0 _ _ _ _ ?_
  refine r_within (0) (23) rfl rfl (fun c1 => ?_) (fun c2 => ?_)
  · refine hX0 _ _ _ _ ?_
    refine And.intro (fun c => absurd c (by decide)) (fun _ => ?_)
    iterate 4 refine hX0 _ _ _ _ ?_
    refine r_within _ (23) rfl rfl (fun c3 => ?_) (fun c4 => ?_)
    · refine hX0 _ _ _ _ ?_
      refine And.intro (fun c => absurd c (by decide)) (fun _ => ?_)
      iterate 5 refine hX0 _ _ _ _ ?_
      refine And.intro (fun c => absurd c (by decide)) (fun _ => ?_)
      iterate 4 refine hX0 _ _ _ _ ?_
      refine r_within (1) (1000) rfl rfl (fun c5 => ?_) (fun c6 => ?_)
      · refine hX0 _ _ _ _ ?_
        refine And.intro (fun _ => ?_) (fun c => absurd c (by decide))
        iterate 3 refine hX0 _ _ _ _ ?_
        refine zcast (X := X0) xs_17 ?_
        iterate 3 refine hX0 _ _ _ _ ?_
        refine zcast (X := X0) xs_18 ?_
        iterate 3 refine hX0 _ _ _ _ ?_
        refine zcast (X := X0) xs_19 ?_
        iterate 2 refine hX0 _ _ _ _ ?_
        first | exact h0 (by first | omega | ((try simp only [fa_le, fa_lt, fa_eq, va_up] at c1 c3 c5 ⊢) <;> (try simp [-Int32.toInt_sub, -Int32.toInt_add, -Int32.toInt_mul, -Int32.toInt_neg, -Int64.toInt_sub, -Int64.toInt_add] at c1 c3 c5 ⊢) <;> omega)) | exact h1 (by first | omega | ((try simp only [fa_le, fa_lt, fa_eq, va_up] at c1 c3 c5 ⊢) <;> (try simp [-Int32.toInt_sub, -Int32.toInt_add, -Int32.toInt_mul, -Int32.toInt_neg, -Int64.toInt_sub, -Int64.toInt_add] at c1 c3 c5 ⊢) <;> omega)) | (exfalso; first | omega | ((try simp only [fa_le, fa_lt, fa_eq, va_up] at c1 c3 c5 ⊢) <;> (try simp [-Int32.toInt_sub, -Int32.toInt_add, -Int32.toInt_mul, -Int32.toInt_neg, -Int64.toInt_sub, -Int64.toInt_add] at c1 c3 c5 ⊢) <;> omega))
      · refine hX0 _ _ _ _ ?_
        refine And.intro (fun c => absurd c (by decide)) (fun _ => ?_)
        iterate 2 refine hX0 _ _ _ _ ?_
        first | exact h0 (by first | omega | ((try simp only [fa_le, fa_lt, fa_eq, va_up] at c1 c3 c6 ⊢) <;> (try simp [-Int32.toInt_sub, -Int32.toInt_add, -Int32.toInt_mul, -Int32.toInt_neg, -Int64.toInt_sub, -Int64.toInt_add] at c1 c3 c6 ⊢) <;> omega)) | exact h1 (by first | omega | ((try simp only [fa_le, fa_lt, fa_eq, va_up] at c1 c3 c6 ⊢) <;> (try simp [-Int32.toInt_sub, -Int32.toInt_add, -Int32.toInt_mul, -Int32.toInt_neg, -Int64.toInt_sub, -Int64.toInt_add] at c1 c3 c6 ⊢) <;> omega)) | (exfalso; first | omega | ((try simp only [fa_le, fa_lt, fa_eq, va_up] at c1 c3 c6 ⊢) <;> (try simp [-Int32.toInt_sub, -Int32.toInt_add, -Int32.toInt_mul, -Int32.toInt_neg, -Int64.toInt_sub, -Int64.toInt_add] at c1 c3 c6 ⊢) <;> omega))
    · refine hX0 _ _ _ _ ?_
      refine And.intro (fun _ => ?_) (fun c => absurd c (by decide))
      iterate 4 refine hX0 _ _ _ _ ?_
      refine And.intro (fun _ => ?_) (fun c => absurd c (by decide))
      iterate 2 refine hX0 _ _ _ _ ?_
      first | exact h0 (by first | omega | ((try simp only [fa_le, fa_lt, fa_eq, va_up] at c1 c4 ⊢) <;> (try simp [-Int32.toInt_sub, -Int32.toInt_add, -Int32.toInt_mul, -Int32.toInt_neg, -Int64.toInt_sub, -Int64.toInt_add] at c1 c4 ⊢) <;> omega)) | exact h1 (by first | omega | ((try simp only [fa_le, fa_lt, fa_eq, va_up] at c1 c4 ⊢) <;> (try simp [-Int32.toInt_sub, -Int32.toInt_add, -Int32.toInt_mul, -Int32.toInt_neg, -Int64.toInt_sub, -Int64.toInt_add] at c1 c4 ⊢) <;> omega)) | (exfalso; first | omega | ((try simp only [fa_le, fa_lt, fa_eq, va_up] at c1 c4 ⊢) <;> (try simp [-Int32.toInt_sub, -Int32.toInt_add, -Int32.toInt_mul, -Int32.toInt_neg, -Int64.toInt_sub, -Int64.toInt_add] at c1 c4 ⊢) <;> omega))
  · refine hX0 _ _ _ _ ?_
    refine And.intro (fun _ => ?_) (fun c => absurd c (by decide))
    iterate 4 refine hX0 _ _ _ _ ?_
    refine And.intro (fun _ => ?_) (fun c => absurd c (by decide))
    iterate 2 refine hX0 _ _ _ _ ?_
    first | exact h0 (by first | omega | ((try simp only [fa_le, fa_lt, fa_eq, va_up] at c2 ⊢) <;> (try simp [-Int32.toInt_sub, -Int32.toInt_add, -Int32.toInt_mul, -Int32.toInt_neg, -Int64.toInt_sub, -Int64.toInt_add] at c2 ⊢) <;> omega)) | exact h1 (by first | omega | ((try simp only [fa_le, fa_lt, fa_eq, va_up] at c2 ⊢) <;> (try simp [-Int32.toInt_sub, -Int32.toInt_add, -Int32.toInt_mul, -Int32.toInt_neg, -Int64.toInt_sub, -Int64.toInt_add] at c2 ⊢) <;> omega)) | (exfalso; first | omega | ((try simp only [fa_le, fa_lt, fa_eq, va_up] at c2 ⊢) <;> (try simp [-Int32.toInt_sub, -Int32.toInt_add, -Int32.toInt_mul, -Int32.toInt_neg, -Int64.toInt_sub, -Int64.toInt_add] at c2 ⊢) <;> omega))

set_option maxRecDepth 100000 in
theorem x_radio {d : Nat} {s : Nat → Int32} {a : Nat → Nat → Int32} {w : Bool} {Z : zH} {x y z : Int32} {Q : zQ}  (h0 : (¬ (0 ≤ x.toInt ∧ x.toInt ≤ y.toInt ∧ y.toInt ≤ 23 ∧ 1 ≤ z.toInt ∧ z.toInt ≤ 1000)) → Q (some (.int (-1))) (HX (va_up s 2 (-1)) a w ++ Z)) (h1 : (0 ≤ x.toInt ∧ x.toInt ≤ y.toInt ∧ y.toInt ≤ 23 ∧ 1 ≤ z.toInt ∧ z.toInt ≤ 1000) → Q (some (.int (0))) (HX (va_up (va_up (va_up (va_up s 17 (x)) 18 (y)) 19 (z)) 2 (0)) a w ++ Z)) : zG (d + 3) 96 [.ref 0, .int x, .int y, .int z] (HX s a w ++ Z) Q := by
  refine g_96 (Nat.le_of_ble_eq_true rfl) ?_
  intro X0 hX0
  iterate 7 refine hX0 _ _ _ _ ?_
  refine x_tune (fun c1 => ?_) (fun c2 => ?_)
  · refine hX0 _ _ _ _ ?_
    refine r_answered ?_
    refine hX0 _ _ _ _ ?_
    first | exact h0 (by first | omega | ((try simp only [fa_le, fa_lt, fa_eq, va_up] at c1 ⊢) <;> (try simp [-Int32.toInt_sub, -Int32.toInt_add, -Int32.toInt_mul, -Int32.toInt_neg, -Int64.toInt_sub, -Int64.toInt_add] at c1 ⊢) <;> omega)) | exact h1 (by first | omega | ((try simp only [fa_le, fa_lt, fa_eq, va_up] at c1 ⊢) <;> (try simp [-Int32.toInt_sub, -Int32.toInt_add, -Int32.toInt_mul, -Int32.toInt_neg, -Int64.toInt_sub, -Int64.toInt_add] at c1 ⊢) <;> omega)) | (exfalso; first | omega | ((try simp only [fa_le, fa_lt, fa_eq, va_up] at c1 ⊢) <;> (try simp [-Int32.toInt_sub, -Int32.toInt_add, -Int32.toInt_mul, -Int32.toInt_neg, -Int64.toInt_sub, -Int64.toInt_add] at c1 ⊢) <;> omega))
  · refine hX0 _ _ _ _ ?_
    refine r_answered ?_
    refine hX0 _ _ _ _ ?_
    first | exact h0 (by first | omega | ((try simp only [fa_le, fa_lt, fa_eq, va_up] at c2 ⊢) <;> (try simp [-Int32.toInt_sub, -Int32.toInt_add, -Int32.toInt_mul, -Int32.toInt_neg, -Int64.toInt_sub, -Int64.toInt_add] at c2 ⊢) <;> omega)) | exact h1 (by first | omega | ((try simp only [fa_le, fa_lt, fa_eq, va_up] at c2 ⊢) <;> (try simp [-Int32.toInt_sub, -Int32.toInt_add, -Int32.toInt_mul, -Int32.toInt_neg, -Int64.toInt_sub, -Int64.toInt_add] at c2 ⊢) <;> omega)) | (exfalso; first | omega | ((try simp only [fa_le, fa_lt, fa_eq, va_up] at c2 ⊢) <;> (try simp [-Int32.toInt_sub, -Int32.toInt_add, -Int32.toInt_mul, -Int32.toInt_neg, -Int64.toInt_sub, -Int64.toInt_add] at c2 ⊢) <;> omega))

set_option maxRecDepth 100000 in
theorem y_radio {d : Nat} {s : Nat → Int32} {a : Nat → Nat → Int32} {w : Bool} {t : Nat → Int32} {b : Nat → Nat → Int32} {u : Nat → Int64} {c : Nat → Nat → Int64} {x y z : Int32} {Q : zQ}  (h0 : (¬ (0 ≤ x.toInt ∧ x.toInt ≤ y.toInt ∧ y.toInt ≤ 23 ∧ 1 ≤ z.toInt ∧ z.toInt ≤ 1000)) → Q (some (.int (-1))) (HX s a w ++ HM (va_up (va_up t 0 (0)) 1 (-1)) b u c)) (h1 : (0 ≤ x.toInt ∧ x.toInt ≤ y.toInt ∧ y.toInt ≤ 23 ∧ 1 ≤ z.toInt ∧ z.toInt ≤ 1000) → Q (some (.int (0))) (HX s a w ++ HM (va_up (va_up (va_up (va_up (va_up t 0 (0)) 26 (x)) 27 (y)) 28 (z)) 1 (0)) b u c)) : zG (d + 2) 147 [.ref 56, .int x, .int y, .int z] (HX s a w ++ HM t b u c) Q := by
  refine g_147 (Nat.le_of_ble_eq_true rfl) ?_
  intro X0 hX0
  iterate 3 refine hX0 _ _ _ _ ?_
  refine zcast (X := X0) yt_0 ?_
  iterate 5 refine hX0 _ _ _ _ ?_
  refine r_in (0) (23) rfl rfl (fun c1 => ?_) (fun c2 => ?_)
  · refine hX0 _ _ _ _ ?_
    refine And.intro (fun c => absurd c (by decide)) (fun _ => ?_)
    iterate 6 refine hX0 _ _ _ _ ?_
    refine r_in _ (23) rfl rfl (fun c3 => ?_) (fun c4 => ?_)
    · refine hX0 _ _ _ _ ?_
      refine And.intro (fun c => absurd c (by decide)) (fun _ => ?_)
      iterate 5 refine hX0 _ _ _ _ ?_
      refine r_in (1) (1000) rfl rfl (fun c5 => ?_) (fun c6 => ?_)
      · refine hX0 _ _ _ _ ?_
        refine And.intro (fun _ => ?_) (fun c => absurd c (by decide))
        iterate 3 refine hX0 _ _ _ _ ?_
        refine zcast (X := X0) yt_26 ?_
        iterate 3 refine hX0 _ _ _ _ ?_
        refine zcast (X := X0) yt_27 ?_
        iterate 3 refine hX0 _ _ _ _ ?_
        refine zcast (X := X0) yt_28 ?_
        iterate 3 refine hX0 _ _ _ _ ?_
        refine r_told ?_
        refine hX0 _ _ _ _ ?_
        first | exact h0 (by first | omega | ((try simp only [fa_le, fa_lt, fa_eq, va_up] at c1 c3 c5 ⊢) <;> (try simp [-Int32.toInt_sub, -Int32.toInt_add, -Int32.toInt_mul, -Int32.toInt_neg, -Int64.toInt_sub, -Int64.toInt_add] at c1 c3 c5 ⊢) <;> omega)) | exact h1 (by first | omega | ((try simp only [fa_le, fa_lt, fa_eq, va_up] at c1 c3 c5 ⊢) <;> (try simp [-Int32.toInt_sub, -Int32.toInt_add, -Int32.toInt_mul, -Int32.toInt_neg, -Int64.toInt_sub, -Int64.toInt_add] at c1 c3 c5 ⊢) <;> omega)) | (exfalso; first | omega | ((try simp only [fa_le, fa_lt, fa_eq, va_up] at c1 c3 c5 ⊢) <;> (try simp [-Int32.toInt_sub, -Int32.toInt_add, -Int32.toInt_mul, -Int32.toInt_neg, -Int64.toInt_sub, -Int64.toInt_add] at c1 c3 c5 ⊢) <;> omega))
      · refine hX0 _ _ _ _ ?_
        refine And.intro (fun c => absurd c (by decide)) (fun _ => ?_)
        iterate 3 refine hX0 _ _ _ _ ?_
        refine r_told ?_
        refine hX0 _ _ _ _ ?_
        first | exact h0 (by first | omega | ((try simp only [fa_le, fa_lt, fa_eq, va_up] at c1 c3 c6 ⊢) <;> (try simp [-Int32.toInt_sub, -Int32.toInt_add, -Int32.toInt_mul, -Int32.toInt_neg, -Int64.toInt_sub, -Int64.toInt_add] at c1 c3 c6 ⊢) <;> omega)) | exact h1 (by first | omega | ((try simp only [fa_le, fa_lt, fa_eq, va_up] at c1 c3 c6 ⊢) <;> (try simp [-Int32.toInt_sub, -Int32.toInt_add, -Int32.toInt_mul, -Int32.toInt_neg, -Int64.toInt_sub, -Int64.toInt_add] at c1 c3 c6 ⊢) <;> omega)) | (exfalso; first | omega | ((try simp only [fa_le, fa_lt, fa_eq, va_up] at c1 c3 c6 ⊢) <;> (try simp [-Int32.toInt_sub, -Int32.toInt_add, -Int32.toInt_mul, -Int32.toInt_neg, -Int64.toInt_sub, -Int64.toInt_add] at c1 c3 c6 ⊢) <;> omega))
    · refine hX0 _ _ _ _ ?_
      refine And.intro (fun _ => ?_) (fun c => absurd c (by decide))
      iterate 3 refine hX0 _ _ _ _ ?_
      refine r_told ?_
      refine hX0 _ _ _ _ ?_
      first | exact h0 (by first | omega | ((try simp only [fa_le, fa_lt, fa_eq, va_up] at c1 c4 ⊢) <;> (try simp [-Int32.toInt_sub, -Int32.toInt_add, -Int32.toInt_mul, -Int32.toInt_neg, -Int64.toInt_sub, -Int64.toInt_add] at c1 c4 ⊢) <;> omega)) | exact h1 (by first | omega | ((try simp only [fa_le, fa_lt, fa_eq, va_up] at c1 c4 ⊢) <;> (try simp [-Int32.toInt_sub, -Int32.toInt_add, -Int32.toInt_mul, -Int32.toInt_neg, -Int64.toInt_sub, -Int64.toInt_add] at c1 c4 ⊢) <;> omega)) | (exfalso; first | omega | ((try simp only [fa_le, fa_lt, fa_eq, va_up] at c1 c4 ⊢) <;> (try simp [-Int32.toInt_sub, -Int32.toInt_add, -Int32.toInt_mul, -Int32.toInt_neg, -Int64.toInt_sub, -Int64.toInt_add] at c1 c4 ⊢) <;> omega))
  · refine hX0 _ _ _ _ ?_
    refine And.intro (fun _ => ?_) (fun c => absurd c (by decide))
    iterate 3 refine hX0 _ _ _ _ ?_
    refine r_told ?_
    refine hX0 _ _ _ _ ?_
    first | exact h0 (by first | omega | ((try simp only [fa_le, fa_lt, fa_eq, va_up] at c2 ⊢) <;> (try simp [-Int32.toInt_sub, -Int32.toInt_add, -Int32.toInt_mul, -Int32.toInt_neg, -Int64.toInt_sub, -Int64.toInt_add] at c2 ⊢) <;> omega)) | exact h1 (by first | omega | ((try simp only [fa_le, fa_lt, fa_eq, va_up] at c2 ⊢) <;> (try simp [-Int32.toInt_sub, -Int32.toInt_add, -Int32.toInt_mul, -Int32.toInt_neg, -Int64.toInt_sub, -Int64.toInt_add] at c2 ⊢) <;> omega)) | (exfalso; first | omega | ((try simp only [fa_le, fa_lt, fa_eq, va_up] at c2 ⊢) <;> (try simp [-Int32.toInt_sub, -Int32.toInt_add, -Int32.toInt_mul, -Int32.toInt_neg, -Int64.toInt_sub, -Int64.toInt_add] at c2 ⊢) <;> omega))

set_option maxRecDepth 100000 in
theorem x_addMessage {d : Nat} {s : Nat → Int32} {a : Nat → Nat → Int32} {w : Bool} {Z : zH} {x y : Int32} {Q : zQ} (hp : 0 ≤ (s 20).toInt ∧ (s 20).toInt ≤ 100) (h0 : (¬ (1 ≤ x.toInt ∧ x.toInt ≤ 10000 ∧ 0 ≤ y.toInt ∧ y.toInt ≤ 3)) → Q (some (.int (-1))) (HX s a w ++ Z)) (h1 : ((1 ≤ x.toInt ∧ x.toInt ≤ 10000 ∧ 0 ≤ y.toInt ∧ y.toInt ≤ 3) ∧ 100 ≤ (s 20).toInt) → Q (some (.int (-5))) (HX s a w ++ Z)) (h2 : ((1 ≤ x.toInt ∧ x.toInt ≤ 10000 ∧ 0 ≤ y.toInt ∧ y.toInt ≤ 3) ∧ (s 20).toInt < 100) → Q (some (.int (s 20 + 1 - 1))) (HX (va_up s 20 (s 20 + 1)) (va_up (va_up (va_up (va_up a 26 (upd (a 26) (s 20).toNatClampNeg x)) 27 (upd (a 27) (s 20).toNatClampNeg y)) 29 (upd (a 29) (s 20).toNatClampNeg (-1))) 30 (upd (a 30) (s 20).toNatClampNeg (-1))) w ++ Z)) : zG (d + 2) 34 [.ref 33, .int x, .int y] (HX s a w ++ Z) Q := by
  refine g_34 (Nat.le_of_ble_eq_true rfl) ?_
  intro X0 hX0
  iterate 4 refine hX0 _ _ _ _ ?_
  refine r_within (1) (10000) rfl rfl (fun c1 => ?_) (fun c2 => ?_)
  · refine hX0 _ _ _ _ ?_
    refine And.intro (fun c => absurd c (by decide)) (fun _ => ?_)
    iterate 4 refine hX0 _ _ _ _ ?_
    refine r_within (0) (3) rfl rfl (fun c3 => ?_) (fun c4 => ?_)
    · refine hX0 _ _ _ _ ?_
      refine And.intro (fun _ => ?_) (fun c => absurd c (by decide))
      iterate 4 refine hX0 _ _ _ _ ?_
      refine And.intro (fun c5 => ?_) (fun c5 => ?_)
      · iterate 6 refine hX0 _ _ _ _ ?_
        refine And.intro (by rw [vp_in_iff]; first | omega | ((try simp only [fa_le, fa_lt, fa_eq, va_up] at c1 c3 c5 ⊢) <;> (try simp [-Int32.toInt_sub, -Int32.toInt_add, -Int32.toInt_mul, -Int32.toInt_neg, -Int64.toInt_sub, -Int64.toInt_add] at c1 c3 c5 ⊢) <;> omega)) ?_
        refine zcast (X := X0) xa_26 ?_
        iterate 6 refine hX0 _ _ _ _ ?_
        refine And.intro (by rw [vp_in_iff]; first | omega | ((try simp only [fa_le, fa_lt, fa_eq, va_up] at c1 c3 c5 ⊢) <;> (try simp [-Int32.toInt_sub, -Int32.toInt_add, -Int32.toInt_mul, -Int32.toInt_neg, -Int64.toInt_sub, -Int64.toInt_add] at c1 c3 c5 ⊢) <;> omega)) ?_
        refine zcast (X := X0) xa_27 ?_
        iterate 6 refine hX0 _ _ _ _ ?_
        refine And.intro (by rw [vp_in_iff]; first | omega | ((try simp only [fa_le, fa_lt, fa_eq, va_up] at c1 c3 c5 ⊢) <;> (try simp [-Int32.toInt_sub, -Int32.toInt_add, -Int32.toInt_mul, -Int32.toInt_neg, -Int64.toInt_sub, -Int64.toInt_add] at c1 c3 c5 ⊢) <;> omega)) ?_
        refine zcast (X := X0) xa_29 ?_
        iterate 6 refine hX0 _ _ _ _ ?_
        refine And.intro (by rw [vp_in_iff]; first | omega | ((try simp only [fa_le, fa_lt, fa_eq, va_up] at c1 c3 c5 ⊢) <;> (try simp [-Int32.toInt_sub, -Int32.toInt_add, -Int32.toInt_mul, -Int32.toInt_neg, -Int64.toInt_sub, -Int64.toInt_add] at c1 c3 c5 ⊢) <;> omega)) ?_
        refine zcast (X := X0) xa_30 ?_
        iterate 6 refine hX0 _ _ _ _ ?_
        refine zcast (X := X0) xs_20 ?_
        iterate 5 refine hX0 _ _ _ _ ?_
        first | exact h0 (by first | omega | ((try simp only [fa_le, fa_lt, fa_eq, va_up] at c1 c3 c5 ⊢) <;> (try simp [-Int32.toInt_sub, -Int32.toInt_add, -Int32.toInt_mul, -Int32.toInt_neg, -Int64.toInt_sub, -Int64.toInt_add] at c1 c3 c5 ⊢) <;> omega)) | exact h1 (by first | omega | ((try simp only [fa_le, fa_lt, fa_eq, va_up] at c1 c3 c5 ⊢) <;> (try simp [-Int32.toInt_sub, -Int32.toInt_add, -Int32.toInt_mul, -Int32.toInt_neg, -Int64.toInt_sub, -Int64.toInt_add] at c1 c3 c5 ⊢) <;> omega)) | exact h2 (by first | omega | ((try simp only [fa_le, fa_lt, fa_eq, va_up] at c1 c3 c5 ⊢) <;> (try simp [-Int32.toInt_sub, -Int32.toInt_add, -Int32.toInt_mul, -Int32.toInt_neg, -Int64.toInt_sub, -Int64.toInt_add] at c1 c3 c5 ⊢) <;> omega)) | (exfalso; first | omega | ((try simp only [fa_le, fa_lt, fa_eq, va_up] at c1 c3 c5 ⊢) <;> (try simp [-Int32.toInt_sub, -Int32.toInt_add, -Int32.toInt_mul, -Int32.toInt_neg, -Int64.toInt_sub, -Int64.toInt_add] at c1 c3 c5 ⊢) <;> omega))
      · iterate 2 refine hX0 _ _ _ _ ?_
        first | exact h0 (by first | omega | ((try simp only [fa_le, fa_lt, fa_eq, va_up] at c1 c3 c5 ⊢) <;> (try simp [-Int32.toInt_sub, -Int32.toInt_add, -Int32.toInt_mul, -Int32.toInt_neg, -Int64.toInt_sub, -Int64.toInt_add] at c1 c3 c5 ⊢) <;> omega)) | exact h1 (by first | omega | ((try simp only [fa_le, fa_lt, fa_eq, va_up] at c1 c3 c5 ⊢) <;> (try simp [-Int32.toInt_sub, -Int32.toInt_add, -Int32.toInt_mul, -Int32.toInt_neg, -Int64.toInt_sub, -Int64.toInt_add] at c1 c3 c5 ⊢) <;> omega)) | exact h2 (by first | omega | ((try simp only [fa_le, fa_lt, fa_eq, va_up] at c1 c3 c5 ⊢) <;> (try simp [-Int32.toInt_sub, -Int32.toInt_add, -Int32.toInt_mul, -Int32.toInt_neg, -Int64.toInt_sub, -Int64.toInt_add] at c1 c3 c5 ⊢) <;> omega)) | (exfalso; first | omega | ((try simp only [fa_le, fa_lt, fa_eq, va_up] at c1 c3 c5 ⊢) <;> (try simp [-Int32.toInt_sub, -Int32.toInt_add, -Int32.toInt_mul, -Int32.toInt_neg, -Int64.toInt_sub, -Int64.toInt_add] at c1 c3 c5 ⊢) <;> omega))
    · refine hX0 _ _ _ _ ?_
      refine And.intro (fun c => absurd c (by decide)) (fun _ => ?_)
      iterate 2 refine hX0 _ _ _ _ ?_
      first | exact h0 (by first | omega | ((try simp only [fa_le, fa_lt, fa_eq, va_up] at c1 c4 ⊢) <;> (try simp [-Int32.toInt_sub, -Int32.toInt_add, -Int32.toInt_mul, -Int32.toInt_neg, -Int64.toInt_sub, -Int64.toInt_add] at c1 c4 ⊢) <;> omega)) | exact h1 (by first | omega | ((try simp only [fa_le, fa_lt, fa_eq, va_up] at c1 c4 ⊢) <;> (try simp [-Int32.toInt_sub, -Int32.toInt_add, -Int32.toInt_mul, -Int32.toInt_neg, -Int64.toInt_sub, -Int64.toInt_add] at c1 c4 ⊢) <;> omega)) | exact h2 (by first | omega | ((try simp only [fa_le, fa_lt, fa_eq, va_up] at c1 c4 ⊢) <;> (try simp [-Int32.toInt_sub, -Int32.toInt_add, -Int32.toInt_mul, -Int32.toInt_neg, -Int64.toInt_sub, -Int64.toInt_add] at c1 c4 ⊢) <;> omega)) | (exfalso; first | omega | ((try simp only [fa_le, fa_lt, fa_eq, va_up] at c1 c4 ⊢) <;> (try simp [-Int32.toInt_sub, -Int32.toInt_add, -Int32.toInt_mul, -Int32.toInt_neg, -Int64.toInt_sub, -Int64.toInt_add] at c1 c4 ⊢) <;> omega))
  · refine hX0 _ _ _ _ ?_
    refine And.intro (fun _ => ?_) (fun c => absurd c (by decide))
    iterate 2 refine hX0 _ _ _ _ ?_
    first | exact h0 (by first | omega | ((try simp only [fa_le, fa_lt, fa_eq, va_up] at c2 ⊢) <;> (try simp [-Int32.toInt_sub, -Int32.toInt_add, -Int32.toInt_mul, -Int32.toInt_neg, -Int64.toInt_sub, -Int64.toInt_add] at c2 ⊢) <;> omega)) | exact h1 (by first | omega | ((try simp only [fa_le, fa_lt, fa_eq, va_up] at c2 ⊢) <;> (try simp [-Int32.toInt_sub, -Int32.toInt_add, -Int32.toInt_mul, -Int32.toInt_neg, -Int64.toInt_sub, -Int64.toInt_add] at c2 ⊢) <;> omega)) | exact h2 (by first | omega | ((try simp only [fa_le, fa_lt, fa_eq, va_up] at c2 ⊢) <;> (try simp [-Int32.toInt_sub, -Int32.toInt_add, -Int32.toInt_mul, -Int32.toInt_neg, -Int64.toInt_sub, -Int64.toInt_add] at c2 ⊢) <;> omega)) | (exfalso; first | omega | ((try simp only [fa_le, fa_lt, fa_eq, va_up] at c2 ⊢) <;> (try simp [-Int32.toInt_sub, -Int32.toInt_add, -Int32.toInt_mul, -Int32.toInt_neg, -Int64.toInt_sub, -Int64.toInt_add] at c2 ⊢) <;> omega))

set_option maxRecDepth 100000 in
theorem x_message {d : Nat} {s : Nat → Int32} {a : Nat → Nat → Int32} {w : Bool} {Z : zH} {x y : Int32} {Q : zQ} (hp : 0 ≤ (s 20).toInt ∧ (s 20).toInt ≤ 100) (h0 : (¬ (1 ≤ x.toInt ∧ x.toInt ≤ 10000 ∧ 0 ≤ y.toInt ∧ y.toInt ≤ 3)) → Q (some (.int (-1))) (HX (va_up s 2 (-1)) a w ++ Z)) (h1 : ((1 ≤ x.toInt ∧ x.toInt ≤ 10000 ∧ 0 ≤ y.toInt ∧ y.toInt ≤ 3) ∧ 100 ≤ (s 20).toInt) → Q (some (.int (-5))) (HX (va_up s 2 (-5)) a w ++ Z)) (h2 : ((1 ≤ x.toInt ∧ x.toInt ≤ 10000 ∧ 0 ≤ y.toInt ∧ y.toInt ≤ 3) ∧ (s 20).toInt < 100) → Q (some (.int (s 20 + 1 - 1))) (HX (va_up (va_up s 20 (s 20 + 1)) 2 (zcode (s 20 + 1 - 1))) (va_up (va_up (va_up (va_up a 26 (upd (a 26) (s 20).toNatClampNeg x)) 27 (upd (a 27) (s 20).toNatClampNeg y)) 29 (upd (a 29) (s 20).toNatClampNeg (-1))) 30 (upd (a 30) (s 20).toNatClampNeg (-1))) w ++ Z)) : zG (d + 3) 97 [.ref 0, .int x, .int y] (HX s a w ++ Z) Q := by
  refine g_97 (Nat.le_of_ble_eq_true rfl) ?_
  intro X0 hX0
  iterate 6 refine hX0 _ _ _ _ ?_
  refine x_addMessage hp (fun c1 => ?_) (fun c2 => ?_) (fun c3 => ?_)
  · refine hX0 _ _ _ _ ?_
    refine r_answered ?_
    refine hX0 _ _ _ _ ?_
    first | exact h0 (by first | omega | ((try simp only [fa_le, fa_lt, fa_eq, va_up] at c1 ⊢) <;> (try simp [-Int32.toInt_sub, -Int32.toInt_add, -Int32.toInt_mul, -Int32.toInt_neg, -Int64.toInt_sub, -Int64.toInt_add] at c1 ⊢) <;> omega)) | exact h1 (by first | omega | ((try simp only [fa_le, fa_lt, fa_eq, va_up] at c1 ⊢) <;> (try simp [-Int32.toInt_sub, -Int32.toInt_add, -Int32.toInt_mul, -Int32.toInt_neg, -Int64.toInt_sub, -Int64.toInt_add] at c1 ⊢) <;> omega)) | exact h2 (by first | omega | ((try simp only [fa_le, fa_lt, fa_eq, va_up] at c1 ⊢) <;> (try simp [-Int32.toInt_sub, -Int32.toInt_add, -Int32.toInt_mul, -Int32.toInt_neg, -Int64.toInt_sub, -Int64.toInt_add] at c1 ⊢) <;> omega)) | (exfalso; first | omega | ((try simp only [fa_le, fa_lt, fa_eq, va_up] at c1 ⊢) <;> (try simp [-Int32.toInt_sub, -Int32.toInt_add, -Int32.toInt_mul, -Int32.toInt_neg, -Int64.toInt_sub, -Int64.toInt_add] at c1 ⊢) <;> omega))
  · refine hX0 _ _ _ _ ?_
    refine r_answered ?_
    refine hX0 _ _ _ _ ?_
    first | exact h0 (by first | omega | ((try simp only [fa_le, fa_lt, fa_eq, va_up] at c2 ⊢) <;> (try simp [-Int32.toInt_sub, -Int32.toInt_add, -Int32.toInt_mul, -Int32.toInt_neg, -Int64.toInt_sub, -Int64.toInt_add] at c2 ⊢) <;> omega)) | exact h1 (by first | omega | ((try simp only [fa_le, fa_lt, fa_eq, va_up] at c2 ⊢) <;> (try simp [-Int32.toInt_sub, -Int32.toInt_add, -Int32.toInt_mul, -Int32.toInt_neg, -Int64.toInt_sub, -Int64.toInt_add] at c2 ⊢) <;> omega)) | exact h2 (by first | omega | ((try simp only [fa_le, fa_lt, fa_eq, va_up] at c2 ⊢) <;> (try simp [-Int32.toInt_sub, -Int32.toInt_add, -Int32.toInt_mul, -Int32.toInt_neg, -Int64.toInt_sub, -Int64.toInt_add] at c2 ⊢) <;> omega)) | (exfalso; first | omega | ((try simp only [fa_le, fa_lt, fa_eq, va_up] at c2 ⊢) <;> (try simp [-Int32.toInt_sub, -Int32.toInt_add, -Int32.toInt_mul, -Int32.toInt_neg, -Int64.toInt_sub, -Int64.toInt_add] at c2 ⊢) <;> omega))
  · refine hX0 _ _ _ _ ?_
    refine r_answered ?_
    refine hX0 _ _ _ _ ?_
    first | exact h0 (by first | omega | ((try simp only [fa_le, fa_lt, fa_eq, va_up] at c3 ⊢) <;> (try simp [-Int32.toInt_sub, -Int32.toInt_add, -Int32.toInt_mul, -Int32.toInt_neg, -Int64.toInt_sub, -Int64.toInt_add] at c3 ⊢) <;> omega)) | exact h1 (by first | omega | ((try simp only [fa_le, fa_lt, fa_eq, va_up] at c3 ⊢) <;> (try simp [-Int32.toInt_sub, -Int32.toInt_add, -Int32.toInt_mul, -Int32.toInt_neg, -Int64.toInt_sub, -Int64.toInt_add] at c3 ⊢) <;> omega)) | exact h2 (by first | omega | ((try simp only [fa_le, fa_lt, fa_eq, va_up] at c3 ⊢) <;> (try simp [-Int32.toInt_sub, -Int32.toInt_add, -Int32.toInt_mul, -Int32.toInt_neg, -Int64.toInt_sub, -Int64.toInt_add] at c3 ⊢) <;> omega)) | (exfalso; first | omega | ((try simp only [fa_le, fa_lt, fa_eq, va_up] at c3 ⊢) <;> (try simp [-Int32.toInt_sub, -Int32.toInt_add, -Int32.toInt_mul, -Int32.toInt_neg, -Int64.toInt_sub, -Int64.toInt_add] at c3 ⊢) <;> omega))

set_option maxRecDepth 100000 in
theorem y_message {d : Nat} {s : Nat → Int32} {a : Nat → Nat → Int32} {w : Bool} {t : Nat → Int32} {b : Nat → Nat → Int32} {u : Nat → Int64} {c : Nat → Nat → Int64} {x y : Int32} {Q : zQ} (hp : 0 ≤ (t 29).toInt ∧ (t 29).toInt ≤ 100) (h0 : (¬ (1 ≤ x.toInt ∧ x.toInt ≤ 10000 ∧ 0 ≤ y.toInt ∧ y.toInt ≤ 3)) → Q (some (.int (-1))) (HX s a w ++ HM (va_up (va_up t 0 (0)) 1 (-1)) b u c)) (h1 : ((1 ≤ x.toInt ∧ x.toInt ≤ 10000 ∧ 0 ≤ y.toInt ∧ y.toInt ≤ 3) ∧ 100 = (t 29).toInt) → Q (some (.int (-5))) (HX s a w ++ HM (va_up (va_up t 0 (0)) 1 (-5)) b u c)) (h2 : ((1 ≤ x.toInt ∧ x.toInt ≤ 10000 ∧ 0 ≤ y.toInt ∧ y.toInt ≤ 3) ∧ (t 29).toInt < 100) → Q (some (.int (t 29 + 1 - 1))) (HX s a w ++ HM (va_up (va_up (va_up t 0 (0)) 29 (t 29 + 1)) 1 (zcode (t 29 + 1 - 1))) (va_up (va_up (va_up (va_up b 36 (upd (b 36) (t 29).toNatClampNeg x)) 37 (upd (b 37) (t 29).toNatClampNeg y)) 39 (upd (b 39) (t 29).toNatClampNeg (-1))) 40 (upd (b 40) (t 29).toNatClampNeg (-1))) u c)) : zG (d + 2) 148 [.ref 56, .int x, .int y] (HX s a w ++ HM t b u c) Q := by
  refine g_148 (Nat.le_of_ble_eq_true rfl) ?_
  intro X0 hX0
  iterate 3 refine hX0 _ _ _ _ ?_
  refine zcast (X := X0) yt_0 ?_
  iterate 5 refine hX0 _ _ _ _ ?_
  refine r_in (1) (10000) rfl rfl (fun c1 => ?_) (fun c2 => ?_)
  · refine hX0 _ _ _ _ ?_
    refine And.intro (fun c => absurd c (by decide)) (fun _ => ?_)
    iterate 5 refine hX0 _ _ _ _ ?_
    refine r_in (0) (3) rfl rfl (fun c3 => ?_) (fun c4 => ?_)
    · refine hX0 _ _ _ _ ?_
      refine And.intro (fun _ => ?_) (fun c => absurd c (by decide))
      iterate 4 refine hX0 _ _ _ _ ?_
      refine And.intro (fun c5 => ?_) (fun c5 => ?_)
      · iterate 6 refine hX0 _ _ _ _ ?_
        refine And.intro (by rw [vp_in_iff]; first | omega | ((try simp only [fa_le, fa_lt, fa_eq, va_up] at c1 c3 c5 ⊢) <;> (try simp [-Int32.toInt_sub, -Int32.toInt_add, -Int32.toInt_mul, -Int32.toInt_neg, -Int64.toInt_sub, -Int64.toInt_add] at c1 c3 c5 ⊢) <;> omega)) ?_
        refine zcast (X := X0) yb_36 ?_
        iterate 6 refine hX0 _ _ _ _ ?_
        refine And.intro (by rw [vp_in_iff]; first | omega | ((try simp only [fa_le, fa_lt, fa_eq, va_up] at c1 c3 c5 ⊢) <;> (try simp [-Int32.toInt_sub, -Int32.toInt_add, -Int32.toInt_mul, -Int32.toInt_neg, -Int64.toInt_sub, -Int64.toInt_add] at c1 c3 c5 ⊢) <;> omega)) ?_
        refine zcast (X := X0) yb_37 ?_
        iterate 6 refine hX0 _ _ _ _ ?_
        refine And.intro (by rw [vp_in_iff]; first | omega | ((try simp only [fa_le, fa_lt, fa_eq, va_up] at c1 c3 c5 ⊢) <;> (try simp [-Int32.toInt_sub, -Int32.toInt_add, -Int32.toInt_mul, -Int32.toInt_neg, -Int64.toInt_sub, -Int64.toInt_add] at c1 c3 c5 ⊢) <;> omega)) ?_
        refine zcast (X := X0) yb_39 ?_
        iterate 6 refine hX0 _ _ _ _ ?_
        refine And.intro (by rw [vp_in_iff]; first | omega | ((try simp only [fa_le, fa_lt, fa_eq, va_up] at c1 c3 c5 ⊢) <;> (try simp [-Int32.toInt_sub, -Int32.toInt_add, -Int32.toInt_mul, -Int32.toInt_neg, -Int64.toInt_sub, -Int64.toInt_add] at c1 c3 c5 ⊢) <;> omega)) ?_
        refine zcast (X := X0) yb_40 ?_
        iterate 6 refine hX0 _ _ _ _ ?_
        refine zcast (X := X0) yt_29 ?_
        iterate 6 refine hX0 _ _ _ _ ?_
        refine r_told ?_
        refine hX0 _ _ _ _ ?_
        first | exact h0 (by first | omega | ((try simp only [fa_le, fa_lt, fa_eq, va_up] at c1 c3 c5 ⊢) <;> (try simp [-Int32.toInt_sub, -Int32.toInt_add, -Int32.toInt_mul, -Int32.toInt_neg, -Int64.toInt_sub, -Int64.toInt_add] at c1 c3 c5 ⊢) <;> omega)) | exact h1 (by first | omega | ((try simp only [fa_le, fa_lt, fa_eq, va_up] at c1 c3 c5 ⊢) <;> (try simp [-Int32.toInt_sub, -Int32.toInt_add, -Int32.toInt_mul, -Int32.toInt_neg, -Int64.toInt_sub, -Int64.toInt_add] at c1 c3 c5 ⊢) <;> omega)) | exact h2 (by first | omega | ((try simp only [fa_le, fa_lt, fa_eq, va_up] at c1 c3 c5 ⊢) <;> (try simp [-Int32.toInt_sub, -Int32.toInt_add, -Int32.toInt_mul, -Int32.toInt_neg, -Int64.toInt_sub, -Int64.toInt_add] at c1 c3 c5 ⊢) <;> omega)) | (exfalso; first | omega | ((try simp only [fa_le, fa_lt, fa_eq, va_up] at c1 c3 c5 ⊢) <;> (try simp [-Int32.toInt_sub, -Int32.toInt_add, -Int32.toInt_mul, -Int32.toInt_neg, -Int64.toInt_sub, -Int64.toInt_add] at c1 c3 c5 ⊢) <;> omega))
      · iterate 3 refine hX0 _ _ _ _ ?_
        refine r_told ?_
        refine hX0 _ _ _ _ ?_
        first | exact h0 (by first | omega | ((try simp only [fa_le, fa_lt, fa_eq, va_up] at c1 c3 c5 ⊢) <;> (try simp [-Int32.toInt_sub, -Int32.toInt_add, -Int32.toInt_mul, -Int32.toInt_neg, -Int64.toInt_sub, -Int64.toInt_add] at c1 c3 c5 ⊢) <;> omega)) | exact h1 (by first | omega | ((try simp only [fa_le, fa_lt, fa_eq, va_up] at c1 c3 c5 ⊢) <;> (try simp [-Int32.toInt_sub, -Int32.toInt_add, -Int32.toInt_mul, -Int32.toInt_neg, -Int64.toInt_sub, -Int64.toInt_add] at c1 c3 c5 ⊢) <;> omega)) | exact h2 (by first | omega | ((try simp only [fa_le, fa_lt, fa_eq, va_up] at c1 c3 c5 ⊢) <;> (try simp [-Int32.toInt_sub, -Int32.toInt_add, -Int32.toInt_mul, -Int32.toInt_neg, -Int64.toInt_sub, -Int64.toInt_add] at c1 c3 c5 ⊢) <;> omega)) | (exfalso; first | omega | ((try simp only [fa_le, fa_lt, fa_eq, va_up] at c1 c3 c5 ⊢) <;> (try simp [-Int32.toInt_sub, -Int32.toInt_add, -Int32.toInt_mul, -Int32.toInt_neg, -Int64.toInt_sub, -Int64.toInt_add] at c1 c3 c5 ⊢) <;> omega))
    · refine hX0 _ _ _ _ ?_
      refine And.intro (fun c => absurd c (by decide)) (fun _ => ?_)
      iterate 3 refine hX0 _ _ _ _ ?_
      refine r_told ?_
      refine hX0 _ _ _ _ ?_
      first | exact h0 (by first | omega | ((try simp only [fa_le, fa_lt, fa_eq, va_up] at c1 c4 ⊢) <;> (try simp [-Int32.toInt_sub, -Int32.toInt_add, -Int32.toInt_mul, -Int32.toInt_neg, -Int64.toInt_sub, -Int64.toInt_add] at c1 c4 ⊢) <;> omega)) | exact h1 (by first | omega | ((try simp only [fa_le, fa_lt, fa_eq, va_up] at c1 c4 ⊢) <;> (try simp [-Int32.toInt_sub, -Int32.toInt_add, -Int32.toInt_mul, -Int32.toInt_neg, -Int64.toInt_sub, -Int64.toInt_add] at c1 c4 ⊢) <;> omega)) | exact h2 (by first | omega | ((try simp only [fa_le, fa_lt, fa_eq, va_up] at c1 c4 ⊢) <;> (try simp [-Int32.toInt_sub, -Int32.toInt_add, -Int32.toInt_mul, -Int32.toInt_neg, -Int64.toInt_sub, -Int64.toInt_add] at c1 c4 ⊢) <;> omega)) | (exfalso; first | omega | ((try simp only [fa_le, fa_lt, fa_eq, va_up] at c1 c4 ⊢) <;> (try simp [-Int32.toInt_sub, -Int32.toInt_add, -Int32.toInt_mul, -Int32.toInt_neg, -Int64.toInt_sub, -Int64.toInt_add] at c1 c4 ⊢) <;> omega))
  · refine hX0 _ _ _ _ ?_
    refine And.intro (fun _ => ?_) (fun c => absurd c (by decide))
    iterate 3 refine hX0 _ _ _ _ ?_
    refine r_told ?_
    refine hX0 _ _ _ _ ?_
    first | exact h0 (by first | omega | ((try simp only [fa_le, fa_lt, fa_eq, va_up] at c2 ⊢) <;> (try simp [-Int32.toInt_sub, -Int32.toInt_add, -Int32.toInt_mul, -Int32.toInt_neg, -Int64.toInt_sub, -Int64.toInt_add] at c2 ⊢) <;> omega)) | exact h1 (by first | omega | ((try simp only [fa_le, fa_lt, fa_eq, va_up] at c2 ⊢) <;> (try simp [-Int32.toInt_sub, -Int32.toInt_add, -Int32.toInt_mul, -Int32.toInt_neg, -Int64.toInt_sub, -Int64.toInt_add] at c2 ⊢) <;> omega)) | exact h2 (by first | omega | ((try simp only [fa_le, fa_lt, fa_eq, va_up] at c2 ⊢) <;> (try simp [-Int32.toInt_sub, -Int32.toInt_add, -Int32.toInt_mul, -Int32.toInt_neg, -Int64.toInt_sub, -Int64.toInt_add] at c2 ⊢) <;> omega)) | (exfalso; first | omega | ((try simp only [fa_le, fa_lt, fa_eq, va_up] at c2 ⊢) <;> (try simp [-Int32.toInt_sub, -Int32.toInt_add, -Int32.toInt_mul, -Int32.toInt_neg, -Int64.toInt_sub, -Int64.toInt_add] at c2 ⊢) <;> omega))

set_option maxRecDepth 100000 in
theorem x_addFailure {d : Nat} {s : Nat → Int32} {a : Nat → Nat → Int32} {w : Bool} {Z : zH} {x y : Int32} {Q : zQ} (hp : 0 ≤ (s 21).toInt ∧ (s 21).toInt ≤ 60) (h0 : (¬ (0 ≤ x.toInt ∧ x.toInt ≤ 2399 ∧ 0 ≤ y.toInt ∧ y.toInt ≤ 100000)) → Q (some (.int (-1))) (HX s a w ++ Z)) (h1 : ((0 ≤ x.toInt ∧ x.toInt ≤ 2399 ∧ 0 ≤ y.toInt ∧ y.toInt ≤ 100000) ∧ 60 ≤ (s 21).toInt) → Q (some (.int (-5))) (HX s a w ++ Z)) (h2 : ((0 ≤ x.toInt ∧ x.toInt ≤ 2399 ∧ 0 ≤ y.toInt ∧ y.toInt ≤ 100000) ∧ (s 21).toInt < 60) → Q (some (.int (s 21 + 1))) (HX (va_up s 21 (s 21 + 1)) (va_up (va_up a 32 (upd (a 32) (s 21).toNatClampNeg x)) 33 (upd (a 33) (s 21).toNatClampNeg y)) w ++ Z)) : zG (d + 3) 35 [.ref 33, .int x, .int y] (HX s a w ++ Z) Q := by
  refine g_35 (Nat.le_of_ble_eq_true rfl) ?_
  intro X0 hX0
  iterate 2 refine hX0 _ _ _ _ ?_
  refine r_isHour (fun c1 => ?_) (fun c2 => ?_)
  · refine hX0 _ _ _ _ ?_
    refine And.intro (fun c => absurd c (by decide)) (fun _ => ?_)
    iterate 4 refine hX0 _ _ _ _ ?_
    refine r_within (0) (100000) rfl rfl (fun c3 => ?_) (fun c4 => ?_)
    · refine hX0 _ _ _ _ ?_
      refine And.intro (fun _ => ?_) (fun c => absurd c (by decide))
      iterate 4 refine hX0 _ _ _ _ ?_
      refine And.intro (fun c5 => ?_) (fun c5 => ?_)
      · iterate 6 refine hX0 _ _ _ _ ?_
        refine And.intro (by rw [vp_in_iff]; first | omega | ((try simp only [fa_le, fa_lt, fa_eq, va_up] at c1 c3 c5 ⊢) <;> (try simp [-Int32.toInt_sub, -Int32.toInt_add, -Int32.toInt_mul, -Int32.toInt_neg, -Int64.toInt_sub, -Int64.toInt_add] at c1 c3 c5 ⊢) <;> omega)) ?_
        refine zcast (X := X0) xa_32 ?_
        iterate 6 refine hX0 _ _ _ _ ?_
        refine And.intro (by rw [vp_in_iff]; first | omega | ((try simp only [fa_le, fa_lt, fa_eq, va_up] at c1 c3 c5 ⊢) <;> (try simp [-Int32.toInt_sub, -Int32.toInt_add, -Int32.toInt_mul, -Int32.toInt_neg, -Int64.toInt_sub, -Int64.toInt_add] at c1 c3 c5 ⊢) <;> omega)) ?_
        refine zcast (X := X0) xa_33 ?_
        iterate 6 refine hX0 _ _ _ _ ?_
        refine zcast (X := X0) xs_21 ?_
        iterate 3 refine hX0 _ _ _ _ ?_
        first | exact h0 (by first | omega | ((try simp only [fa_le, fa_lt, fa_eq, va_up] at c1 c3 c5 ⊢) <;> (try simp [-Int32.toInt_sub, -Int32.toInt_add, -Int32.toInt_mul, -Int32.toInt_neg, -Int64.toInt_sub, -Int64.toInt_add] at c1 c3 c5 ⊢) <;> omega)) | exact h1 (by first | omega | ((try simp only [fa_le, fa_lt, fa_eq, va_up] at c1 c3 c5 ⊢) <;> (try simp [-Int32.toInt_sub, -Int32.toInt_add, -Int32.toInt_mul, -Int32.toInt_neg, -Int64.toInt_sub, -Int64.toInt_add] at c1 c3 c5 ⊢) <;> omega)) | exact h2 (by first | omega | ((try simp only [fa_le, fa_lt, fa_eq, va_up] at c1 c3 c5 ⊢) <;> (try simp [-Int32.toInt_sub, -Int32.toInt_add, -Int32.toInt_mul, -Int32.toInt_neg, -Int64.toInt_sub, -Int64.toInt_add] at c1 c3 c5 ⊢) <;> omega)) | (exfalso; first | omega | ((try simp only [fa_le, fa_lt, fa_eq, va_up] at c1 c3 c5 ⊢) <;> (try simp [-Int32.toInt_sub, -Int32.toInt_add, -Int32.toInt_mul, -Int32.toInt_neg, -Int64.toInt_sub, -Int64.toInt_add] at c1 c3 c5 ⊢) <;> omega))
      · iterate 2 refine hX0 _ _ _ _ ?_
        first | exact h0 (by first | omega | ((try simp only [fa_le, fa_lt, fa_eq, va_up] at c1 c3 c5 ⊢) <;> (try simp [-Int32.toInt_sub, -Int32.toInt_add, -Int32.toInt_mul, -Int32.toInt_neg, -Int64.toInt_sub, -Int64.toInt_add] at c1 c3 c5 ⊢) <;> omega)) | exact h1 (by first | omega | ((try simp only [fa_le, fa_lt, fa_eq, va_up] at c1 c3 c5 ⊢) <;> (try simp [-Int32.toInt_sub, -Int32.toInt_add, -Int32.toInt_mul, -Int32.toInt_neg, -Int64.toInt_sub, -Int64.toInt_add] at c1 c3 c5 ⊢) <;> omega)) | exact h2 (by first | omega | ((try simp only [fa_le, fa_lt, fa_eq, va_up] at c1 c3 c5 ⊢) <;> (try simp [-Int32.toInt_sub, -Int32.toInt_add, -Int32.toInt_mul, -Int32.toInt_neg, -Int64.toInt_sub, -Int64.toInt_add] at c1 c3 c5 ⊢) <;> omega)) | (exfalso; first | omega | ((try simp only [fa_le, fa_lt, fa_eq, va_up] at c1 c3 c5 ⊢) <;> (try simp [-Int32.toInt_sub, -Int32.toInt_add, -Int32.toInt_mul, -Int32.toInt_neg, -Int64.toInt_sub, -Int64.toInt_add] at c1 c3 c5 ⊢) <;> omega))
    · refine hX0 _ _ _ _ ?_
      refine And.intro (fun c => absurd c (by decide)) (fun _ => ?_)
      iterate 2 refine hX0 _ _ _ _ ?_
      first | exact h0 (by first | omega | ((try simp only [fa_le, fa_lt, fa_eq, va_up] at c1 c4 ⊢) <;> (try simp [-Int32.toInt_sub, -Int32.toInt_add, -Int32.toInt_mul, -Int32.toInt_neg, -Int64.toInt_sub, -Int64.toInt_add] at c1 c4 ⊢) <;> omega)) | exact h1 (by first | omega | ((try simp only [fa_le, fa_lt, fa_eq, va_up] at c1 c4 ⊢) <;> (try simp [-Int32.toInt_sub, -Int32.toInt_add, -Int32.toInt_mul, -Int32.toInt_neg, -Int64.toInt_sub, -Int64.toInt_add] at c1 c4 ⊢) <;> omega)) | exact h2 (by first | omega | ((try simp only [fa_le, fa_lt, fa_eq, va_up] at c1 c4 ⊢) <;> (try simp [-Int32.toInt_sub, -Int32.toInt_add, -Int32.toInt_mul, -Int32.toInt_neg, -Int64.toInt_sub, -Int64.toInt_add] at c1 c4 ⊢) <;> omega)) | (exfalso; first | omega | ((try simp only [fa_le, fa_lt, fa_eq, va_up] at c1 c4 ⊢) <;> (try simp [-Int32.toInt_sub, -Int32.toInt_add, -Int32.toInt_mul, -Int32.toInt_neg, -Int64.toInt_sub, -Int64.toInt_add] at c1 c4 ⊢) <;> omega))
  · refine hX0 _ _ _ _ ?_
    refine And.intro (fun _ => ?_) (fun c => absurd c (by decide))
    iterate 2 refine hX0 _ _ _ _ ?_
    first | exact h0 (by first | omega | ((try simp only [fa_le, fa_lt, fa_eq, va_up] at c2 ⊢) <;> (try simp [-Int32.toInt_sub, -Int32.toInt_add, -Int32.toInt_mul, -Int32.toInt_neg, -Int64.toInt_sub, -Int64.toInt_add] at c2 ⊢) <;> omega)) | exact h1 (by first | omega | ((try simp only [fa_le, fa_lt, fa_eq, va_up] at c2 ⊢) <;> (try simp [-Int32.toInt_sub, -Int32.toInt_add, -Int32.toInt_mul, -Int32.toInt_neg, -Int64.toInt_sub, -Int64.toInt_add] at c2 ⊢) <;> omega)) | exact h2 (by first | omega | ((try simp only [fa_le, fa_lt, fa_eq, va_up] at c2 ⊢) <;> (try simp [-Int32.toInt_sub, -Int32.toInt_add, -Int32.toInt_mul, -Int32.toInt_neg, -Int64.toInt_sub, -Int64.toInt_add] at c2 ⊢) <;> omega)) | (exfalso; first | omega | ((try simp only [fa_le, fa_lt, fa_eq, va_up] at c2 ⊢) <;> (try simp [-Int32.toInt_sub, -Int32.toInt_add, -Int32.toInt_mul, -Int32.toInt_neg, -Int64.toInt_sub, -Int64.toInt_add] at c2 ⊢) <;> omega))

set_option maxRecDepth 100000 in
theorem x_fail {d : Nat} {s : Nat → Int32} {a : Nat → Nat → Int32} {w : Bool} {Z : zH} {x y : Int32} {Q : zQ} (hp : 0 ≤ (s 21).toInt ∧ (s 21).toInt ≤ 60) (h0 : (¬ (0 ≤ x.toInt ∧ x.toInt ≤ 2399 ∧ 0 ≤ y.toInt ∧ y.toInt ≤ 100000)) → Q (some (.int (-1))) (HX (va_up s 2 (-1)) a w ++ Z)) (h1 : ((0 ≤ x.toInt ∧ x.toInt ≤ 2399 ∧ 0 ≤ y.toInt ∧ y.toInt ≤ 100000) ∧ 60 ≤ (s 21).toInt) → Q (some (.int (-5))) (HX (va_up s 2 (-5)) a w ++ Z)) (h2 : ((0 ≤ x.toInt ∧ x.toInt ≤ 2399 ∧ 0 ≤ y.toInt ∧ y.toInt ≤ 100000) ∧ (s 21).toInt < 60) → Q (some (.int (s 21 + 1))) (HX (va_up (va_up s 21 (s 21 + 1)) 2 (zcode (s 21 + 1))) (va_up (va_up a 32 (upd (a 32) (s 21).toNatClampNeg x)) 33 (upd (a 33) (s 21).toNatClampNeg y)) w ++ Z)) : zG (d + 4) 98 [.ref 0, .int x, .int y] (HX s a w ++ Z) Q := by
  refine g_98 (Nat.le_of_ble_eq_true rfl) ?_
  intro X0 hX0
  iterate 6 refine hX0 _ _ _ _ ?_
  refine x_addFailure hp (fun c1 => ?_) (fun c2 => ?_) (fun c3 => ?_)
  · refine hX0 _ _ _ _ ?_
    refine r_answered ?_
    refine hX0 _ _ _ _ ?_
    first | exact h0 (by first | omega | ((try simp only [fa_le, fa_lt, fa_eq, va_up] at c1 ⊢) <;> (try simp [-Int32.toInt_sub, -Int32.toInt_add, -Int32.toInt_mul, -Int32.toInt_neg, -Int64.toInt_sub, -Int64.toInt_add] at c1 ⊢) <;> omega)) | exact h1 (by first | omega | ((try simp only [fa_le, fa_lt, fa_eq, va_up] at c1 ⊢) <;> (try simp [-Int32.toInt_sub, -Int32.toInt_add, -Int32.toInt_mul, -Int32.toInt_neg, -Int64.toInt_sub, -Int64.toInt_add] at c1 ⊢) <;> omega)) | exact h2 (by first | omega | ((try simp only [fa_le, fa_lt, fa_eq, va_up] at c1 ⊢) <;> (try simp [-Int32.toInt_sub, -Int32.toInt_add, -Int32.toInt_mul, -Int32.toInt_neg, -Int64.toInt_sub, -Int64.toInt_add] at c1 ⊢) <;> omega)) | (exfalso; first | omega | ((try simp only [fa_le, fa_lt, fa_eq, va_up] at c1 ⊢) <;> (try simp [-Int32.toInt_sub, -Int32.toInt_add, -Int32.toInt_mul, -Int32.toInt_neg, -Int64.toInt_sub, -Int64.toInt_add] at c1 ⊢) <;> omega))
  · refine hX0 _ _ _ _ ?_
    refine r_answered ?_
    refine hX0 _ _ _ _ ?_
    first | exact h0 (by first | omega | ((try simp only [fa_le, fa_lt, fa_eq, va_up] at c2 ⊢) <;> (try simp [-Int32.toInt_sub, -Int32.toInt_add, -Int32.toInt_mul, -Int32.toInt_neg, -Int64.toInt_sub, -Int64.toInt_add] at c2 ⊢) <;> omega)) | exact h1 (by first | omega | ((try simp only [fa_le, fa_lt, fa_eq, va_up] at c2 ⊢) <;> (try simp [-Int32.toInt_sub, -Int32.toInt_add, -Int32.toInt_mul, -Int32.toInt_neg, -Int64.toInt_sub, -Int64.toInt_add] at c2 ⊢) <;> omega)) | exact h2 (by first | omega | ((try simp only [fa_le, fa_lt, fa_eq, va_up] at c2 ⊢) <;> (try simp [-Int32.toInt_sub, -Int32.toInt_add, -Int32.toInt_mul, -Int32.toInt_neg, -Int64.toInt_sub, -Int64.toInt_add] at c2 ⊢) <;> omega)) | (exfalso; first | omega | ((try simp only [fa_le, fa_lt, fa_eq, va_up] at c2 ⊢) <;> (try simp [-Int32.toInt_sub, -Int32.toInt_add, -Int32.toInt_mul, -Int32.toInt_neg, -Int64.toInt_sub, -Int64.toInt_add] at c2 ⊢) <;> omega))
  · refine hX0 _ _ _ _ ?_
    refine r_answered ?_
    refine hX0 _ _ _ _ ?_
    first | exact h0 (by first | omega | ((try simp only [fa_le, fa_lt, fa_eq, va_up] at c3 ⊢) <;> (try simp [-Int32.toInt_sub, -Int32.toInt_add, -Int32.toInt_mul, -Int32.toInt_neg, -Int64.toInt_sub, -Int64.toInt_add] at c3 ⊢) <;> omega)) | exact h1 (by first | omega | ((try simp only [fa_le, fa_lt, fa_eq, va_up] at c3 ⊢) <;> (try simp [-Int32.toInt_sub, -Int32.toInt_add, -Int32.toInt_mul, -Int32.toInt_neg, -Int64.toInt_sub, -Int64.toInt_add] at c3 ⊢) <;> omega)) | exact h2 (by first | omega | ((try simp only [fa_le, fa_lt, fa_eq, va_up] at c3 ⊢) <;> (try simp [-Int32.toInt_sub, -Int32.toInt_add, -Int32.toInt_mul, -Int32.toInt_neg, -Int64.toInt_sub, -Int64.toInt_add] at c3 ⊢) <;> omega)) | (exfalso; first | omega | ((try simp only [fa_le, fa_lt, fa_eq, va_up] at c3 ⊢) <;> (try simp [-Int32.toInt_sub, -Int32.toInt_add, -Int32.toInt_mul, -Int32.toInt_neg, -Int64.toInt_sub, -Int64.toInt_add] at c3 ⊢) <;> omega))

set_option maxRecDepth 100000 in
theorem y_fail {d : Nat} {s : Nat → Int32} {a : Nat → Nat → Int32} {w : Bool} {t : Nat → Int32} {b : Nat → Nat → Int32} {u : Nat → Int64} {c : Nat → Nat → Int64} {x y : Int32} {Q : zQ} (hp : 0 ≤ (t 31).toInt ∧ (t 31).toInt ≤ 60) (h0 : (¬ (0 ≤ x.toInt ∧ x.toInt ≤ 2399 ∧ 0 ≤ y.toInt ∧ y.toInt ≤ 100000)) → Q (some (.int (-1))) (HX s a w ++ HM (va_up (va_up t 0 (0)) 1 (-1)) b u c)) (h1 : ((0 ≤ x.toInt ∧ x.toInt ≤ 2399 ∧ 0 ≤ y.toInt ∧ y.toInt ≤ 100000) ∧ 60 = (t 31).toInt) → Q (some (.int (-5))) (HX s a w ++ HM (va_up (va_up t 0 (0)) 1 (-5)) b u c)) (h2 : ((0 ≤ x.toInt ∧ x.toInt ≤ 2399 ∧ 0 ≤ y.toInt ∧ y.toInt ≤ 100000) ∧ (t 31).toInt < 60) → Q (some (.int (t 31 + 1))) (HX s a w ++ HM (va_up (va_up (va_up t 0 (0)) 31 (t 31 + 1)) 1 (zcode (t 31 + 1))) (va_up (va_up b 43 (upd (b 43) (t 31).toNatClampNeg x)) 44 (upd (b 44) (t 31).toNatClampNeg y)) u c)) : zG (d + 3) 149 [.ref 56, .int x, .int y] (HX s a w ++ HM t b u c) Q := by
  refine g_149 (Nat.le_of_ble_eq_true rfl) ?_
  intro X0 hX0
  iterate 3 refine hX0 _ _ _ _ ?_
  refine zcast (X := X0) yt_0 ?_
  iterate 2 refine hX0 _ _ _ _ ?_
  refine r_isHourM (fun c1 => ?_) (fun c2 => ?_)
  · refine hX0 _ _ _ _ ?_
    refine And.intro (fun c => absurd c (by decide)) (fun _ => ?_)
    iterate 5 refine hX0 _ _ _ _ ?_
    refine r_in (0) (100000) rfl rfl (fun c3 => ?_) (fun c4 => ?_)
    · refine hX0 _ _ _ _ ?_
      refine And.intro (fun _ => ?_) (fun c => absurd c (by decide))
      iterate 4 refine hX0 _ _ _ _ ?_
      refine And.intro (fun c5 => ?_) (fun c5 => ?_)
      · iterate 6 refine hX0 _ _ _ _ ?_
        refine And.intro (by rw [vp_in_iff]; first | omega | ((try simp only [fa_le, fa_lt, fa_eq, va_up] at c1 c3 c5 ⊢) <;> (try simp [-Int32.toInt_sub, -Int32.toInt_add, -Int32.toInt_mul, -Int32.toInt_neg, -Int64.toInt_sub, -Int64.toInt_add] at c1 c3 c5 ⊢) <;> omega)) ?_
        refine zcast (X := X0) yb_43 ?_
        iterate 6 refine hX0 _ _ _ _ ?_
        refine And.intro (by rw [vp_in_iff]; first | omega | ((try simp only [fa_le, fa_lt, fa_eq, va_up] at c1 c3 c5 ⊢) <;> (try simp [-Int32.toInt_sub, -Int32.toInt_add, -Int32.toInt_mul, -Int32.toInt_neg, -Int64.toInt_sub, -Int64.toInt_add] at c1 c3 c5 ⊢) <;> omega)) ?_
        refine zcast (X := X0) yb_44 ?_
        iterate 6 refine hX0 _ _ _ _ ?_
        refine zcast (X := X0) yt_31 ?_
        iterate 4 refine hX0 _ _ _ _ ?_
        refine r_told ?_
        refine hX0 _ _ _ _ ?_
        first | exact h0 (by first | omega | ((try simp only [fa_le, fa_lt, fa_eq, va_up] at c1 c3 c5 ⊢) <;> (try simp [-Int32.toInt_sub, -Int32.toInt_add, -Int32.toInt_mul, -Int32.toInt_neg, -Int64.toInt_sub, -Int64.toInt_add] at c1 c3 c5 ⊢) <;> omega)) | exact h1 (by first | omega | ((try simp only [fa_le, fa_lt, fa_eq, va_up] at c1 c3 c5 ⊢) <;> (try simp [-Int32.toInt_sub, -Int32.toInt_add, -Int32.toInt_mul, -Int32.toInt_neg, -Int64.toInt_sub, -Int64.toInt_add] at c1 c3 c5 ⊢) <;> omega)) | exact h2 (by first | omega | ((try simp only [fa_le, fa_lt, fa_eq, va_up] at c1 c3 c5 ⊢) <;> (try simp [-Int32.toInt_sub, -Int32.toInt_add, -Int32.toInt_mul, -Int32.toInt_neg, -Int64.toInt_sub, -Int64.toInt_add] at c1 c3 c5 ⊢) <;> omega)) | (exfalso; first | omega | ((try simp only [fa_le, fa_lt, fa_eq, va_up] at c1 c3 c5 ⊢) <;> (try simp [-Int32.toInt_sub, -Int32.toInt_add, -Int32.toInt_mul, -Int32.toInt_neg, -Int64.toInt_sub, -Int64.toInt_add] at c1 c3 c5 ⊢) <;> omega))
      · iterate 3 refine hX0 _ _ _ _ ?_
        refine r_told ?_
        refine hX0 _ _ _ _ ?_
        first | exact h0 (by first | omega | ((try simp only [fa_le, fa_lt, fa_eq, va_up] at c1 c3 c5 ⊢) <;> (try simp [-Int32.toInt_sub, -Int32.toInt_add, -Int32.toInt_mul, -Int32.toInt_neg, -Int64.toInt_sub, -Int64.toInt_add] at c1 c3 c5 ⊢) <;> omega)) | exact h1 (by first | omega | ((try simp only [fa_le, fa_lt, fa_eq, va_up] at c1 c3 c5 ⊢) <;> (try simp [-Int32.toInt_sub, -Int32.toInt_add, -Int32.toInt_mul, -Int32.toInt_neg, -Int64.toInt_sub, -Int64.toInt_add] at c1 c3 c5 ⊢) <;> omega)) | exact h2 (by first | omega | ((try simp only [fa_le, fa_lt, fa_eq, va_up] at c1 c3 c5 ⊢) <;> (try simp [-Int32.toInt_sub, -Int32.toInt_add, -Int32.toInt_mul, -Int32.toInt_neg, -Int64.toInt_sub, -Int64.toInt_add] at c1 c3 c5 ⊢) <;> omega)) | (exfalso; first | omega | ((try simp only [fa_le, fa_lt, fa_eq, va_up] at c1 c3 c5 ⊢) <;> (try simp [-Int32.toInt_sub, -Int32.toInt_add, -Int32.toInt_mul, -Int32.toInt_neg, -Int64.toInt_sub, -Int64.toInt_add] at c1 c3 c5 ⊢) <;> omega))
    · refine hX0 _ _ _ _ ?_
      refine And.intro (fun c => absurd c (by decide)) (fun _ => ?_)
      iterate 3 refine hX0 _ _ _ _ ?_
      refine r_told ?_
      refine hX0 _ _ _ _ ?_
      first | exact h0 (by first | omega | ((try simp only [fa_le, fa_lt, fa_eq, va_up] at c1 c4 ⊢) <;> (try simp [-Int32.toInt_sub, -Int32.toInt_add, -Int32.toInt_mul, -Int32.toInt_neg, -Int64.toInt_sub, -Int64.toInt_add] at c1 c4 ⊢) <;> omega)) | exact h1 (by first | omega | ((try simp only [fa_le, fa_lt, fa_eq, va_up] at c1 c4 ⊢) <;> (try simp [-Int32.toInt_sub, -Int32.toInt_add, -Int32.toInt_mul, -Int32.toInt_neg, -Int64.toInt_sub, -Int64.toInt_add] at c1 c4 ⊢) <;> omega)) | exact h2 (by first | omega | ((try simp only [fa_le, fa_lt, fa_eq, va_up] at c1 c4 ⊢) <;> (try simp [-Int32.toInt_sub, -Int32.toInt_add, -Int32.toInt_mul, -Int32.toInt_neg, -Int64.toInt_sub, -Int64.toInt_add] at c1 c4 ⊢) <;> omega)) | (exfalso; first | omega | ((try simp only [fa_le, fa_lt, fa_eq, va_up] at c1 c4 ⊢) <;> (try simp [-Int32.toInt_sub, -Int32.toInt_add, -Int32.toInt_mul, -Int32.toInt_neg, -Int64.toInt_sub, -Int64.toInt_add] at c1 c4 ⊢) <;> omega))
  · refine hX0 _ _ _ _ ?_
    refine And.intro (fun _ => ?_) (fun c => absurd c (by decide))
    iterate 3 refine hX0 _ _ _ _ ?_
    refine r_told ?_
    refine hX0 _ _ _ _ ?_
    first | exact h0 (by first | omega | ((try simp only [fa_le, fa_lt, fa_eq, va_up] at c2 ⊢) <;> (try simp [-Int32.toInt_sub, -Int32.toInt_add, -Int32.toInt_mul, -Int32.toInt_neg, -Int64.toInt_sub, -Int64.toInt_add] at c2 ⊢) <;> omega)) | exact h1 (by first | omega | ((try simp only [fa_le, fa_lt, fa_eq, va_up] at c2 ⊢) <;> (try simp [-Int32.toInt_sub, -Int32.toInt_add, -Int32.toInt_mul, -Int32.toInt_neg, -Int64.toInt_sub, -Int64.toInt_add] at c2 ⊢) <;> omega)) | exact h2 (by first | omega | ((try simp only [fa_le, fa_lt, fa_eq, va_up] at c2 ⊢) <;> (try simp [-Int32.toInt_sub, -Int32.toInt_add, -Int32.toInt_mul, -Int32.toInt_neg, -Int64.toInt_sub, -Int64.toInt_add] at c2 ⊢) <;> omega)) | (exfalso; first | omega | ((try simp only [fa_le, fa_lt, fa_eq, va_up] at c2 ⊢) <;> (try simp [-Int32.toInt_sub, -Int32.toInt_add, -Int32.toInt_mul, -Int32.toInt_neg, -Int64.toInt_sub, -Int64.toInt_add] at c2 ⊢) <;> omega))

set_option maxRecDepth 100000 in
theorem x_addWork {d : Nat} {s : Nat → Int32} {a : Nat → Nat → Int32} {w : Bool} {Z : zH} {x y z v : Int32} {Q : zQ} (hp : 0 ≤ (s 11).toInt ∧ (s 11).toInt ≤ 30) (h0 : (¬ (1 ≤ x.toInt ∧ x.toInt ≤ 24 ∧ 1 ≤ y.toInt ∧ y.toInt ≤ 4 ∧ 0 ≤ z.toInt ∧ z.toInt ≤ 255 ∧ 0 ≤ v.toInt ∧ v.toInt ≤ 3)) → Q (some (.int (-1))) (HX s a w ++ Z)) (h1 : ((1 ≤ x.toInt ∧ x.toInt ≤ 24 ∧ 1 ≤ y.toInt ∧ y.toInt ≤ 4 ∧ 0 ≤ z.toInt ∧ z.toInt ≤ 255 ∧ 0 ≤ v.toInt ∧ v.toInt ≤ 3) ∧ 30 ≤ (s 11).toInt) → Q (some (.int (-5))) (HX s a w ++ Z)) (h2 : ((1 ≤ x.toInt ∧ x.toInt ≤ 24 ∧ 1 ≤ y.toInt ∧ y.toInt ≤ 4 ∧ 0 ≤ z.toInt ∧ z.toInt ≤ 255 ∧ 0 ≤ v.toInt ∧ v.toInt ≤ 3) ∧ (s 11).toInt < 30) → Q (some (.int (s 11 + 1 - 1))) (HX (va_up s 11 (s 11 + 1)) (va_up (va_up (va_up (va_up a 17 (upd (a 17) (s 11).toNatClampNeg x)) 18 (upd (a 18) (s 11).toNatClampNeg y)) 19 (upd (a 19) (s 11).toNatClampNeg z)) 20 (upd (a 20) (s 11).toNatClampNeg v)) w ++ Z)) : zG (d + 2) 5 [.ref 17, .int x, .int y, .int z, .int v] (HX s a w ++ Z) Q := by
  refine g_5 (Nat.le_of_ble_eq_true rfl) ?_
  intro X0 hX0
  iterate 4 refine hX0 _ _ _ _ ?_
  refine r_within (1) (24) rfl rfl (fun c1 => ?_) (fun c2 => ?_)
  · refine hX0 _ _ _ _ ?_
    refine And.intro (fun c => absurd c (by decide)) (fun _ => ?_)
    iterate 4 refine hX0 _ _ _ _ ?_
    refine r_within (1) (4) rfl rfl (fun c3 => ?_) (fun c4 => ?_)
    · refine hX0 _ _ _ _ ?_
      refine And.intro (fun c => absurd c (by decide)) (fun _ => ?_)
      iterate 5 refine hX0 _ _ _ _ ?_
      refine And.intro (fun c => absurd c (by decide)) (fun _ => ?_)
      iterate 4 refine hX0 _ _ _ _ ?_
      refine r_within (0) (255) rfl rfl (fun c5 => ?_) (fun c6 => ?_)
      · refine hX0 _ _ _ _ ?_
        refine And.intro (fun c => absurd c (by decide)) (fun _ => ?_)
        iterate 4 refine hX0 _ _ _ _ ?_
        refine r_within (0) (3) rfl rfl (fun c7 => ?_) (fun c8 => ?_)
        · refine hX0 _ _ _ _ ?_
          refine And.intro (fun _ => ?_) (fun c => absurd c (by decide))
          iterate 4 refine hX0 _ _ _ _ ?_
          refine And.intro (fun c9 => ?_) (fun c9 => ?_)
          · iterate 6 refine hX0 _ _ _ _ ?_
            refine And.intro (by rw [vp_in_iff]; first | omega | ((try simp only [fa_le, fa_lt, fa_eq, va_up] at c1 c3 c5 c7 c9 ⊢) <;> (try simp [-Int32.toInt_sub, -Int32.toInt_add, -Int32.toInt_mul, -Int32.toInt_neg, -Int64.toInt_sub, -Int64.toInt_add] at c1 c3 c5 c7 c9 ⊢) <;> omega)) ?_
            refine zcast (X := X0) xa_17 ?_
            iterate 6 refine hX0 _ _ _ _ ?_
            refine And.intro (by rw [vp_in_iff]; first | omega | ((try simp only [fa_le, fa_lt, fa_eq, va_up] at c1 c3 c5 c7 c9 ⊢) <;> (try simp [-Int32.toInt_sub, -Int32.toInt_add, -Int32.toInt_mul, -Int32.toInt_neg, -Int64.toInt_sub, -Int64.toInt_add] at c1 c3 c5 c7 c9 ⊢) <;> omega)) ?_
            refine zcast (X := X0) xa_18 ?_
            iterate 6 refine hX0 _ _ _ _ ?_
            refine And.intro (by rw [vp_in_iff]; first | omega | ((try simp only [fa_le, fa_lt, fa_eq, va_up] at c1 c3 c5 c7 c9 ⊢) <;> (try simp [-Int32.toInt_sub, -Int32.toInt_add, -Int32.toInt_mul, -Int32.toInt_neg, -Int64.toInt_sub, -Int64.toInt_add] at c1 c3 c5 c7 c9 ⊢) <;> omega)) ?_
            refine zcast (X := X0) xa_19 ?_
            iterate 6 refine hX0 _ _ _ _ ?_
            refine And.intro (by rw [vp_in_iff]; first | omega | ((try simp only [fa_le, fa_lt, fa_eq, va_up] at c1 c3 c5 c7 c9 ⊢) <;> (try simp [-Int32.toInt_sub, -Int32.toInt_add, -Int32.toInt_mul, -Int32.toInt_neg, -Int64.toInt_sub, -Int64.toInt_add] at c1 c3 c5 c7 c9 ⊢) <;> omega)) ?_
            refine zcast (X := X0) xa_20 ?_
            iterate 6 refine hX0 _ _ _ _ ?_
            refine zcast (X := X0) xs_11 ?_
            iterate 5 refine hX0 _ _ _ _ ?_
            first | exact h0 (by first | omega | ((try simp only [fa_le, fa_lt, fa_eq, va_up] at c1 c3 c5 c7 c9 ⊢) <;> (try simp [-Int32.toInt_sub, -Int32.toInt_add, -Int32.toInt_mul, -Int32.toInt_neg, -Int64.toInt_sub, -Int64.toInt_add] at c1 c3 c5 c7 c9 ⊢) <;> omega)) | exact h1 (by first | omega | ((try simp only [fa_le, fa_lt, fa_eq, va_up] at c1 c3 c5 c7 c9 ⊢) <;> (try simp [-Int32.toInt_sub, -Int32.toInt_add, -Int32.toInt_mul, -Int32.toInt_neg, -Int64.toInt_sub, -Int64.toInt_add] at c1 c3 c5 c7 c9 ⊢) <;> omega)) | exact h2 (by first | omega | ((try simp only [fa_le, fa_lt, fa_eq, va_up] at c1 c3 c5 c7 c9 ⊢) <;> (try simp [-Int32.toInt_sub, -Int32.toInt_add, -Int32.toInt_mul, -Int32.toInt_neg, -Int64.toInt_sub, -Int64.toInt_add] at c1 c3 c5 c7 c9 ⊢) <;> omega)) | (exfalso; first | omega | ((try simp only [fa_le, fa_lt, fa_eq, va_up] at c1 c3 c5 c7 c9 ⊢) <;> (try simp [-Int32.toInt_sub, -Int32.toInt_add, -Int32.toInt_mul, -Int32.toInt_neg, -Int64.toInt_sub, -Int64.toInt_add] at c1 c3 c5 c7 c9 ⊢) <;> omega))
          · iterate 2 refine hX0 _ _ _ _ ?_
            first | exact h0 (by first | omega | ((try simp only [fa_le, fa_lt, fa_eq, va_up] at c1 c3 c5 c7 c9 ⊢) <;> (try simp [-Int32.toInt_sub, -Int32.toInt_add, -Int32.toInt_mul, -Int32.toInt_neg, -Int64.toInt_sub, -Int64.toInt_add] at c1 c3 c5 c7 c9 ⊢) <;> omega)) | exact h1 (by first | omega | ((try simp only [fa_le, fa_lt, fa_eq, va_up] at c1 c3 c5 c7 c9 ⊢) <;> (try simp [-Int32.toInt_sub, -Int32.toInt_add, -Int32.toInt_mul, -Int32.toInt_neg, -Int64.toInt_sub, -Int64.toInt_add] at c1 c3 c5 c7 c9 ⊢) <;> omega)) | exact h2 (by first | omega | ((try simp only [fa_le, fa_lt, fa_eq, va_up] at c1 c3 c5 c7 c9 ⊢) <;> (try simp [-Int32.toInt_sub, -Int32.toInt_add, -Int32.toInt_mul, -Int32.toInt_neg, -Int64.toInt_sub, -Int64.toInt_add] at c1 c3 c5 c7 c9 ⊢) <;> omega)) | (exfalso; first | omega | ((try simp only [fa_le, fa_lt, fa_eq, va_up] at c1 c3 c5 c7 c9 ⊢) <;> (try simp [-Int32.toInt_sub, -Int32.toInt_add, -Int32.toInt_mul, -Int32.toInt_neg, -Int64.toInt_sub, -Int64.toInt_add] at c1 c3 c5 c7 c9 ⊢) <;> omega))
        · refine hX0 _ _ _ _ ?_
          refine And.intro (fun c => absurd c (by decide)) (fun _ => ?_)
          iterate 2 refine hX0 _ _ _ _ ?_
          first | exact h0 (by first | omega | ((try simp only [fa_le, fa_lt, fa_eq, va_up] at c1 c3 c5 c8 ⊢) <;> (try simp [-Int32.toInt_sub, -Int32.toInt_add, -Int32.toInt_mul, -Int32.toInt_neg, -Int64.toInt_sub, -Int64.toInt_add] at c1 c3 c5 c8 ⊢) <;> omega)) | exact h1 (by first | omega | ((try simp only [fa_le, fa_lt, fa_eq, va_up] at c1 c3 c5 c8 ⊢) <;> (try simp [-Int32.toInt_sub, -Int32.toInt_add, -Int32.toInt_mul, -Int32.toInt_neg, -Int64.toInt_sub, -Int64.toInt_add] at c1 c3 c5 c8 ⊢) <;> omega)) | exact h2 (by first | omega | ((try simp only [fa_le, fa_lt, fa_eq, va_up] at c1 c3 c5 c8 ⊢) <;> (try simp [-Int32.toInt_sub, -Int32.toInt_add, -Int32.toInt_mul, -Int32.toInt_neg, -Int64.toInt_sub, -Int64.toInt_add] at c1 c3 c5 c8 ⊢) <;> omega)) | (exfalso; first | omega | ((try simp only [fa_le, fa_lt, fa_eq, va_up] at c1 c3 c5 c8 ⊢) <;> (try simp [-Int32.toInt_sub, -Int32.toInt_add, -Int32.toInt_mul, -Int32.toInt_neg, -Int64.toInt_sub, -Int64.toInt_add] at c1 c3 c5 c8 ⊢) <;> omega))
      · refine hX0 _ _ _ _ ?_
        refine And.intro (fun _ => ?_) (fun c => absurd c (by decide))
        iterate 2 refine hX0 _ _ _ _ ?_
        first | exact h0 (by first | omega | ((try simp only [fa_le, fa_lt, fa_eq, va_up] at c1 c3 c6 ⊢) <;> (try simp [-Int32.toInt_sub, -Int32.toInt_add, -Int32.toInt_mul, -Int32.toInt_neg, -Int64.toInt_sub, -Int64.toInt_add] at c1 c3 c6 ⊢) <;> omega)) | exact h1 (by first | omega | ((try simp only [fa_le, fa_lt, fa_eq, va_up] at c1 c3 c6 ⊢) <;> (try simp [-Int32.toInt_sub, -Int32.toInt_add, -Int32.toInt_mul, -Int32.toInt_neg, -Int64.toInt_sub, -Int64.toInt_add] at c1 c3 c6 ⊢) <;> omega)) | exact h2 (by first | omega | ((try simp only [fa_le, fa_lt, fa_eq, va_up] at c1 c3 c6 ⊢) <;> (try simp [-Int32.toInt_sub, -Int32.toInt_add, -Int32.toInt_mul, -Int32.toInt_neg, -Int64.toInt_sub, -Int64.toInt_add] at c1 c3 c6 ⊢) <;> omega)) | (exfalso; first | omega | ((try simp only [fa_le, fa_lt, fa_eq, va_up] at c1 c3 c6 ⊢) <;> (try simp [-Int32.toInt_sub, -Int32.toInt_add, -Int32.toInt_mul, -Int32.toInt_neg, -Int64.toInt_sub, -Int64.toInt_add] at c1 c3 c6 ⊢) <;> omega))
    · refine hX0 _ _ _ _ ?_
      refine And.intro (fun _ => ?_) (fun c => absurd c (by decide))
      iterate 4 refine hX0 _ _ _ _ ?_
      refine And.intro (fun _ => ?_) (fun c => absurd c (by decide))
      iterate 2 refine hX0 _ _ _ _ ?_
      first | exact h0 (by first | omega | ((try simp only [fa_le, fa_lt, fa_eq, va_up] at c1 c4 ⊢) <;> (try simp [-Int32.toInt_sub, -Int32.toInt_add, -Int32.toInt_mul, -Int32.toInt_neg, -Int64.toInt_sub, -Int64.toInt_add] at c1 c4 ⊢) <;> omega)) | exact h1 (by first | omega | ((try simp only [fa_le, fa_lt, fa_eq, va_up] at c1 c4 ⊢) <;> (try simp [-Int32.toInt_sub, -Int32.toInt_add, -Int32.toInt_mul, -Int32.toInt_neg, -Int64.toInt_sub, -Int64.toInt_add] at c1 c4 ⊢) <;> omega)) | exact h2 (by first | omega | ((try simp only [fa_le, fa_lt, fa_eq, va_up] at c1 c4 ⊢) <;> (try simp [-Int32.toInt_sub, -Int32.toInt_add, -Int32.toInt_mul, -Int32.toInt_neg, -Int64.toInt_sub, -Int64.toInt_add] at c1 c4 ⊢) <;> omega)) | (exfalso; first | omega | ((try simp only [fa_le, fa_lt, fa_eq, va_up] at c1 c4 ⊢) <;> (try simp [-Int32.toInt_sub, -Int32.toInt_add, -Int32.toInt_mul, -Int32.toInt_neg, -Int64.toInt_sub, -Int64.toInt_add] at c1 c4 ⊢) <;> omega))
  · refine hX0 _ _ _ _ ?_
    refine And.intro (fun _ => ?_) (fun c => absurd c (by decide))
    iterate 4 refine hX0 _ _ _ _ ?_
    refine And.intro (fun _ => ?_) (fun c => absurd c (by decide))
    iterate 2 refine hX0 _ _ _ _ ?_
    first | exact h0 (by first | omega | ((try simp only [fa_le, fa_lt, fa_eq, va_up] at c2 ⊢) <;> (try simp [-Int32.toInt_sub, -Int32.toInt_add, -Int32.toInt_mul, -Int32.toInt_neg, -Int64.toInt_sub, -Int64.toInt_add] at c2 ⊢) <;> omega)) | exact h1 (by first | omega | ((try simp only [fa_le, fa_lt, fa_eq, va_up] at c2 ⊢) <;> (try simp [-Int32.toInt_sub, -Int32.toInt_add, -Int32.toInt_mul, -Int32.toInt_neg, -Int64.toInt_sub, -Int64.toInt_add] at c2 ⊢) <;> omega)) | exact h2 (by first | omega | ((try simp only [fa_le, fa_lt, fa_eq, va_up] at c2 ⊢) <;> (try simp [-Int32.toInt_sub, -Int32.toInt_add, -Int32.toInt_mul, -Int32.toInt_neg, -Int64.toInt_sub, -Int64.toInt_add] at c2 ⊢) <;> omega)) | (exfalso; first | omega | ((try simp only [fa_le, fa_lt, fa_eq, va_up] at c2 ⊢) <;> (try simp [-Int32.toInt_sub, -Int32.toInt_add, -Int32.toInt_mul, -Int32.toInt_neg, -Int64.toInt_sub, -Int64.toInt_add] at c2 ⊢) <;> omega))

set_option maxRecDepth 100000 in
theorem x_work {d : Nat} {s : Nat → Int32} {a : Nat → Nat → Int32} {w : Bool} {Z : zH} {x y z v : Int32} {Q : zQ} (hp : 0 ≤ (s 11).toInt ∧ (s 11).toInt ≤ 30) (h0 : (¬ (1 ≤ x.toInt ∧ x.toInt ≤ 24 ∧ 1 ≤ y.toInt ∧ y.toInt ≤ 4 ∧ 0 ≤ z.toInt ∧ z.toInt ≤ 255 ∧ 0 ≤ v.toInt ∧ v.toInt ≤ 3)) → Q (some (.int (-1))) (HX (va_up s 2 (-1)) a w ++ Z)) (h1 : ((1 ≤ x.toInt ∧ x.toInt ≤ 24 ∧ 1 ≤ y.toInt ∧ y.toInt ≤ 4 ∧ 0 ≤ z.toInt ∧ z.toInt ≤ 255 ∧ 0 ≤ v.toInt ∧ v.toInt ≤ 3) ∧ 30 ≤ (s 11).toInt) → Q (some (.int (-5))) (HX (va_up s 2 (-5)) a w ++ Z)) (h2 : ((1 ≤ x.toInt ∧ x.toInt ≤ 24 ∧ 1 ≤ y.toInt ∧ y.toInt ≤ 4 ∧ 0 ≤ z.toInt ∧ z.toInt ≤ 255 ∧ 0 ≤ v.toInt ∧ v.toInt ≤ 3) ∧ (s 11).toInt < 30) → Q (some (.int (s 11 + 1 - 1))) (HX (va_up (va_up s 11 (s 11 + 1)) 2 (zcode (s 11 + 1 - 1))) (va_up (va_up (va_up (va_up a 17 (upd (a 17) (s 11).toNatClampNeg x)) 18 (upd (a 18) (s 11).toNatClampNeg y)) 19 (upd (a 19) (s 11).toNatClampNeg z)) 20 (upd (a 20) (s 11).toNatClampNeg v)) w ++ Z)) : zG (d + 3) 89 [.ref 0, .int x, .int y, .int z, .int v] (HX s a w ++ Z) Q := by
  refine g_89 (Nat.le_of_ble_eq_true rfl) ?_
  intro X0 hX0
  iterate 8 refine hX0 _ _ _ _ ?_
  refine x_addWork hp (fun c1 => ?_) (fun c2 => ?_) (fun c3 => ?_)
  · refine hX0 _ _ _ _ ?_
    refine r_answered ?_
    refine hX0 _ _ _ _ ?_
    first | exact h0 (by first | omega | ((try simp only [fa_le, fa_lt, fa_eq, va_up] at c1 ⊢) <;> (try simp [-Int32.toInt_sub, -Int32.toInt_add, -Int32.toInt_mul, -Int32.toInt_neg, -Int64.toInt_sub, -Int64.toInt_add] at c1 ⊢) <;> omega)) | exact h1 (by first | omega | ((try simp only [fa_le, fa_lt, fa_eq, va_up] at c1 ⊢) <;> (try simp [-Int32.toInt_sub, -Int32.toInt_add, -Int32.toInt_mul, -Int32.toInt_neg, -Int64.toInt_sub, -Int64.toInt_add] at c1 ⊢) <;> omega)) | exact h2 (by first | omega | ((try simp only [fa_le, fa_lt, fa_eq, va_up] at c1 ⊢) <;> (try simp [-Int32.toInt_sub, -Int32.toInt_add, -Int32.toInt_mul, -Int32.toInt_neg, -Int64.toInt_sub, -Int64.toInt_add] at c1 ⊢) <;> omega)) | (exfalso; first | omega | ((try simp only [fa_le, fa_lt, fa_eq, va_up] at c1 ⊢) <;> (try simp [-Int32.toInt_sub, -Int32.toInt_add, -Int32.toInt_mul, -Int32.toInt_neg, -Int64.toInt_sub, -Int64.toInt_add] at c1 ⊢) <;> omega))
  · refine hX0 _ _ _ _ ?_
    refine r_answered ?_
    refine hX0 _ _ _ _ ?_
    first | exact h0 (by first | omega | ((try simp only [fa_le, fa_lt, fa_eq, va_up] at c2 ⊢) <;> (try simp [-Int32.toInt_sub, -Int32.toInt_add, -Int32.toInt_mul, -Int32.toInt_neg, -Int64.toInt_sub, -Int64.toInt_add] at c2 ⊢) <;> omega)) | exact h1 (by first | omega | ((try simp only [fa_le, fa_lt, fa_eq, va_up] at c2 ⊢) <;> (try simp [-Int32.toInt_sub, -Int32.toInt_add, -Int32.toInt_mul, -Int32.toInt_neg, -Int64.toInt_sub, -Int64.toInt_add] at c2 ⊢) <;> omega)) | exact h2 (by first | omega | ((try simp only [fa_le, fa_lt, fa_eq, va_up] at c2 ⊢) <;> (try simp [-Int32.toInt_sub, -Int32.toInt_add, -Int32.toInt_mul, -Int32.toInt_neg, -Int64.toInt_sub, -Int64.toInt_add] at c2 ⊢) <;> omega)) | (exfalso; first | omega | ((try simp only [fa_le, fa_lt, fa_eq, va_up] at c2 ⊢) <;> (try simp [-Int32.toInt_sub, -Int32.toInt_add, -Int32.toInt_mul, -Int32.toInt_neg, -Int64.toInt_sub, -Int64.toInt_add] at c2 ⊢) <;> omega))
  · refine hX0 _ _ _ _ ?_
    refine r_answered ?_
    refine hX0 _ _ _ _ ?_
    first | exact h0 (by first | omega | ((try simp only [fa_le, fa_lt, fa_eq, va_up] at c3 ⊢) <;> (try simp [-Int32.toInt_sub, -Int32.toInt_add, -Int32.toInt_mul, -Int32.toInt_neg, -Int64.toInt_sub, -Int64.toInt_add] at c3 ⊢) <;> omega)) | exact h1 (by first | omega | ((try simp only [fa_le, fa_lt, fa_eq, va_up] at c3 ⊢) <;> (try simp [-Int32.toInt_sub, -Int32.toInt_add, -Int32.toInt_mul, -Int32.toInt_neg, -Int64.toInt_sub, -Int64.toInt_add] at c3 ⊢) <;> omega)) | exact h2 (by first | omega | ((try simp only [fa_le, fa_lt, fa_eq, va_up] at c3 ⊢) <;> (try simp [-Int32.toInt_sub, -Int32.toInt_add, -Int32.toInt_mul, -Int32.toInt_neg, -Int64.toInt_sub, -Int64.toInt_add] at c3 ⊢) <;> omega)) | (exfalso; first | omega | ((try simp only [fa_le, fa_lt, fa_eq, va_up] at c3 ⊢) <;> (try simp [-Int32.toInt_sub, -Int32.toInt_add, -Int32.toInt_mul, -Int32.toInt_neg, -Int64.toInt_sub, -Int64.toInt_add] at c3 ⊢) <;> omega))

set_option maxRecDepth 100000 in
theorem y_work {d : Nat} {s : Nat → Int32} {a : Nat → Nat → Int32} {w : Bool} {t : Nat → Int32} {b : Nat → Nat → Int32} {u : Nat → Int64} {c : Nat → Nat → Int64} {x y z v : Int32} {Q : zQ} (hp : 0 ≤ (t 13).toInt ∧ (t 13).toInt ≤ 30) (h0 : (¬ (1 ≤ x.toInt ∧ x.toInt ≤ 24 ∧ 1 ≤ y.toInt ∧ y.toInt ≤ 4 ∧ 0 ≤ z.toInt ∧ z.toInt ≤ 255 ∧ 0 ≤ v.toInt ∧ v.toInt ≤ 3)) → Q (some (.int (-1))) (HX s a w ++ HM (va_up (va_up t 0 (0)) 1 (-1)) b u c)) (h1 : ((1 ≤ x.toInt ∧ x.toInt ≤ 24 ∧ 1 ≤ y.toInt ∧ y.toInt ≤ 4 ∧ 0 ≤ z.toInt ∧ z.toInt ≤ 255 ∧ 0 ≤ v.toInt ∧ v.toInt ≤ 3) ∧ 30 = (t 13).toInt) → Q (some (.int (-5))) (HX s a w ++ HM (va_up (va_up t 0 (0)) 1 (-5)) b u c)) (h2 : ((1 ≤ x.toInt ∧ x.toInt ≤ 24 ∧ 1 ≤ y.toInt ∧ y.toInt ≤ 4 ∧ 0 ≤ z.toInt ∧ z.toInt ≤ 255 ∧ 0 ≤ v.toInt ∧ v.toInt ≤ 3) ∧ (t 13).toInt < 30) → Q (some (.int (t 13 + 1 - 1))) (HX s a w ++ HM (va_up (va_up (va_up t 0 (0)) 13 (t 13 + 1)) 1 (zcode (t 13 + 1 - 1))) (va_up (va_up (va_up (va_up b 23 (upd (b 23) (t 13).toNatClampNeg x)) 24 (upd (b 24) (t 13).toNatClampNeg y)) 25 (upd (b 25) (t 13).toNatClampNeg z)) 26 (upd (b 26) (t 13).toNatClampNeg v)) u c)) : zG (d + 2) 128 [.ref 56, .int x, .int y, .int z, .int v] (HX s a w ++ HM t b u c) Q := by
  refine g_128 (Nat.le_of_ble_eq_true rfl) ?_
  intro X0 hX0
  iterate 3 refine hX0 _ _ _ _ ?_
  refine zcast (X := X0) yt_0 ?_
  iterate 5 refine hX0 _ _ _ _ ?_
  refine r_in (1) (24) rfl rfl (fun c1 => ?_) (fun c2 => ?_)
  · refine hX0 _ _ _ _ ?_
    refine And.intro (fun c => absurd c (by decide)) (fun _ => ?_)
    iterate 5 refine hX0 _ _ _ _ ?_
    refine r_in (1) (4) rfl rfl (fun c3 => ?_) (fun c4 => ?_)
    · refine hX0 _ _ _ _ ?_
      refine And.intro (fun c => absurd c (by decide)) (fun _ => ?_)
      iterate 5 refine hX0 _ _ _ _ ?_
      refine r_in (0) (255) rfl rfl (fun c5 => ?_) (fun c6 => ?_)
      · refine hX0 _ _ _ _ ?_
        refine And.intro (fun c => absurd c (by decide)) (fun _ => ?_)
        iterate 5 refine hX0 _ _ _ _ ?_
        refine r_in (0) (3) rfl rfl (fun c7 => ?_) (fun c8 => ?_)
        · refine hX0 _ _ _ _ ?_
          refine And.intro (fun _ => ?_) (fun c => absurd c (by decide))
          iterate 4 refine hX0 _ _ _ _ ?_
          refine And.intro (fun c9 => ?_) (fun c9 => ?_)
          · iterate 6 refine hX0 _ _ _ _ ?_
            refine And.intro (by rw [vp_in_iff]; first | omega | ((try simp only [fa_le, fa_lt, fa_eq, va_up] at c1 c3 c5 c7 c9 ⊢) <;> (try simp [-Int32.toInt_sub, -Int32.toInt_add, -Int32.toInt_mul, -Int32.toInt_neg, -Int64.toInt_sub, -Int64.toInt_add] at c1 c3 c5 c7 c9 ⊢) <;> omega)) ?_
            refine zcast (X := X0) yb_23 ?_
            iterate 6 refine hX0 _ _ _ _ ?_
            refine And.intro (by rw [vp_in_iff]; first | omega | ((try simp only [fa_le, fa_lt, fa_eq, va_up] at c1 c3 c5 c7 c9 ⊢) <;> (try simp [-Int32.toInt_sub, -Int32.toInt_add, -Int32.toInt_mul, -Int32.toInt_neg, -Int64.toInt_sub, -Int64.toInt_add] at c1 c3 c5 c7 c9 ⊢) <;> omega)) ?_
            refine zcast (X := X0) yb_24 ?_
            iterate 6 refine hX0 _ _ _ _ ?_
            refine And.intro (by rw [vp_in_iff]; first | omega | ((try simp only [fa_le, fa_lt, fa_eq, va_up] at c1 c3 c5 c7 c9 ⊢) <;> (try simp [-Int32.toInt_sub, -Int32.toInt_add, -Int32.toInt_mul, -Int32.toInt_neg, -Int64.toInt_sub, -Int64.toInt_add] at c1 c3 c5 c7 c9 ⊢) <;> omega)) ?_
            refine zcast (X := X0) yb_25 ?_
            iterate 6 refine hX0 _ _ _ _ ?_
            refine And.intro (by rw [vp_in_iff]; first | omega | ((try simp only [fa_le, fa_lt, fa_eq, va_up] at c1 c3 c5 c7 c9 ⊢) <;> (try simp [-Int32.toInt_sub, -Int32.toInt_add, -Int32.toInt_mul, -Int32.toInt_neg, -Int64.toInt_sub, -Int64.toInt_add] at c1 c3 c5 c7 c9 ⊢) <;> omega)) ?_
            refine zcast (X := X0) yb_26 ?_
            iterate 6 refine hX0 _ _ _ _ ?_
            refine zcast (X := X0) yt_13 ?_
            iterate 6 refine hX0 _ _ _ _ ?_
            refine r_told ?_
            refine hX0 _ _ _ _ ?_
            first | exact h0 (by first | omega | ((try simp only [fa_le, fa_lt, fa_eq, va_up] at c1 c3 c5 c7 c9 ⊢) <;> (try simp [-Int32.toInt_sub, -Int32.toInt_add, -Int32.toInt_mul, -Int32.toInt_neg, -Int64.toInt_sub, -Int64.toInt_add] at c1 c3 c5 c7 c9 ⊢) <;> omega)) | exact h1 (by first | omega | ((try simp only [fa_le, fa_lt, fa_eq, va_up] at c1 c3 c5 c7 c9 ⊢) <;> (try simp [-Int32.toInt_sub, -Int32.toInt_add, -Int32.toInt_mul, -Int32.toInt_neg, -Int64.toInt_sub, -Int64.toInt_add] at c1 c3 c5 c7 c9 ⊢) <;> omega)) | exact h2 (by first | omega | ((try simp only [fa_le, fa_lt, fa_eq, va_up] at c1 c3 c5 c7 c9 ⊢) <;> (try simp [-Int32.toInt_sub, -Int32.toInt_add, -Int32.toInt_mul, -Int32.toInt_neg, -Int64.toInt_sub, -Int64.toInt_add] at c1 c3 c5 c7 c9 ⊢) <;> omega)) | (exfalso; first | omega | ((try simp only [fa_le, fa_lt, fa_eq, va_up] at c1 c3 c5 c7 c9 ⊢) <;> (try simp [-Int32.toInt_sub, -Int32.toInt_add, -Int32.toInt_mul, -Int32.toInt_neg, -Int64.toInt_sub, -Int64.toInt_add] at c1 c3 c5 c7 c9 ⊢) <;> omega))
          · iterate 3 refine hX0 _ _ _ _ ?_
            refine r_told ?_
            refine hX0 _ _ _ _ ?_
            first | exact h0 (by first | omega | ((try simp only [fa_le, fa_lt, fa_eq, va_up] at c1 c3 c5 c7 c9 ⊢) <;> (try simp [-Int32.toInt_sub, -Int32.toInt_add, -Int32.toInt_mul, -Int32.toInt_neg, -Int64.toInt_sub, -Int64.toInt_add] at c1 c3 c5 c7 c9 ⊢) <;> omega)) | exact h1 (by first | omega | ((try simp only [fa_le, fa_lt, fa_eq, va_up] at c1 c3 c5 c7 c9 ⊢) <;> (try simp [-Int32.toInt_sub, -Int32.toInt_add, -Int32.toInt_mul, -Int32.toInt_neg, -Int64.toInt_sub, -Int64.toInt_add] at c1 c3 c5 c7 c9 ⊢) <;> omega)) | exact h2 (by first | omega | ((try simp only [fa_le, fa_lt, fa_eq, va_up] at c1 c3 c5 c7 c9 ⊢) <;> (try simp [-Int32.toInt_sub, -Int32.toInt_add, -Int32.toInt_mul, -Int32.toInt_neg, -Int64.toInt_sub, -Int64.toInt_add] at c1 c3 c5 c7 c9 ⊢) <;> omega)) | (exfalso; first | omega | ((try simp only [fa_le, fa_lt, fa_eq, va_up] at c1 c3 c5 c7 c9 ⊢) <;> (try simp [-Int32.toInt_sub, -Int32.toInt_add, -Int32.toInt_mul, -Int32.toInt_neg, -Int64.toInt_sub, -Int64.toInt_add] at c1 c3 c5 c7 c9 ⊢) <;> omega))
        · refine hX0 _ _ _ _ ?_
          refine And.intro (fun c => absurd c (by decide)) (fun _ => ?_)
          iterate 3 refine hX0 _ _ _ _ ?_
          refine r_told ?_
          refine hX0 _ _ _ _ ?_
          first | exact h0 (by first | omega | ((try simp only [fa_le, fa_lt, fa_eq, va_up] at c1 c3 c5 c8 ⊢) <;> (try simp [-Int32.toInt_sub, -Int32.toInt_add, -Int32.toInt_mul, -Int32.toInt_neg, -Int64.toInt_sub, -Int64.toInt_add] at c1 c3 c5 c8 ⊢) <;> omega)) | exact h1 (by first | omega | ((try simp only [fa_le, fa_lt, fa_eq, va_up] at c1 c3 c5 c8 ⊢) <;> (try simp [-Int32.toInt_sub, -Int32.toInt_add, -Int32.toInt_mul, -Int32.toInt_neg, -Int64.toInt_sub, -Int64.toInt_add] at c1 c3 c5 c8 ⊢) <;> omega)) | exact h2 (by first | omega | ((try simp only [fa_le, fa_lt, fa_eq, va_up] at c1 c3 c5 c8 ⊢) <;> (try simp [-Int32.toInt_sub, -Int32.toInt_add, -Int32.toInt_mul, -Int32.toInt_neg, -Int64.toInt_sub, -Int64.toInt_add] at c1 c3 c5 c8 ⊢) <;> omega)) | (exfalso; first | omega | ((try simp only [fa_le, fa_lt, fa_eq, va_up] at c1 c3 c5 c8 ⊢) <;> (try simp [-Int32.toInt_sub, -Int32.toInt_add, -Int32.toInt_mul, -Int32.toInt_neg, -Int64.toInt_sub, -Int64.toInt_add] at c1 c3 c5 c8 ⊢) <;> omega))
      · refine hX0 _ _ _ _ ?_
        refine And.intro (fun _ => ?_) (fun c => absurd c (by decide))
        iterate 3 refine hX0 _ _ _ _ ?_
        refine r_told ?_
        refine hX0 _ _ _ _ ?_
        first | exact h0 (by first | omega | ((try simp only [fa_le, fa_lt, fa_eq, va_up] at c1 c3 c6 ⊢) <;> (try simp [-Int32.toInt_sub, -Int32.toInt_add, -Int32.toInt_mul, -Int32.toInt_neg, -Int64.toInt_sub, -Int64.toInt_add] at c1 c3 c6 ⊢) <;> omega)) | exact h1 (by first | omega | ((try simp only [fa_le, fa_lt, fa_eq, va_up] at c1 c3 c6 ⊢) <;> (try simp [-Int32.toInt_sub, -Int32.toInt_add, -Int32.toInt_mul, -Int32.toInt_neg, -Int64.toInt_sub, -Int64.toInt_add] at c1 c3 c6 ⊢) <;> omega)) | exact h2 (by first | omega | ((try simp only [fa_le, fa_lt, fa_eq, va_up] at c1 c3 c6 ⊢) <;> (try simp [-Int32.toInt_sub, -Int32.toInt_add, -Int32.toInt_mul, -Int32.toInt_neg, -Int64.toInt_sub, -Int64.toInt_add] at c1 c3 c6 ⊢) <;> omega)) | (exfalso; first | omega | ((try simp only [fa_le, fa_lt, fa_eq, va_up] at c1 c3 c6 ⊢) <;> (try simp [-Int32.toInt_sub, -Int32.toInt_add, -Int32.toInt_mul, -Int32.toInt_neg, -Int64.toInt_sub, -Int64.toInt_add] at c1 c3 c6 ⊢) <;> omega))
    · refine hX0 _ _ _ _ ?_
      refine And.intro (fun _ => ?_) (fun c => absurd c (by decide))
      iterate 3 refine hX0 _ _ _ _ ?_
      refine r_told ?_
      refine hX0 _ _ _ _ ?_
      first | exact h0 (by first | omega | ((try simp only [fa_le, fa_lt, fa_eq, va_up] at c1 c4 ⊢) <;> (try simp [-Int32.toInt_sub, -Int32.toInt_add, -Int32.toInt_mul, -Int32.toInt_neg, -Int64.toInt_sub, -Int64.toInt_add] at c1 c4 ⊢) <;> omega)) | exact h1 (by first | omega | ((try simp only [fa_le, fa_lt, fa_eq, va_up] at c1 c4 ⊢) <;> (try simp [-Int32.toInt_sub, -Int32.toInt_add, -Int32.toInt_mul, -Int32.toInt_neg, -Int64.toInt_sub, -Int64.toInt_add] at c1 c4 ⊢) <;> omega)) | exact h2 (by first | omega | ((try simp only [fa_le, fa_lt, fa_eq, va_up] at c1 c4 ⊢) <;> (try simp [-Int32.toInt_sub, -Int32.toInt_add, -Int32.toInt_mul, -Int32.toInt_neg, -Int64.toInt_sub, -Int64.toInt_add] at c1 c4 ⊢) <;> omega)) | (exfalso; first | omega | ((try simp only [fa_le, fa_lt, fa_eq, va_up] at c1 c4 ⊢) <;> (try simp [-Int32.toInt_sub, -Int32.toInt_add, -Int32.toInt_mul, -Int32.toInt_neg, -Int64.toInt_sub, -Int64.toInt_add] at c1 c4 ⊢) <;> omega))
  · refine hX0 _ _ _ _ ?_
    refine And.intro (fun _ => ?_) (fun c => absurd c (by decide))
    iterate 3 refine hX0 _ _ _ _ ?_
    refine r_told ?_
    refine hX0 _ _ _ _ ?_
    first | exact h0 (by first | omega | ((try simp only [fa_le, fa_lt, fa_eq, va_up] at c2 ⊢) <;> (try simp [-Int32.toInt_sub, -Int32.toInt_add, -Int32.toInt_mul, -Int32.toInt_neg, -Int64.toInt_sub, -Int64.toInt_add] at c2 ⊢) <;> omega)) | exact h1 (by first | omega | ((try simp only [fa_le, fa_lt, fa_eq, va_up] at c2 ⊢) <;> (try simp [-Int32.toInt_sub, -Int32.toInt_add, -Int32.toInt_mul, -Int32.toInt_neg, -Int64.toInt_sub, -Int64.toInt_add] at c2 ⊢) <;> omega)) | exact h2 (by first | omega | ((try simp only [fa_le, fa_lt, fa_eq, va_up] at c2 ⊢) <;> (try simp [-Int32.toInt_sub, -Int32.toInt_add, -Int32.toInt_mul, -Int32.toInt_neg, -Int64.toInt_sub, -Int64.toInt_add] at c2 ⊢) <;> omega)) | (exfalso; first | omega | ((try simp only [fa_le, fa_lt, fa_eq, va_up] at c2 ⊢) <;> (try simp [-Int32.toInt_sub, -Int32.toInt_add, -Int32.toInt_mul, -Int32.toInt_neg, -Int64.toInt_sub, -Int64.toInt_add] at c2 ⊢) <;> omega))
