/-! SIMPLE METHODS, station (x_) and reference (y_): what they answer and write -/

theorem x_setMill {d : Nat} {s : Nat → Int32} {a : Nat → Nat → Int32} {w : Bool} {Z : zH} {x y : Int32} {Q : zQ}  (h0 : (¬ (0 ≤ x.toInt ∧ x.toInt ≤ 60 ∧ 0 ≤ y.toInt ∧ y.toInt ≤ 1000)) → Q (some (.int (-1))) (HX s a w ++ Z)) (h1 : (0 ≤ x.toInt ∧ x.toInt ≤ 60 ∧ 0 ≤ y.toInt ∧ y.toInt ≤ 1000) → Q (some (.int (0))) (HX s (va_up a 4 (upd (a 4) x.toNatClampNeg y)) w ++ Z)) : zG (d + 2) 18 [.ref 3, .int x, .int y] (HX s a w ++ Z) Q := by
  refine g_18 (Nat.le_of_ble_eq_true rfl) ?_
  intro X0 hX0
  iterate 4 refine hX0 _ _ _ _ ?_
  refine r_within (0) (60) rfl rfl (fun c1 => ?_) (fun c2 => ?_)
  · refine hX0 _ _ _ _ ?_
    refine And.intro (fun c => absurd c (by decide)) (fun _ => ?_)
    iterate 4 refine hX0 _ _ _ _ ?_
    refine r_within (0) (1000) rfl rfl (fun c3 => ?_) (fun c4 => ?_)
    · refine hX0 _ _ _ _ ?_
      refine And.intro (fun _ => ?_) (fun c => absurd c (by decide))
      iterate 5 refine hX0 _ _ _ _ ?_
      refine And.intro (by rw [vp_in_iff]; omega) ?_
      show X0 _ _ _ (HX s (va_up a 4 _) w ++ Z)
      iterate 2 refine hX0 _ _ _ _ ?_
      first | exact h0 (by omega) | exact h1 (by omega)
    · refine hX0 _ _ _ _ ?_
      refine And.intro (fun c => absurd c (by decide)) (fun _ => ?_)
      iterate 2 refine hX0 _ _ _ _ ?_
      first | exact h0 (by omega) | exact h1 (by omega)
  · refine hX0 _ _ _ _ ?_
    refine And.intro (fun _ => ?_) (fun c => absurd c (by decide))
    iterate 2 refine hX0 _ _ _ _ ?_
    first | exact h0 (by omega) | exact h1 (by omega)

theorem x_mill {d : Nat} {s : Nat → Int32} {a : Nat → Nat → Int32} {w : Bool} {Z : zH} {x y : Int32} {Q : zQ}  (h0 : (¬ (0 ≤ x.toInt ∧ x.toInt ≤ 60 ∧ 0 ≤ y.toInt ∧ y.toInt ≤ 1000)) → Q (some (.int (-1))) (HX (va_up s 2 (-1)) a w ++ Z)) (h1 : (0 ≤ x.toInt ∧ x.toInt ≤ 60 ∧ 0 ≤ y.toInt ∧ y.toInt ≤ 1000) → Q (some (.int (0))) (HX (va_up s 2 (0)) (va_up a 4 (upd (a 4) x.toNatClampNeg y)) w ++ Z)) : zG (d + 3) 79 [.ref 0, .int x, .int y] (HX s a w ++ Z) Q := by
  refine g_79 (Nat.le_of_ble_eq_true rfl) ?_
  intro X0 hX0
  iterate 6 refine hX0 _ _ _ _ ?_
  refine x_setMill (fun c1 => ?_) (fun c2 => ?_)
  · refine hX0 _ _ _ _ ?_
    refine r_answered ?_
    refine hX0 _ _ _ _ ?_
    first | exact h0 (by omega) | exact h1 (by omega)
  · refine hX0 _ _ _ _ ?_
    refine r_answered ?_
    refine hX0 _ _ _ _ ?_
    first | exact h0 (by omega) | exact h1 (by omega)

theorem y_mill {d : Nat} {s : Nat → Int32} {a : Nat → Nat → Int32} {w : Bool} {t : Nat → Int32} {b : Nat → Nat → Int32} {u : Nat → Int64} {c : Nat → Nat → Int64} {x y : Int32} {Q : zQ}  (h0 : (¬ (0 ≤ x.toInt ∧ x.toInt ≤ 60 ∧ 0 ≤ y.toInt ∧ y.toInt ≤ 1000)) → Q (some (.int (-1))) (HX s a w ++ HM (va_up (va_up t 0 (0)) 1 (-1)) b u c)) (h1 : (0 ≤ x.toInt ∧ x.toInt ≤ 60 ∧ 0 ≤ y.toInt ∧ y.toInt ≤ 1000) → Q (some (.int (0))) (HX s a w ++ HM (va_up (va_up t 0 (0)) 1 (0)) (va_up b 12 (upd (b 12) x.toNatClampNeg y)) u c)) : zG (d + 2) 114 [.ref 56, .int x, .int y] (HX s a w ++ HM t b u c) Q := by
  refine g_114 (Nat.le_of_ble_eq_true rfl) ?_
  intro X0 hX0
  iterate 3 refine hX0 _ _ _ _ ?_
  show X0 _ _ _ (HX s a w ++ HM (va_up t 0 _) b u c)
  iterate 5 refine hX0 _ _ _ _ ?_
  refine r_in (0) (60) rfl rfl (fun c1 => ?_) (fun c2 => ?_)
  · refine hX0 _ _ _ _ ?_
    refine And.intro (fun c => absurd c (by decide)) (fun _ => ?_)
    iterate 5 refine hX0 _ _ _ _ ?_
    refine r_in (0) (1000) rfl rfl (fun c3 => ?_) (fun c4 => ?_)
    · refine hX0 _ _ _ _ ?_
      refine And.intro (fun _ => ?_) (fun c => absurd c (by decide))
      iterate 5 refine hX0 _ _ _ _ ?_
      refine And.intro (by rw [vp_in_iff]; omega) ?_
      show X0 _ _ _ (HX s a w ++ HM (va_up t 0 _) (va_up b 12 _) u c)
      iterate 3 refine hX0 _ _ _ _ ?_
      refine r_told ?_
      refine hX0 _ _ _ _ ?_
      first | exact h0 (by omega) | exact h1 (by omega)
    · refine hX0 _ _ _ _ ?_
      refine And.intro (fun c => absurd c (by decide)) (fun _ => ?_)
      iterate 3 refine hX0 _ _ _ _ ?_
      refine r_told ?_
      refine hX0 _ _ _ _ ?_
      first | exact h0 (by omega) | exact h1 (by omega)
  · refine hX0 _ _ _ _ ?_
    refine And.intro (fun _ => ?_) (fun c => absurd c (by decide))
    iterate 3 refine hX0 _ _ _ _ ?_
    refine r_told ?_
    refine hX0 _ _ _ _ ?_
    first | exact h0 (by omega) | exact h1 (by omega)

theorem x_setDemand {d : Nat} {s : Nat → Int32} {a : Nat → Nat → Int32} {w : Bool} {Z : zH} {x y : Int32} {Q : zQ}  (h0 : (¬ (0 ≤ x.toInt ∧ x.toInt ≤ 23 ∧ 0 ≤ y.toInt ∧ y.toInt ≤ 10000)) → Q (some (.int (-1))) (HX s a w ++ Z)) (h1 : (0 ≤ x.toInt ∧ x.toInt ≤ 23 ∧ 0 ≤ y.toInt ∧ y.toInt ≤ 10000) → Q (some (.int (0))) (HX s (va_up a 5 (upd (a 5) x.toNatClampNeg y)) w ++ Z)) : zG (d + 2) 19 [.ref 3, .int x, .int y] (HX s a w ++ Z) Q := by
  refine g_19 (Nat.le_of_ble_eq_true rfl) ?_
  intro X0 hX0
  iterate 4 refine hX0 _ _ _ _ ?_
  refine r_within (0) (23) rfl rfl (fun c1 => ?_) (fun c2 => ?_)
  · refine hX0 _ _ _ _ ?_
    refine And.intro (fun c => absurd c (by decide)) (fun _ => ?_)
    iterate 4 refine hX0 _ _ _ _ ?_
    refine r_within (0) (10000) rfl rfl (fun c3 => ?_) (fun c4 => ?_)
    · refine hX0 _ _ _ _ ?_
      refine And.intro (fun _ => ?_) (fun c => absurd c (by decide))
      iterate 5 refine hX0 _ _ _ _ ?_
      refine And.intro (by rw [vp_in_iff]; omega) ?_
      show X0 _ _ _ (HX s (va_up a 5 _) w ++ Z)
      iterate 2 refine hX0 _ _ _ _ ?_
      first | exact h0 (by omega) | exact h1 (by omega)
    · refine hX0 _ _ _ _ ?_
      refine And.intro (fun c => absurd c (by decide)) (fun _ => ?_)
      iterate 2 refine hX0 _ _ _ _ ?_
      first | exact h0 (by omega) | exact h1 (by omega)
  · refine hX0 _ _ _ _ ?_
    refine And.intro (fun _ => ?_) (fun c => absurd c (by decide))
    iterate 2 refine hX0 _ _ _ _ ?_
    first | exact h0 (by omega) | exact h1 (by omega)

theorem x_demand {d : Nat} {s : Nat → Int32} {a : Nat → Nat → Int32} {w : Bool} {Z : zH} {x y : Int32} {Q : zQ}  (h0 : (¬ (0 ≤ x.toInt ∧ x.toInt ≤ 23 ∧ 0 ≤ y.toInt ∧ y.toInt ≤ 10000)) → Q (some (.int (-1))) (HX (va_up s 2 (-1)) a w ++ Z)) (h1 : (0 ≤ x.toInt ∧ x.toInt ≤ 23 ∧ 0 ≤ y.toInt ∧ y.toInt ≤ 10000) → Q (some (.int (0))) (HX (va_up s 2 (0)) (va_up a 5 (upd (a 5) x.toNatClampNeg y)) w ++ Z)) : zG (d + 3) 80 [.ref 0, .int x, .int y] (HX s a w ++ Z) Q := by
  refine g_80 (Nat.le_of_ble_eq_true rfl) ?_
  intro X0 hX0
  iterate 6 refine hX0 _ _ _ _ ?_
  refine x_setDemand (fun c1 => ?_) (fun c2 => ?_)
  · refine hX0 _ _ _ _ ?_
    refine r_answered ?_
    refine hX0 _ _ _ _ ?_
    first | exact h0 (by omega) | exact h1 (by omega)
  · refine hX0 _ _ _ _ ?_
    refine r_answered ?_
    refine hX0 _ _ _ _ ?_
    first | exact h0 (by omega) | exact h1 (by omega)

theorem y_demand {d : Nat} {s : Nat → Int32} {a : Nat → Nat → Int32} {w : Bool} {t : Nat → Int32} {b : Nat → Nat → Int32} {u : Nat → Int64} {c : Nat → Nat → Int64} {x y : Int32} {Q : zQ}  (h0 : (¬ (0 ≤ x.toInt ∧ x.toInt ≤ 23 ∧ 0 ≤ y.toInt ∧ y.toInt ≤ 10000)) → Q (some (.int (-1))) (HX s a w ++ HM (va_up (va_up t 0 (0)) 1 (-1)) b u c)) (h1 : (0 ≤ x.toInt ∧ x.toInt ≤ 23 ∧ 0 ≤ y.toInt ∧ y.toInt ≤ 10000) → Q (some (.int (0))) (HX s a w ++ HM (va_up (va_up t 0 (0)) 1 (0)) (va_up b 13 (upd (b 13) x.toNatClampNeg y)) u c)) : zG (d + 2) 115 [.ref 56, .int x, .int y] (HX s a w ++ HM t b u c) Q := by
  refine g_115 (Nat.le_of_ble_eq_true rfl) ?_
  intro X0 hX0
  iterate 3 refine hX0 _ _ _ _ ?_
  show X0 _ _ _ (HX s a w ++ HM (va_up t 0 _) b u c)
  iterate 5 refine hX0 _ _ _ _ ?_
  refine r_in (0) (23) rfl rfl (fun c1 => ?_) (fun c2 => ?_)
  · refine hX0 _ _ _ _ ?_
    refine And.intro (fun c => absurd c (by decide)) (fun _ => ?_)
    iterate 5 refine hX0 _ _ _ _ ?_
    refine r_in (0) (10000) rfl rfl (fun c3 => ?_) (fun c4 => ?_)
    · refine hX0 _ _ _ _ ?_
      refine And.intro (fun _ => ?_) (fun c => absurd c (by decide))
      iterate 5 refine hX0 _ _ _ _ ?_
      refine And.intro (by rw [vp_in_iff]; omega) ?_
      show X0 _ _ _ (HX s a w ++ HM (va_up t 0 _) (va_up b 13 _) u c)
      iterate 3 refine hX0 _ _ _ _ ?_
      refine r_told ?_
      refine hX0 _ _ _ _ ?_
      first | exact h0 (by omega) | exact h1 (by omega)
    · refine hX0 _ _ _ _ ?_
      refine And.intro (fun c => absurd c (by decide)) (fun _ => ?_)
      iterate 3 refine hX0 _ _ _ _ ?_
      refine r_told ?_
      refine hX0 _ _ _ _ ?_
      first | exact h0 (by omega) | exact h1 (by omega)
  · refine hX0 _ _ _ _ ?_
    refine And.intro (fun _ => ?_) (fun c => absurd c (by decide))
    iterate 3 refine hX0 _ _ _ _ ?_
    refine r_told ?_
    refine hX0 _ _ _ _ ?_
    first | exact h0 (by omega) | exact h1 (by omega)

theorem x_status {d : Nat} {s : Nat → Int32} {a : Nat → Nat → Int32} {w : Bool} {Z : zH} {Q : zQ}  (h0 : Q (some (.int (s 2))) (HX s a w ++ Z)) : zG (d + 1) 104 [.ref 0] (HX s a w ++ Z) Q := by
  refine g_104 (Nat.le_of_ble_eq_true rfl) ?_
  intro X0 hX0
  iterate 3 refine hX0 _ _ _ _ ?_
  first | exact h0

theorem y_status {d : Nat} {s : Nat → Int32} {a : Nat → Nat → Int32} {w : Bool} {t : Nat → Int32} {b : Nat → Nat → Int32} {u : Nat → Int64} {c : Nat → Nat → Int64} {Q : zQ}  (h0 : Q (some (.int (t 1))) (HX s a w ++ HM (va_up t 0 (0)) b u c)) : zG (d + 1) 157 [.ref 56] (HX s a w ++ HM t b u c) Q := by
  refine g_157 (Nat.le_of_ble_eq_true rfl) ?_
  intro X0 hX0
  iterate 3 refine hX0 _ _ _ _ ?_
  show X0 _ _ _ (HX s a w ++ HM (va_up t 0 _) b u c)
  iterate 3 refine hX0 _ _ _ _ ?_
  first | exact h0

theorem x_fault {d : Nat} {s : Nat → Int32} {a : Nat → Nat → Int32} {w : Bool} {Z : zH} {Q : zQ}  (h0 : Q (some (.int (s 1))) (HX s a w ++ Z)) : zG (d + 1) 95 [.ref 0] (HX s a w ++ Z) Q := by
  refine g_95 (Nat.le_of_ble_eq_true rfl) ?_
  intro X0 hX0
  iterate 3 refine hX0 _ _ _ _ ?_
  first | exact h0

theorem y_fault {d : Nat} {s : Nat → Int32} {a : Nat → Nat → Int32} {w : Bool} {t : Nat → Int32} {b : Nat → Nat → Int32} {u : Nat → Int64} {c : Nat → Nat → Int64} {Q : zQ}  (h0 : Q (some (.int (t 19))) (HX s a w ++ HM (va_up t 0 (0)) b u c)) : zG (d + 1) 146 [.ref 56] (HX s a w ++ HM t b u c) Q := by
  refine g_146 (Nat.le_of_ble_eq_true rfl) ?_
  intro X0 hX0
  iterate 3 refine hX0 _ _ _ _ ?_
  show X0 _ _ _ (HX s a w ++ HM (va_up t 0 _) b u c)
  iterate 3 refine hX0 _ _ _ _ ?_
  first | exact h0

theorem x_addPerson {d : Nat} {s : Nat → Int32} {a : Nat → Nat → Int32} {w : Bool} {Z : zH} {x : Int32} {Q : zQ} (hp : 0 ≤ (s 9).toInt ∧ (s 9).toInt ≤ 14) (h0 : (¬ (0 ≤ x.toInt ∧ x.toInt ≤ 255)) → Q (some (.int (-1))) (HX s a w ++ Z)) (h1 : ((0 ≤ x.toInt ∧ x.toInt ≤ 255) ∧ 14 ≤ (s 9).toInt) → Q (some (.int (-5))) (HX s a w ++ Z)) (h2 : ((0 ≤ x.toInt ∧ x.toInt ≤ 255) ∧ (s 9).toInt < 14) → Q (some (.int (s 9 + 1 - 1))) (HX (va_up s 9 (s 9 + 1)) (va_up a 13 (upd (a 13) (s 9).toNatClampNeg x)) w ++ Z)) : zG (d + 2) 1 [.ref 17, .int x] (HX s a w ++ Z) Q := by
  refine g_1 (Nat.le_of_ble_eq_true rfl) ?_
  intro X0 hX0
  iterate 4 refine hX0 _ _ _ _ ?_
  refine r_within (0) (255) rfl rfl (fun c1 => ?_) (fun c2 => ?_)
  · refine hX0 _ _ _ _ ?_
    refine And.intro (fun _ => ?_) (fun c => absurd c (by decide))
    iterate 4 refine hX0 _ _ _ _ ?_
    refine And.intro (fun c3 => ?_) (fun c3 => ?_)
    · iterate 6 refine hX0 _ _ _ _ ?_
      refine And.intro (by first | (rw [vp_in_iff]; simp only [fa_le, fa_lt] at *; simp at *; omega)) ?_
      show X0 _ _ _ (HX s (va_up a 13 _) w ++ Z)
      iterate 6 refine hX0 _ _ _ _ ?_
      show X0 _ _ _ (HX (va_up s 9 _) (va_up a 13 _) w ++ Z)
      iterate 5 refine hX0 _ _ _ _ ?_
      first | exact h0 (by simp only [fa_le, fa_lt] at *; simp at *; omega) | exact h1 (by simp only [fa_le, fa_lt] at *; simp at *; omega) | exact h2 (by simp only [fa_le, fa_lt] at *; simp at *; omega)
    · iterate 2 refine hX0 _ _ _ _ ?_
      first | exact h0 (by simp only [fa_le, fa_lt] at *; simp at *; omega) | exact h1 (by simp only [fa_le, fa_lt] at *; simp at *; omega) | exact h2 (by simp only [fa_le, fa_lt] at *; simp at *; omega)
  · refine hX0 _ _ _ _ ?_
    refine And.intro (fun c => absurd c (by decide)) (fun _ => ?_)
    iterate 2 refine hX0 _ _ _ _ ?_
    first | exact h0 (by simp only [fa_le, fa_lt] at *; simp at *; omega) | exact h1 (by simp only [fa_le, fa_lt] at *; simp at *; omega) | exact h2 (by simp only [fa_le, fa_lt] at *; simp at *; omega)
