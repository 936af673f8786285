/-! MORE METHODS, station (x_) and reference (y_) -/

theorem x_end {d : Nat} {s : Nat → Int32} {a : Nat → Nat → Int32} {w : Bool} {Z : zH} {x : Int32} {Q : zQ}  (h0 : (¬ (0 ≤ x.toInt ∧ x.toInt ≤ (s 13).toInt)) → Q (some (.int (-1))) (HX s a w ++ Z)) (h1 : (0 ≤ x.toInt ∧ x.toInt ≤ (s 13).toInt) → Q (some (.int (x))) (HX (va_up s 13 (x)) a w ++ Z)) : zG (d + 2) 93 [.ref 0, .int x] (HX s a w ++ Z) Q := by
  refine g_93 (Nat.le_of_ble_eq_true rfl) ?_
  intro X0 hX0
  iterate 6 refine hX0 _ _ _ _ ?_
  refine r_within (0) _ rfl rfl (fun c1 => ?_) (fun c2 => ?_)
  · refine hX0 _ _ _ _ ?_
    refine And.intro (fun _ => ?_) (fun c => absurd c (by decide))
    iterate 4 refine hX0 _ _ _ _ ?_
    show X0 _ _ _ (HX (va_up s 13 _) a w ++ Z)
    iterate 2 refine hX0 _ _ _ _ ?_
    first | exact h0 (by (try simp only [fa_le, fa_lt, fa_eq, va_up] at *); (try simp at *); omega) | exact h1 (by (try simp only [fa_le, fa_lt, fa_eq, va_up] at *); (try simp at *); omega) | (exfalso; (try simp only [fa_le, fa_lt, fa_eq, va_up] at *); (try simp at *); omega)
  · refine hX0 _ _ _ _ ?_
    refine And.intro (fun c => absurd c (by decide)) (fun _ => ?_)
    iterate 2 refine hX0 _ _ _ _ ?_
    first | exact h0 (by (try simp only [fa_le, fa_lt, fa_eq, va_up] at *); (try simp at *); omega) | exact h1 (by (try simp only [fa_le, fa_lt, fa_eq, va_up] at *); (try simp at *); omega) | (exfalso; (try simp only [fa_le, fa_lt, fa_eq, va_up] at *); (try simp at *); omega)

theorem y_end {d : Nat} {s : Nat → Int32} {a : Nat → Nat → Int32} {w : Bool} {t : Nat → Int32} {b : Nat → Nat → Int32} {u : Nat → Int64} {c : Nat → Nat → Int64} {x : Int32} {Q : zQ}  (h0 : (¬ (0 ≤ x.toInt ∧ x.toInt ≤ (t 15).toInt)) → Q (some (.int (-1))) (HX s a w ++ HM (va_up t 0 (0)) b u c)) (h1 : (0 ≤ x.toInt ∧ x.toInt ≤ (t 15).toInt) → Q (some (.int (x))) (HX s a w ++ HM (va_up (va_up t 0 (0)) 15 (x)) b u c)) : zG (d + 1) 135 [.ref 56, .int x] (HX s a w ++ HM t b u c) Q := by
  refine g_135 (Nat.le_of_ble_eq_true rfl) ?_
  intro X0 hX0
  iterate 3 refine hX0 _ _ _ _ ?_
  show X0 _ _ _ (HX s a w ++ HM (va_up t 0 _) b u c)
  iterate 2 refine hX0 _ _ _ _ ?_
  refine And.intro (fun c1 => ?_) (fun c1 => ?_)
  · iterate 2 refine hX0 _ _ _ _ ?_
    first | exact h0 (by (try simp only [fa_le, fa_lt, fa_eq, va_up] at *); (try simp at *); omega) | exact h1 (by (try simp only [fa_le, fa_lt, fa_eq, va_up] at *); (try simp at *); omega) | (exfalso; (try simp only [fa_le, fa_lt, fa_eq, va_up] at *); (try simp at *); omega)
  · iterate 4 refine hX0 _ _ _ _ ?_
    refine And.intro (fun c2 => ?_) (fun c2 => ?_)
    · iterate 3 refine hX0 _ _ _ _ ?_
      show X0 _ _ _ (HX s a w ++ HM (va_up (va_up t 0 _) 15 _) b u c)
      iterate 2 refine hX0 _ _ _ _ ?_
      first | exact h0 (by (try simp only [fa_le, fa_lt, fa_eq, va_up] at *); (try simp at *); omega) | exact h1 (by (try simp only [fa_le, fa_lt, fa_eq, va_up] at *); (try simp at *); omega) | (exfalso; (try simp only [fa_le, fa_lt, fa_eq, va_up] at *); (try simp at *); omega)
    · iterate 2 refine hX0 _ _ _ _ ?_
      first | exact h0 (by (try simp only [fa_le, fa_lt, fa_eq, va_up] at *); (try simp at *); omega) | exact h1 (by (try simp only [fa_le, fa_lt, fa_eq, va_up] at *); (try simp at *); omega) | (exfalso; (try simp only [fa_le, fa_lt, fa_eq, va_up] at *); (try simp at *); omega)

theorem x_ofWork {d : Nat} {s : Nat → Int32} {a : Nat → Nat → Int32} {w : Bool} {Z : zH} {x y : Int32} {Q : zQ} (hp : 0 ≤ (s 12).toInt ∧ (s 12).toInt ≤ 30) (h0 : (¬ (0 ≤ x.toInt ∧ x.toInt < (s 12).toInt ∧ 0 ≤ y.toInt ∧ y.toInt ≤ 1)) → Q (some (.int (-1))) (HX s a w ++ Z)) (h1 : ((0 ≤ x.toInt ∧ x.toInt < (s 12).toInt) ∧ y.toInt = 0) → Q (some (.int (a 21 x.toNatClampNeg))) (HX s a w ++ Z)) (h2 : ((0 ≤ x.toInt ∧ x.toInt < (s 12).toInt) ∧ y.toInt = 1) → Q (some (.int (a 22 x.toNatClampNeg))) (HX s a w ++ Z)) : zG (d + 2) 16 [.ref 17, .int x, .int y] (HX s a w ++ Z) Q := by
  refine g_16 (Nat.le_of_ble_eq_true rfl) ?_
  intro X0 hX0
  have e1 : (s 12 - 1).toInt = (s 12).toInt - 1 := i32_sub (by simp; omega)
  iterate 7 refine hX0 _ _ _ _ ?_
  refine r_within (0) _ rfl rfl (fun c1 => ?_) (fun c2 => ?_)
  · refine hX0 _ _ _ _ ?_
    refine And.intro (fun c => absurd c (by decide)) (fun _ => ?_)
    iterate 4 refine hX0 _ _ _ _ ?_
    refine r_within (0) (1) rfl rfl (fun c3 => ?_) (fun c4 => ?_)
    · refine hX0 _ _ _ _ ?_
      refine And.intro (fun _ => ?_) (fun c => absurd c (by decide))
      iterate 2 refine hX0 _ _ _ _ ?_
      refine And.intro (fun c5 => ?_) (fun c5 => ?_)
      · iterate 4 refine hX0 _ _ _ _ ?_
        refine And.intro (by rw [vp_in_iff]; (try simp only [fa_le, fa_lt, fa_eq, va_up] at *); (try simp at *); omega) ?_
        refine hX0 _ _ _ _ ?_
        first | exact h0 (by (try simp only [fa_le, fa_lt, fa_eq, va_up] at *); (try simp at *); omega) | exact h1 (by (try simp only [fa_le, fa_lt, fa_eq, va_up] at *); (try simp at *); omega) | exact h2 (by (try simp only [fa_le, fa_lt, fa_eq, va_up] at *); (try simp at *); omega) | (exfalso; (try simp only [fa_le, fa_lt, fa_eq, va_up] at *); (try simp at *); omega)
      · iterate 4 refine hX0 _ _ _ _ ?_
        refine And.intro (by rw [vp_in_iff]; (try simp only [fa_le, fa_lt, fa_eq, va_up] at *); (try simp at *); omega) ?_
        iterate 2 refine hX0 _ _ _ _ ?_
        first | exact h0 (by (try simp only [fa_le, fa_lt, fa_eq, va_up] at *); (try simp at *); omega) | exact h1 (by (try simp only [fa_le, fa_lt, fa_eq, va_up] at *); (try simp at *); omega) | exact h2 (by (try simp only [fa_le, fa_lt, fa_eq, va_up] at *); (try simp at *); omega) | (exfalso; (try simp only [fa_le, fa_lt, fa_eq, va_up] at *); (try simp at *); omega)
    · refine hX0 _ _ _ _ ?_
      refine And.intro (fun c => absurd c (by decide)) (fun _ => ?_)
      iterate 2 refine hX0 _ _ _ _ ?_
      first | exact h0 (by (try simp only [fa_le, fa_lt, fa_eq, va_up] at *); (try simp at *); omega) | exact h1 (by (try simp only [fa_le, fa_lt, fa_eq, va_up] at *); (try simp at *); omega) | exact h2 (by (try simp only [fa_le, fa_lt, fa_eq, va_up] at *); (try simp at *); omega) | (exfalso; (try simp only [fa_le, fa_lt, fa_eq, va_up] at *); (try simp at *); omega)
  · refine hX0 _ _ _ _ ?_
    refine And.intro (fun _ => ?_) (fun c => absurd c (by decide))
    iterate 2 refine hX0 _ _ _ _ ?_
    first | exact h0 (by (try simp only [fa_le, fa_lt, fa_eq, va_up] at *); (try simp at *); omega) | exact h1 (by (try simp only [fa_le, fa_lt, fa_eq, va_up] at *); (try simp at *); omega) | exact h2 (by (try simp only [fa_le, fa_lt, fa_eq, va_up] at *); (try simp at *); omega) | (exfalso; (try simp only [fa_le, fa_lt, fa_eq, va_up] at *); (try simp at *); omega)

theorem x_begins {d : Nat} {s : Nat → Int32} {a : Nat → Nat → Int32} {w : Bool} {Z : zH} {x y : Int32} {Q : zQ} (hp : 0 ≤ (s 12).toInt ∧ (s 12).toInt ≤ 30) (h0 : (¬ (0 ≤ x.toInt ∧ x.toInt < (s 12).toInt ∧ 0 ≤ y.toInt ∧ y.toInt ≤ 1)) → Q (some (.int (-1))) (HX s a w ++ Z)) (h1 : ((0 ≤ x.toInt ∧ x.toInt < (s 12).toInt) ∧ y.toInt = 0) → Q (some (.int (a 21 x.toNatClampNeg))) (HX s a w ++ Z)) (h2 : ((0 ≤ x.toInt ∧ x.toInt < (s 12).toInt) ∧ y.toInt = 1) → Q (some (.int (a 22 x.toNatClampNeg))) (HX s a w ++ Z)) : zG (d + 3) 91 [.ref 0, .int x, .int y] (HX s a w ++ Z) Q := by
  refine g_91 (Nat.le_of_ble_eq_true rfl) ?_
  intro X0 hX0
  iterate 5 refine hX0 _ _ _ _ ?_
  refine x_ofWork hp (fun c1 => ?_) (fun c2 => ?_) (fun c3 => ?_)
  · refine hX0 _ _ _ _ ?_
    first | exact h0 (by (try simp only [fa_le, fa_lt, fa_eq, va_up] at *); (try simp at *); omega) | exact h1 (by (try simp only [fa_le, fa_lt, fa_eq, va_up] at *); (try simp at *); omega) | exact h2 (by (try simp only [fa_le, fa_lt, fa_eq, va_up] at *); (try simp at *); omega) | (exfalso; (try simp only [fa_le, fa_lt, fa_eq, va_up] at *); (try simp at *); omega)
  · refine hX0 _ _ _ _ ?_
    first | exact h0 (by (try simp only [fa_le, fa_lt, fa_eq, va_up] at *); (try simp at *); omega) | exact h1 (by (try simp only [fa_le, fa_lt, fa_eq, va_up] at *); (try simp at *); omega) | exact h2 (by (try simp only [fa_le, fa_lt, fa_eq, va_up] at *); (try simp at *); omega) | (exfalso; (try simp only [fa_le, fa_lt, fa_eq, va_up] at *); (try simp at *); omega)
  · refine hX0 _ _ _ _ ?_
    first | exact h0 (by (try simp only [fa_le, fa_lt, fa_eq, va_up] at *); (try simp at *); omega) | exact h1 (by (try simp only [fa_le, fa_lt, fa_eq, va_up] at *); (try simp at *); omega) | exact h2 (by (try simp only [fa_le, fa_lt, fa_eq, va_up] at *); (try simp at *); omega) | (exfalso; (try simp only [fa_le, fa_lt, fa_eq, va_up] at *); (try simp at *); omega)

theorem y_begins {d : Nat} {s : Nat → Int32} {a : Nat → Nat → Int32} {w : Bool} {t : Nat → Int32} {b : Nat → Nat → Int32} {u : Nat → Int64} {c : Nat → Nat → Int64} {x y : Int32} {Q : zQ} (hp : 0 ≤ (t 14).toInt ∧ (t 14).toInt ≤ 30) (h0 : (¬ (0 ≤ x.toInt ∧ x.toInt < (t 14).toInt ∧ 0 ≤ y.toInt ∧ y.toInt ≤ 1)) → Q (some (.int (-1))) (HX s a w ++ HM (va_up t 0 (0)) b u c)) (h1 : ((0 ≤ x.toInt ∧ x.toInt < (t 14).toInt) ∧ y.toInt = 0) → Q (some (.int (b 27 x.toNatClampNeg))) (HX s a w ++ HM (va_up t 0 (0)) b u c)) (h2 : ((0 ≤ x.toInt ∧ x.toInt < (t 14).toInt) ∧ y.toInt = 1) → Q (some (.int (b 28 x.toNatClampNeg))) (HX s a w ++ HM (va_up t 0 (0)) b u c)) : zG (d + 2) 132 [.ref 56, .int x, .int y] (HX s a w ++ HM t b u c) Q := by
  refine g_132 (Nat.le_of_ble_eq_true rfl) ?_
  intro X0 hX0
  have e1 := i64_m1 (t 14)
  iterate 3 refine hX0 _ _ _ _ ?_
  show X0 _ _ _ (HX s a w ++ HM (va_up t 0 _) b u c)
  iterate 9 refine hX0 _ _ _ _ ?_
  refine r_in (0) _ rfl rfl (fun c1 => ?_) (fun c2 => ?_)
  · refine hX0 _ _ _ _ ?_
    refine And.intro (fun _ => ?_) (fun c => absurd c (by decide))
    iterate 2 refine hX0 _ _ _ _ ?_
    refine And.intro (fun c3 => ?_) (fun c3 => ?_)
    · iterate 3 refine hX0 _ _ _ _ ?_
      refine And.intro (fun c4 => ?_) (fun c4 => ?_)
      · iterate 2 refine hX0 _ _ _ _ ?_
        first | exact h0 (by (try simp only [fa_le, fa_lt, fa_eq, va_up] at *); (try simp at *); omega) | exact h1 (by (try simp only [fa_le, fa_lt, fa_eq, va_up] at *); (try simp at *); omega) | exact h2 (by (try simp only [fa_le, fa_lt, fa_eq, va_up] at *); (try simp at *); omega) | (exfalso; (try simp only [fa_le, fa_lt, fa_eq, va_up] at *); (try simp at *); omega)
      · iterate 4 refine hX0 _ _ _ _ ?_
        refine And.intro (by rw [vp_in_iff]; (try simp only [fa_le, fa_lt, fa_eq, va_up] at *); (try simp at *); omega) ?_
        iterate 2 refine hX0 _ _ _ _ ?_
        first | exact h0 (by (try simp only [fa_le, fa_lt, fa_eq, va_up] at *); (try simp at *); omega) | exact h1 (by (try simp only [fa_le, fa_lt, fa_eq, va_up] at *); (try simp at *); omega) | exact h2 (by (try simp only [fa_le, fa_lt, fa_eq, va_up] at *); (try simp at *); omega) | (exfalso; (try simp only [fa_le, fa_lt, fa_eq, va_up] at *); (try simp at *); omega)
    · iterate 4 refine hX0 _ _ _ _ ?_
      refine And.intro (by rw [vp_in_iff]; (try simp only [fa_le, fa_lt, fa_eq, va_up] at *); (try simp at *); omega) ?_
      iterate 2 refine hX0 _ _ _ _ ?_
      first | exact h0 (by (try simp only [fa_le, fa_lt, fa_eq, va_up] at *); (try simp at *); omega) | exact h1 (by (try simp only [fa_le, fa_lt, fa_eq, va_up] at *); (try simp at *); omega) | exact h2 (by (try simp only [fa_le, fa_lt, fa_eq, va_up] at *); (try simp at *); omega) | (exfalso; (try simp only [fa_le, fa_lt, fa_eq, va_up] at *); (try simp at *); omega)
  · refine hX0 _ _ _ _ ?_
    refine And.intro (fun c => absurd c (by decide)) (fun _ => ?_)
    iterate 3 refine hX0 _ _ _ _ ?_
    first | exact h0 (by (try simp only [fa_le, fa_lt, fa_eq, va_up] at *); (try simp at *); omega) | exact h1 (by (try simp only [fa_le, fa_lt, fa_eq, va_up] at *); (try simp at *); omega) | exact h2 (by (try simp only [fa_le, fa_lt, fa_eq, va_up] at *); (try simp at *); omega) | (exfalso; (try simp only [fa_le, fa_lt, fa_eq, va_up] at *); (try simp at *); omega)

theorem x_addSpell {d : Nat} {s : Nat → Int32} {a : Nat → Nat → Int32} {w : Bool} {Z : zH} {x y z : Int32} {Q : zQ} (hp : 0 ≤ (s 9).toInt ∧ (s 9).toInt ≤ 14) (hs : 0 ≤ (s 10).toInt ∧ (s 10).toInt ≤ 30) (h0 : (¬ (0 ≤ y.toInt ∧ y.toInt ≤ z.toInt ∧ z.toInt ≤ 2399)) → Q (some (.int (-1))) (HX s a w ++ Z)) (h1 : ((0 ≤ y.toInt ∧ y.toInt ≤ z.toInt ∧ z.toInt ≤ 2399) ∧ ¬ (0 ≤ x.toInt ∧ x.toInt < (s 9).toInt)) → Q (some (.int (-2))) (HX s a w ++ Z)) (h2 : (((0 ≤ y.toInt ∧ y.toInt ≤ z.toInt ∧ z.toInt ≤ 2399) ∧ 0 ≤ x.toInt ∧ x.toInt < (s 9).toInt) ∧ 30 ≤ (s 10).toInt) → Q (some (.int (-5))) (HX s a w ++ Z)) (h3 : (((0 ≤ y.toInt ∧ y.toInt ≤ z.toInt ∧ z.toInt ≤ 2399) ∧ 0 ≤ x.toInt ∧ x.toInt < (s 9).toInt) ∧ (s 10).toInt < 30) → Q (some (.int (s 10 + 1))) (HX (va_up s 10 (s 10 + 1)) (va_up (va_up (va_up a 14 (upd (a 14) (s 10).toNatClampNeg x)) 15 (upd (a 15) (s 10).toNatClampNeg y)) 16 (upd (a 16) (s 10).toNatClampNeg z)) w ++ Z)) : zG (d + 4) 4 [.ref 17, .int x, .int y, .int z] (HX s a w ++ Z) Q := by
  refine g_4 (Nat.le_of_ble_eq_true rfl) ?_
  intro X0 hX0
  have e1 : (s 9 - 1).toInt = (s 9).toInt - 1 := i32_sub (by simp; omega)
  iterate 3 refine hX0 _ _ _ _ ?_
  refine r_isSpan (fun c1 => ?_) (fun c2 => ?_)
  · refine hX0 _ _ _ _ ?_
    refine And.intro (fun _ => ?_) (fun c => absurd c (by decide))
    iterate 7 refine hX0 _ _ _ _ ?_
    refine r_within (0) _ rfl rfl (fun c3 => ?_) (fun c4 => ?_)
    · refine hX0 _ _ _ _ ?_
      refine And.intro (fun _ => ?_) (fun c => absurd c (by decide))
      iterate 4 refine hX0 _ _ _ _ ?_
      refine And.intro (fun c5 => ?_) (fun c5 => ?_)
      · iterate 6 refine hX0 _ _ _ _ ?_
        refine And.intro (by rw [vp_in_iff]; (try simp only [fa_le, fa_lt, fa_eq, va_up] at *); (try simp at *); omega) ?_
        show X0 _ _ _ (HX s (va_up a 14 _) w ++ Z)
        iterate 6 refine hX0 _ _ _ _ ?_
        refine And.intro (by rw [vp_in_iff]; (try simp only [fa_le, fa_lt, fa_eq, va_up] at *); (try simp at *); omega) ?_
        show X0 _ _ _ (HX s (va_up (va_up a 14 _) 15 _) w ++ Z)
        iterate 6 refine hX0 _ _ _ _ ?_
        refine And.intro (by rw [vp_in_iff]; (try simp only [fa_le, fa_lt, fa_eq, va_up] at *); (try simp at *); omega) ?_
        show X0 _ _ _ (HX s (va_up (va_up (va_up a 14 _) 15 _) 16 _) w ++ Z)
        iterate 6 refine hX0 _ _ _ _ ?_
        show X0 _ _ _ (HX (va_up s 10 _) (va_up (va_up (va_up a 14 _) 15 _) 16 _) w ++ Z)
        iterate 3 refine hX0 _ _ _ _ ?_
        first | exact h0 (by (try simp only [fa_le, fa_lt, fa_eq, va_up] at *); (try simp at *); omega) | exact h1 (by (try simp only [fa_le, fa_lt, fa_eq, va_up] at *); (try simp at *); omega) | exact h2 (by (try simp only [fa_le, fa_lt, fa_eq, va_up] at *); (try simp at *); omega) | exact h3 (by (try simp only [fa_le, fa_lt, fa_eq, va_up] at *); (try simp at *); omega) | (exfalso; (try simp only [fa_le, fa_lt, fa_eq, va_up] at *); (try simp at *); omega)
      · iterate 2 refine hX0 _ _ _ _ ?_
        first | exact h0 (by (try simp only [fa_le, fa_lt, fa_eq, va_up] at *); (try simp at *); omega) | exact h1 (by (try simp only [fa_le, fa_lt, fa_eq, va_up] at *); (try simp at *); omega) | exact h2 (by (try simp only [fa_le, fa_lt, fa_eq, va_up] at *); (try simp at *); omega) | exact h3 (by (try simp only [fa_le, fa_lt, fa_eq, va_up] at *); (try simp at *); omega) | (exfalso; (try simp only [fa_le, fa_lt, fa_eq, va_up] at *); (try simp at *); omega)
    · refine hX0 _ _ _ _ ?_
      refine And.intro (fun c => absurd c (by decide)) (fun _ => ?_)
      iterate 2 refine hX0 _ _ _ _ ?_
      first | exact h0 (by (try simp only [fa_le, fa_lt, fa_eq, va_up] at *); (try simp at *); omega) | exact h1 (by (try simp only [fa_le, fa_lt, fa_eq, va_up] at *); (try simp at *); omega) | exact h2 (by (try simp only [fa_le, fa_lt, fa_eq, va_up] at *); (try simp at *); omega) | exact h3 (by (try simp only [fa_le, fa_lt, fa_eq, va_up] at *); (try simp at *); omega) | (exfalso; (try simp only [fa_le, fa_lt, fa_eq, va_up] at *); (try simp at *); omega)
  · refine hX0 _ _ _ _ ?_
    refine And.intro (fun c => absurd c (by decide)) (fun _ => ?_)
    iterate 2 refine hX0 _ _ _ _ ?_
    first | exact h0 (by (try simp only [fa_le, fa_lt, fa_eq, va_up] at *); (try simp at *); omega) | exact h1 (by (try simp only [fa_le, fa_lt, fa_eq, va_up] at *); (try simp at *); omega) | exact h2 (by (try simp only [fa_le, fa_lt, fa_eq, va_up] at *); (try simp at *); omega) | exact h3 (by (try simp only [fa_le, fa_lt, fa_eq, va_up] at *); (try simp at *); omega) | (exfalso; (try simp only [fa_le, fa_lt, fa_eq, va_up] at *); (try simp at *); omega)

theorem x_ill {d : Nat} {s : Nat → Int32} {a : Nat → Nat → Int32} {w : Bool} {Z : zH} {x y z : Int32} {Q : zQ} (hp : 0 ≤ (s 9).toInt ∧ (s 9).toInt ≤ 14) (hs : 0 ≤ (s 10).toInt ∧ (s 10).toInt ≤ 30) (h0 : (¬ (0 ≤ y.toInt ∧ y.toInt ≤ z.toInt ∧ z.toInt ≤ 2399)) → Q (some (.int (-1))) (HX (va_up s 2 (-1)) a w ++ Z)) (h1 : ((0 ≤ y.toInt ∧ y.toInt ≤ z.toInt ∧ z.toInt ≤ 2399) ∧ ¬ (0 ≤ x.toInt ∧ x.toInt < (s 9).toInt)) → Q (some (.int (-2))) (HX (va_up s 2 (-2)) a w ++ Z)) (h2 : (((0 ≤ y.toInt ∧ y.toInt ≤ z.toInt ∧ z.toInt ≤ 2399) ∧ 0 ≤ x.toInt ∧ x.toInt < (s 9).toInt) ∧ 30 ≤ (s 10).toInt) → Q (some (.int (-5))) (HX (va_up s 2 (-5)) a w ++ Z)) (h3 : (((0 ≤ y.toInt ∧ y.toInt ≤ z.toInt ∧ z.toInt ≤ 2399) ∧ 0 ≤ x.toInt ∧ x.toInt < (s 9).toInt) ∧ (s 10).toInt < 30) → Q (some (.int (s 10 + 1))) (HX (va_up (va_up s 10 (s 10 + 1)) 2 (zcode (s 10 + 1))) (va_up (va_up (va_up a 14 (upd (a 14) (s 10).toNatClampNeg x)) 15 (upd (a 15) (s 10).toNatClampNeg y)) 16 (upd (a 16) (s 10).toNatClampNeg z)) w ++ Z)) : zG (d + 5) 88 [.ref 0, .int x, .int y, .int z] (HX s a w ++ Z) Q := by
  refine g_88 (Nat.le_of_ble_eq_true rfl) ?_
  intro X0 hX0
  iterate 7 refine hX0 _ _ _ _ ?_
  refine x_addSpell hp hs (fun c1 => ?_) (fun c2 => ?_) (fun c3 => ?_) (fun c4 => ?_)
  · refine hX0 _ _ _ _ ?_
    refine r_answered ?_
    refine hX0 _ _ _ _ ?_
    first | exact h0 (by (try simp only [fa_le, fa_lt, fa_eq, va_up] at *); (try simp at *); omega) | exact h1 (by (try simp only [fa_le, fa_lt, fa_eq, va_up] at *); (try simp at *); omega) | exact h2 (by (try simp only [fa_le, fa_lt, fa_eq, va_up] at *); (try simp at *); omega) | exact h3 (by (try simp only [fa_le, fa_lt, fa_eq, va_up] at *); (try simp at *); omega) | (exfalso; (try simp only [fa_le, fa_lt, fa_eq, va_up] at *); (try simp at *); omega)
  · refine hX0 _ _ _ _ ?_
    refine r_answered ?_
    refine hX0 _ _ _ _ ?_
    first | exact h0 (by (try simp only [fa_le, fa_lt, fa_eq, va_up] at *); (try simp at *); omega) | exact h1 (by (try simp only [fa_le, fa_lt, fa_eq, va_up] at *); (try simp at *); omega) | exact h2 (by (try simp only [fa_le, fa_lt, fa_eq, va_up] at *); (try simp at *); omega) | exact h3 (by (try simp only [fa_le, fa_lt, fa_eq, va_up] at *); (try simp at *); omega) | (exfalso; (try simp only [fa_le, fa_lt, fa_eq, va_up] at *); (try simp at *); omega)
  · refine hX0 _ _ _ _ ?_
    refine r_answered ?_
    refine hX0 _ _ _ _ ?_
    first | exact h0 (by (try simp only [fa_le, fa_lt, fa_eq, va_up] at *); (try simp at *); omega) | exact h1 (by (try simp only [fa_le, fa_lt, fa_eq, va_up] at *); (try simp at *); omega) | exact h2 (by (try simp only [fa_le, fa_lt, fa_eq, va_up] at *); (try simp at *); omega) | exact h3 (by (try simp only [fa_le, fa_lt, fa_eq, va_up] at *); (try simp at *); omega) | (exfalso; (try simp only [fa_le, fa_lt, fa_eq, va_up] at *); (try simp at *); omega)
  · refine hX0 _ _ _ _ ?_
    refine r_answered ?_
    refine hX0 _ _ _ _ ?_
    first | exact h0 (by (try simp only [fa_le, fa_lt, fa_eq, va_up] at *); (try simp at *); omega) | exact h1 (by (try simp only [fa_le, fa_lt, fa_eq, va_up] at *); (try simp at *); omega) | exact h2 (by (try simp only [fa_le, fa_lt, fa_eq, va_up] at *); (try simp at *); omega) | exact h3 (by (try simp only [fa_le, fa_lt, fa_eq, va_up] at *); (try simp at *); omega) | (exfalso; (try simp only [fa_le, fa_lt, fa_eq, va_up] at *); (try simp at *); omega)

theorem y_ill {d : Nat} {s : Nat → Int32} {a : Nat → Nat → Int32} {w : Bool} {t : Nat → Int32} {b : Nat → Nat → Int32} {u : Nat → Int64} {c : Nat → Nat → Int64} {x y z : Int32} {Q : zQ} (hp : 0 ≤ (t 11).toInt ∧ (t 11).toInt ≤ 14) (hs : 0 ≤ (t 12).toInt ∧ (t 12).toInt ≤ 30) (h0 : (¬ (0 ≤ y.toInt ∧ y.toInt ≤ z.toInt ∧ z.toInt ≤ 2399)) → Q (some (.int (-1))) (HX s a w ++ HM (va_up (va_up t 0 (0)) 1 (-1)) b u c)) (h1 : ((0 ≤ y.toInt ∧ y.toInt ≤ z.toInt ∧ z.toInt ≤ 2399) ∧ ¬ (0 ≤ x.toInt ∧ x.toInt < (t 11).toInt)) → Q (some (.int (-2))) (HX s a w ++ HM (va_up (va_up t 0 (0)) 1 (-2)) b u c)) (h2 : (((0 ≤ y.toInt ∧ y.toInt ≤ z.toInt ∧ z.toInt ≤ 2399) ∧ 0 ≤ x.toInt ∧ x.toInt < (t 11).toInt) ∧ 30 = (t 12).toInt) → Q (some (.int (-5))) (HX s a w ++ HM (va_up (va_up t 0 (0)) 1 (-5)) b u c)) (h3 : (((0 ≤ y.toInt ∧ y.toInt ≤ z.toInt ∧ z.toInt ≤ 2399) ∧ 0 ≤ x.toInt ∧ x.toInt < (t 11).toInt) ∧ (t 12).toInt < 30) → Q (some (.int (t 12 + 1))) (HX s a w ++ HM (va_up (va_up (va_up t 0 (0)) 12 (t 12 + 1)) 1 (zcode (t 12 + 1))) (va_up (va_up (va_up b 20 (upd (b 20) (t 12).toNatClampNeg x)) 21 (upd (b 21) (t 12).toNatClampNeg y)) 22 (upd (b 22) (t 12).toNatClampNeg z)) u c)) : zG (d + 3) 127 [.ref 56, .int x, .int y, .int z] (HX s a w ++ HM t b u c) Q := by
  refine g_127 (Nat.le_of_ble_eq_true rfl) ?_
  intro X0 hX0
  have e1 := i64_m1 (t 11)
  iterate 3 refine hX0 _ _ _ _ ?_
  show X0 _ _ _ (HX s a w ++ HM (va_up t 0 _) b u c)
  iterate 2 refine hX0 _ _ _ _ ?_
  refine r_isHourM (fun c1 => ?_) (fun c2 => ?_)
  · refine hX0 _ _ _ _ ?_
    refine And.intro (fun c => absurd c (by decide)) (fun _ => ?_)
    iterate 2 refine hX0 _ _ _ _ ?_
    refine r_isHourM (fun c3 => ?_) (fun c4 => ?_)
    · refine hX0 _ _ _ _ ?_
      refine And.intro (fun c => absurd c (by decide)) (fun _ => ?_)
      iterate 3 refine hX0 _ _ _ _ ?_
      refine And.intro (fun c5 => ?_) (fun c5 => ?_)
      · iterate 9 refine hX0 _ _ _ _ ?_
        refine r_in (0) _ rfl rfl (fun c6 => ?_) (fun c7 => ?_)
        · refine hX0 _ _ _ _ ?_
          refine And.intro (fun _ => ?_) (fun c => absurd c (by decide))
          iterate 4 refine hX0 _ _ _ _ ?_
          refine And.intro (fun c8 => ?_) (fun c8 => ?_)
          · iterate 6 refine hX0 _ _ _ _ ?_
            refine And.intro (by rw [vp_in_iff]; (try simp only [fa_le, fa_lt, fa_eq, va_up] at *); (try simp at *); omega) ?_
            show X0 _ _ _ (HX s a w ++ HM (va_up t 0 _) (va_up b 20 _) u c)
            iterate 6 refine hX0 _ _ _ _ ?_
            refine And.intro (by rw [vp_in_iff]; (try simp only [fa_le, fa_lt, fa_eq, va_up] at *); (try simp at *); omega) ?_
            show X0 _ _ _ (HX s a w ++ HM (va_up t 0 _) (va_up (va_up b 20 _) 21 _) u c)
            iterate 6 refine hX0 _ _ _ _ ?_
            refine And.intro (by rw [vp_in_iff]; (try simp only [fa_le, fa_lt, fa_eq, va_up] at *); (try simp at *); omega) ?_
            show X0 _ _ _ (HX s a w ++ HM (va_up t 0 _) (va_up (va_up (va_up b 20 _) 21 _) 22 _) u c)
            iterate 6 refine hX0 _ _ _ _ ?_
            show X0 _ _ _ (HX s a w ++ HM (va_up (va_up t 0 _) 12 _) (va_up (va_up (va_up b 20 _) 21 _) 22 _) u c)
            iterate 4 refine hX0 _ _ _ _ ?_
            refine r_told ?_
            refine hX0 _ _ _ _ ?_
            first | exact h0 (by (try simp only [fa_le, fa_lt, fa_eq, va_up] at *); (try simp at *); omega) | exact h1 (by (try simp only [fa_le, fa_lt, fa_eq, va_up] at *); (try simp at *); omega) | exact h2 (by (try simp only [fa_le, fa_lt, fa_eq, va_up] at *); (try simp at *); omega) | exact h3 (by (try simp only [fa_le, fa_lt, fa_eq, va_up] at *); (try simp at *); omega) | (exfalso; (try simp only [fa_le, fa_lt, fa_eq, va_up] at *); (try simp at *); omega)
          · iterate 3 refine hX0 _ _ _ _ ?_
            refine r_told ?_
            refine hX0 _ _ _ _ ?_
            first | exact h0 (by (try simp only [fa_le, fa_lt, fa_eq, va_up] at *); (try simp at *); omega) | exact h1 (by (try simp only [fa_le, fa_lt, fa_eq, va_up] at *); (try simp at *); omega) | exact h2 (by (try simp only [fa_le, fa_lt, fa_eq, va_up] at *); (try simp at *); omega) | exact h3 (by (try simp only [fa_le, fa_lt, fa_eq, va_up] at *); (try simp at *); omega) | (exfalso; (try simp only [fa_le, fa_lt, fa_eq, va_up] at *); (try simp at *); omega)
        · refine hX0 _ _ _ _ ?_
          refine And.intro (fun c => absurd c (by decide)) (fun _ => ?_)
          iterate 3 refine hX0 _ _ _ _ ?_
          refine r_told ?_
          refine hX0 _ _ _ _ ?_
          first | exact h0 (by (try simp only [fa_le, fa_lt, fa_eq, va_up] at *); (try simp at *); omega) | exact h1 (by (try simp only [fa_le, fa_lt, fa_eq, va_up] at *); (try simp at *); omega) | exact h2 (by (try simp only [fa_le, fa_lt, fa_eq, va_up] at *); (try simp at *); omega) | exact h3 (by (try simp only [fa_le, fa_lt, fa_eq, va_up] at *); (try simp at *); omega) | (exfalso; (try simp only [fa_le, fa_lt, fa_eq, va_up] at *); (try simp at *); omega)
      · iterate 3 refine hX0 _ _ _ _ ?_
        refine r_told ?_
        refine hX0 _ _ _ _ ?_
        first | exact h0 (by (try simp only [fa_le, fa_lt, fa_eq, va_up] at *); (try simp at *); omega) | exact h1 (by (try simp only [fa_le, fa_lt, fa_eq, va_up] at *); (try simp at *); omega) | exact h2 (by (try simp only [fa_le, fa_lt, fa_eq, va_up] at *); (try simp at *); omega) | exact h3 (by (try simp only [fa_le, fa_lt, fa_eq, va_up] at *); (try simp at *); omega) | (exfalso; (try simp only [fa_le, fa_lt, fa_eq, va_up] at *); (try simp at *); omega)
    · refine hX0 _ _ _ _ ?_
      refine And.intro (fun _ => ?_) (fun c => absurd c (by decide))
      iterate 3 refine hX0 _ _ _ _ ?_
      refine r_told ?_
      refine hX0 _ _ _ _ ?_
      first | exact h0 (by (try simp only [fa_le, fa_lt, fa_eq, va_up] at *); (try simp at *); omega) | exact h1 (by (try simp only [fa_le, fa_lt, fa_eq, va_up] at *); (try simp at *); omega) | exact h2 (by (try simp only [fa_le, fa_lt, fa_eq, va_up] at *); (try simp at *); omega) | exact h3 (by (try simp only [fa_le, fa_lt, fa_eq, va_up] at *); (try simp at *); omega) | (exfalso; (try simp only [fa_le, fa_lt, fa_eq, va_up] at *); (try simp at *); omega)
  · refine hX0 _ _ _ _ ?_
    refine And.intro (fun _ => ?_) (fun c => absurd c (by decide))
    iterate 3 refine hX0 _ _ _ _ ?_
    refine r_told ?_
    refine hX0 _ _ _ _ ?_
    first | exact h0 (by (try simp only [fa_le, fa_lt, fa_eq, va_up] at *); (try simp at *); omega) | exact h1 (by (try simp only [fa_le, fa_lt, fa_eq, va_up] at *); (try simp at *); omega) | exact h2 (by (try simp only [fa_le, fa_lt, fa_eq, va_up] at *); (try simp at *); omega) | exact h3 (by (try simp only [fa_le, fa_lt, fa_eq, va_up] at *); (try simp at *); omega) | (exfalso; (try simp only [fa_le, fa_lt, fa_eq, va_up] at *); (try simp at *); omega)

theorem x_isMessage {d : Nat} {s : Nat → Int32} {a : Nat → Nat → Int32} {w : Bool} {Z : zH} {x : Int32} {Q : zQ} (hp : 0 ≤ (s 20).toInt ∧ (s 20).toInt ≤ 100) (h0 : (0 ≤ x.toInt ∧ x.toInt < (s 20).toInt) → Q (some (.int (1))) (HX s a w ++ Z)) (h1 : (¬ (0 ≤ x.toInt ∧ x.toInt < (s 20).toInt)) → Q (some (.int (0))) (HX s a w ++ Z)) : zG (d + 2) 39 [.ref 33, .int x] (HX s a w ++ Z) Q := by
  refine g_39 (Nat.le_of_ble_eq_true rfl) ?_
  intro X0 hX0
  have e1 : (s 20 - 1).toInt = (s 20).toInt - 1 := i32_sub (by simp; omega)
  iterate 7 refine hX0 _ _ _ _ ?_
  refine r_within (0) _ rfl rfl (fun c1 => ?_) (fun c2 => ?_)
  · refine hX0 _ _ _ _ ?_
    refine And.intro (by first | exact Or.inl rfl | exact Or.inr rfl | rw [vp_in_iff]; (try simp only [fa_le, fa_lt, fa_eq, va_up] at *); (try simp at *); omega) ?_
    first | exact h0 (by (try simp only [fa_le, fa_lt, fa_eq, va_up] at *); (try simp at *); omega) | exact h1 (by (try simp only [fa_le, fa_lt, fa_eq, va_up] at *); (try simp at *); omega) | (exfalso; (try simp only [fa_le, fa_lt, fa_eq, va_up] at *); (try simp at *); omega)
  · refine hX0 _ _ _ _ ?_
    refine And.intro (by first | exact Or.inl rfl | exact Or.inr rfl | rw [vp_in_iff]; (try simp only [fa_le, fa_lt, fa_eq, va_up] at *); (try simp at *); omega) ?_
    first | exact h0 (by (try simp only [fa_le, fa_lt, fa_eq, va_up] at *); (try simp at *); omega) | exact h1 (by (try simp only [fa_le, fa_lt, fa_eq, va_up] at *); (try simp at *); omega) | (exfalso; (try simp only [fa_le, fa_lt, fa_eq, va_up] at *); (try simp at *); omega)

theorem x_ofMessage {d : Nat} {s : Nat → Int32} {a : Nat → Nat → Int32} {w : Bool} {Z : zH} {x y : Int32} {Q : zQ} (hp : 0 ≤ (s 20).toInt ∧ (s 20).toInt ≤ 100) (h0 : (¬ (0 ≤ x.toInt ∧ x.toInt < (s 20).toInt ∧ 0 ≤ y.toInt ∧ y.toInt ≤ 2)) → Q (some (.int (-1))) (HX s a w ++ Z)) (h1 : ((0 ≤ x.toInt ∧ x.toInt < (s 20).toInt) ∧ y.toInt = 0) → Q (some (.int (a 28 x.toNatClampNeg))) (HX s a w ++ Z)) (h2 : ((0 ≤ x.toInt ∧ x.toInt < (s 20).toInt) ∧ y.toInt = 1) → Q (some (.int (a 29 x.toNatClampNeg))) (HX s a w ++ Z)) (h3 : ((0 ≤ x.toInt ∧ x.toInt < (s 20).toInt) ∧ y.toInt = 2) → Q (some (.int (a 30 x.toNatClampNeg))) (HX s a w ++ Z)) : zG (d + 3) 40 [.ref 33, .int x, .int y] (HX s a w ++ Z) Q := by
  refine g_40 (Nat.le_of_ble_eq_true rfl) ?_
  intro X0 hX0
  iterate 3 refine hX0 _ _ _ _ ?_
  refine x_isMessage hp (fun c1 => ?_) (fun c2 => ?_)
  · refine hX0 _ _ _ _ ?_
    refine And.intro (fun _ => ?_) (fun c => absurd c (by decide))
    iterate 2 refine hX0 _ _ _ _ ?_
    refine And.intro (fun c3 => ?_) (And.intro (fun c3 => ?_) (And.intro (fun c3 => ?_) (And.intro (fun c3 => ?_) trivial)))
    · iterate 2 refine hX0 _ _ _ _ ?_
      first | exact h0 (by (try simp only [fa_le, fa_lt, fa_eq, va_up] at *); (try simp at *); omega) | exact h1 (by (try simp only [fa_le, fa_lt, fa_eq, va_up] at *); (try simp at *); omega) | exact h2 (by (try simp only [fa_le, fa_lt, fa_eq, va_up] at *); (try simp at *); omega) | exact h3 (by (try simp only [fa_le, fa_lt, fa_eq, va_up] at *); (try simp at *); omega) | (exfalso; (try simp only [fa_le, fa_lt, fa_eq, va_up] at *); (try simp at *); omega)
    · iterate 4 refine hX0 _ _ _ _ ?_
      refine And.intro (by rw [vp_in_iff]; (try simp only [fa_le, fa_lt, fa_eq, va_up] at *); (try simp at *); omega) ?_
      refine hX0 _ _ _ _ ?_
      first | exact h0 (by (try simp only [fa_le, fa_lt, fa_eq, va_up] at *); (try simp at *); omega) | exact h1 (by (try simp only [fa_le, fa_lt, fa_eq, va_up] at *); (try simp at *); omega) | exact h2 (by (try simp only [fa_le, fa_lt, fa_eq, va_up] at *); (try simp at *); omega) | exact h3 (by (try simp only [fa_le, fa_lt, fa_eq, va_up] at *); (try simp at *); omega) | (exfalso; (try simp only [fa_le, fa_lt, fa_eq, va_up] at *); (try simp at *); omega)
    · iterate 4 refine hX0 _ _ _ _ ?_
      refine And.intro (by rw [vp_in_iff]; (try simp only [fa_le, fa_lt, fa_eq, va_up] at *); (try simp at *); omega) ?_
      refine hX0 _ _ _ _ ?_
      first | exact h0 (by (try simp only [fa_le, fa_lt, fa_eq, va_up] at *); (try simp at *); omega) | exact h1 (by (try simp only [fa_le, fa_lt, fa_eq, va_up] at *); (try simp at *); omega) | exact h2 (by (try simp only [fa_le, fa_lt, fa_eq, va_up] at *); (try simp at *); omega) | exact h3 (by (try simp only [fa_le, fa_lt, fa_eq, va_up] at *); (try simp at *); omega) | (exfalso; (try simp only [fa_le, fa_lt, fa_eq, va_up] at *); (try simp at *); omega)
    · iterate 4 refine hX0 _ _ _ _ ?_
      refine And.intro (by rw [vp_in_iff]; (try simp only [fa_le, fa_lt, fa_eq, va_up] at *); (try simp at *); omega) ?_
      refine hX0 _ _ _ _ ?_
      first | exact h0 (by (try simp only [fa_le, fa_lt, fa_eq, va_up] at *); (try simp at *); omega) | exact h1 (by (try simp only [fa_le, fa_lt, fa_eq, va_up] at *); (try simp at *); omega) | exact h2 (by (try simp only [fa_le, fa_lt, fa_eq, va_up] at *); (try simp at *); omega) | exact h3 (by (try simp only [fa_le, fa_lt, fa_eq, va_up] at *); (try simp at *); omega) | (exfalso; (try simp only [fa_le, fa_lt, fa_eq, va_up] at *); (try simp at *); omega)
  · refine hX0 _ _ _ _ ?_
    refine And.intro (fun c => absurd c (by decide)) (fun _ => ?_)
    iterate 2 refine hX0 _ _ _ _ ?_
    first | exact h0 (by (try simp only [fa_le, fa_lt, fa_eq, va_up] at *); (try simp at *); omega) | exact h1 (by (try simp only [fa_le, fa_lt, fa_eq, va_up] at *); (try simp at *); omega) | exact h2 (by (try simp only [fa_le, fa_lt, fa_eq, va_up] at *); (try simp at *); omega) | exact h3 (by (try simp only [fa_le, fa_lt, fa_eq, va_up] at *); (try simp at *); omega) | (exfalso; (try simp only [fa_le, fa_lt, fa_eq, va_up] at *); (try simp at *); omega)

theorem x_sent {d : Nat} {s : Nat → Int32} {a : Nat → Nat → Int32} {w : Bool} {Z : zH} {x y : Int32} {Q : zQ} (hp : 0 ≤ (s 20).toInt ∧ (s 20).toInt ≤ 100) (h0 : (¬ (0 ≤ x.toInt ∧ x.toInt < (s 20).toInt ∧ 0 ≤ y.toInt ∧ y.toInt ≤ 2)) → Q (some (.int (-1))) (HX s a w ++ Z)) (h1 : ((0 ≤ x.toInt ∧ x.toInt < (s 20).toInt) ∧ y.toInt = 0) → Q (some (.int (a 28 x.toNatClampNeg))) (HX s a w ++ Z)) (h2 : ((0 ≤ x.toInt ∧ x.toInt < (s 20).toInt) ∧ y.toInt = 1) → Q (some (.int (a 29 x.toNatClampNeg))) (HX s a w ++ Z)) (h3 : ((0 ≤ x.toInt ∧ x.toInt < (s 20).toInt) ∧ y.toInt = 2) → Q (some (.int (a 30 x.toNatClampNeg))) (HX s a w ++ Z)) : zG (d + 4) 100 [.ref 0, .int x, .int y] (HX s a w ++ Z) Q := by
  refine g_100 (Nat.le_of_ble_eq_true rfl) ?_
  intro X0 hX0
  iterate 5 refine hX0 _ _ _ _ ?_
  refine x_ofMessage hp (fun c1 => ?_) (fun c2 => ?_) (fun c3 => ?_) (fun c4 => ?_)
  · refine hX0 _ _ _ _ ?_
    first | exact h0 (by (try simp only [fa_le, fa_lt, fa_eq, va_up] at *); (try simp at *); omega) | exact h1 (by (try simp only [fa_le, fa_lt, fa_eq, va_up] at *); (try simp at *); omega) | exact h2 (by (try simp only [fa_le, fa_lt, fa_eq, va_up] at *); (try simp at *); omega) | exact h3 (by (try simp only [fa_le, fa_lt, fa_eq, va_up] at *); (try simp at *); omega) | (exfalso; (try simp only [fa_le, fa_lt, fa_eq, va_up] at *); (try simp at *); omega)
  · refine hX0 _ _ _ _ ?_
    first | exact h0 (by (try simp only [fa_le, fa_lt, fa_eq, va_up] at *); (try simp at *); omega) | exact h1 (by (try simp only [fa_le, fa_lt, fa_eq, va_up] at *); (try simp at *); omega) | exact h2 (by (try simp only [fa_le, fa_lt, fa_eq, va_up] at *); (try simp at *); omega) | exact h3 (by (try simp only [fa_le, fa_lt, fa_eq, va_up] at *); (try simp at *); omega) | (exfalso; (try simp only [fa_le, fa_lt, fa_eq, va_up] at *); (try simp at *); omega)
  · refine hX0 _ _ _ _ ?_
    first | exact h0 (by (try simp only [fa_le, fa_lt, fa_eq, va_up] at *); (try simp at *); omega) | exact h1 (by (try simp only [fa_le, fa_lt, fa_eq, va_up] at *); (try simp at *); omega) | exact h2 (by (try simp only [fa_le, fa_lt, fa_eq, va_up] at *); (try simp at *); omega) | exact h3 (by (try simp only [fa_le, fa_lt, fa_eq, va_up] at *); (try simp at *); omega) | (exfalso; (try simp only [fa_le, fa_lt, fa_eq, va_up] at *); (try simp at *); omega)
  · refine hX0 _ _ _ _ ?_
    first | exact h0 (by (try simp only [fa_le, fa_lt, fa_eq, va_up] at *); (try simp at *); omega) | exact h1 (by (try simp only [fa_le, fa_lt, fa_eq, va_up] at *); (try simp at *); omega) | exact h2 (by (try simp only [fa_le, fa_lt, fa_eq, va_up] at *); (try simp at *); omega) | exact h3 (by (try simp only [fa_le, fa_lt, fa_eq, va_up] at *); (try simp at *); omega) | (exfalso; (try simp only [fa_le, fa_lt, fa_eq, va_up] at *); (try simp at *); omega)

theorem y_sent {d : Nat} {s : Nat → Int32} {a : Nat → Nat → Int32} {w : Bool} {t : Nat → Int32} {b : Nat → Nat → Int32} {u : Nat → Int64} {c : Nat → Nat → Int64} {x y : Int32} {Q : zQ} (hp : 0 ≤ (t 29).toInt ∧ (t 29).toInt ≤ 100) (h0 : (¬ (0 ≤ x.toInt ∧ x.toInt < (t 29).toInt ∧ 0 ≤ y.toInt ∧ y.toInt ≤ 2)) → Q (some (.int (-1))) (HX s a w ++ HM (va_up t 0 (0)) b u c)) (h1 : ((0 ≤ x.toInt ∧ x.toInt < (t 29).toInt) ∧ y.toInt = 0) → Q (some (.int (b 38 x.toNatClampNeg))) (HX s a w ++ HM (va_up t 0 (0)) b u c)) (h2 : ((0 ≤ x.toInt ∧ x.toInt < (t 29).toInt) ∧ y.toInt = 1) → Q (some (.int (b 39 x.toNatClampNeg))) (HX s a w ++ HM (va_up t 0 (0)) b u c)) (h3 : ((0 ≤ x.toInt ∧ x.toInt < (t 29).toInt) ∧ y.toInt = 2) → Q (some (.int (b 40 x.toNatClampNeg))) (HX s a w ++ HM (va_up t 0 (0)) b u c)) : zG (d + 2) 153 [.ref 56, .int x, .int y] (HX s a w ++ HM t b u c) Q := by
  refine g_153 (Nat.le_of_ble_eq_true rfl) ?_
  intro X0 hX0
  have e1 := i64_m1 (t 29)
  iterate 3 refine hX0 _ _ _ _ ?_
  show X0 _ _ _ (HX s a w ++ HM (va_up t 0 _) b u c)
  iterate 9 refine hX0 _ _ _ _ ?_
  refine r_in (0) _ rfl rfl (fun c1 => ?_) (fun c2 => ?_)
  · refine hX0 _ _ _ _ ?_
    refine And.intro (fun _ => ?_) (fun c => absurd c (by decide))
    iterate 2 refine hX0 _ _ _ _ ?_
    refine And.intro (fun c3 => ?_) (fun c3 => ?_)
    · iterate 3 refine hX0 _ _ _ _ ?_
      refine And.intro (fun c4 => ?_) (fun c4 => ?_)
      · iterate 3 refine hX0 _ _ _ _ ?_
        refine And.intro (fun c5 => ?_) (fun c5 => ?_)
        · iterate 2 refine hX0 _ _ _ _ ?_
          first | exact h0 (by (try simp only [fa_le, fa_lt, fa_eq, va_up] at *); (try simp at *); omega) | exact h1 (by (try simp only [fa_le, fa_lt, fa_eq, va_up] at *); (try simp at *); omega) | exact h2 (by (try simp only [fa_le, fa_lt, fa_eq, va_up] at *); (try simp at *); omega) | exact h3 (by (try simp only [fa_le, fa_lt, fa_eq, va_up] at *); (try simp at *); omega) | (exfalso; (try simp only [fa_le, fa_lt, fa_eq, va_up] at *); (try simp at *); omega)
        · iterate 4 refine hX0 _ _ _ _ ?_
          refine And.intro (by rw [vp_in_iff]; (try simp only [fa_le, fa_lt, fa_eq, va_up] at *); (try simp at *); omega) ?_
          iterate 2 refine hX0 _ _ _ _ ?_
          first | exact h0 (by (try simp only [fa_le, fa_lt, fa_eq, va_up] at *); (try simp at *); omega) | exact h1 (by (try simp only [fa_le, fa_lt, fa_eq, va_up] at *); (try simp at *); omega) | exact h2 (by (try simp only [fa_le, fa_lt, fa_eq, va_up] at *); (try simp at *); omega) | exact h3 (by (try simp only [fa_le, fa_lt, fa_eq, va_up] at *); (try simp at *); omega) | (exfalso; (try simp only [fa_le, fa_lt, fa_eq, va_up] at *); (try simp at *); omega)
      · iterate 4 refine hX0 _ _ _ _ ?_
        refine And.intro (by rw [vp_in_iff]; (try simp only [fa_le, fa_lt, fa_eq, va_up] at *); (try simp at *); omega) ?_
        iterate 2 refine hX0 _ _ _ _ ?_
        first | exact h0 (by (try simp only [fa_le, fa_lt, fa_eq, va_up] at *); (try simp at *); omega) | exact h1 (by (try simp only [fa_le, fa_lt, fa_eq, va_up] at *); (try simp at *); omega) | exact h2 (by (try simp only [fa_le, fa_lt, fa_eq, va_up] at *); (try simp at *); omega) | exact h3 (by (try simp only [fa_le, fa_lt, fa_eq, va_up] at *); (try simp at *); omega) | (exfalso; (try simp only [fa_le, fa_lt, fa_eq, va_up] at *); (try simp at *); omega)
    · iterate 4 refine hX0 _ _ _ _ ?_
      refine And.intro (by rw [vp_in_iff]; (try simp only [fa_le, fa_lt, fa_eq, va_up] at *); (try simp at *); omega) ?_
      iterate 2 refine hX0 _ _ _ _ ?_
      first | exact h0 (by (try simp only [fa_le, fa_lt, fa_eq, va_up] at *); (try simp at *); omega) | exact h1 (by (try simp only [fa_le, fa_lt, fa_eq, va_up] at *); (try simp at *); omega) | exact h2 (by (try simp only [fa_le, fa_lt, fa_eq, va_up] at *); (try simp at *); omega) | exact h3 (by (try simp only [fa_le, fa_lt, fa_eq, va_up] at *); (try simp at *); omega) | (exfalso; (try simp only [fa_le, fa_lt, fa_eq, va_up] at *); (try simp at *); omega)
  · refine hX0 _ _ _ _ ?_
    refine And.intro (fun c => absurd c (by decide)) (fun _ => ?_)
    iterate 2 refine hX0 _ _ _ _ ?_
    first | exact h0 (by (try simp only [fa_le, fa_lt, fa_eq, va_up] at *); (try simp at *); omega) | exact h1 (by (try simp only [fa_le, fa_lt, fa_eq, va_up] at *); (try simp at *); omega) | exact h2 (by (try simp only [fa_le, fa_lt, fa_eq, va_up] at *); (try simp at *); omega) | exact h3 (by (try simp only [fa_le, fa_lt, fa_eq, va_up] at *); (try simp at *); omega) | (exfalso; (try simp only [fa_le, fa_lt, fa_eq, va_up] at *); (try simp at *); omega)

theorem x_ofPlan {d : Nat} {s : Nat → Int32} {a : Nat → Nat → Int32} {w : Bool} {Z : zH} {x y : Int32} {Q : zQ} (hp : 0 ≤ (s 3).toInt ∧ (s 3).toInt ≤ 100) (h0 : (¬ (0 < (s 3).toInt ∧ 0 ≤ y.toInt ∧ y.toInt ≤ 1 ∧ -1 ≤ x.toInt ∧ x.toInt < (s 3).toInt)) → Q (some (.int (-1))) (HX s a w ++ Z)) (h1 : ((0 < (s 3).toInt ∧ 0 ≤ y.toInt ∧ y.toInt ≤ 1 ∧ -1 ≤ x.toInt ∧ x.toInt < (s 3).toInt) ∧ x.toInt = -1 ∧ y.toInt = 0) → Q (some (.int (s 3))) (HX s a w ++ Z)) (h2 : ((0 < (s 3).toInt ∧ 0 ≤ y.toInt ∧ y.toInt ≤ 1 ∧ -1 ≤ x.toInt ∧ x.toInt < (s 3).toInt) ∧ x.toInt = -1 ∧ y.toInt = 1) → Q (some (.int (s 4))) (HX s a w ++ Z)) (h3 : ((0 < (s 3).toInt ∧ 0 ≤ y.toInt ∧ y.toInt ≤ 1 ∧ -1 ≤ x.toInt ∧ x.toInt < (s 3).toInt) ∧ 0 ≤ x.toInt ∧ y.toInt = 0) → Q (some (.int (a 9 x.toNatClampNeg))) (HX s a w ++ Z)) (h4 : ((0 < (s 3).toInt ∧ 0 ≤ y.toInt ∧ y.toInt ≤ 1 ∧ -1 ≤ x.toInt ∧ x.toInt < (s 3).toInt) ∧ 0 ≤ x.toInt ∧ y.toInt = 1) → Q (some (.int (a 10 x.toNatClampNeg))) (HX s a w ++ Z)) : zG (d + 2) 32 [.ref 3, .int x, .int y] (HX s a w ++ Z) Q := by
  refine g_32 (Nat.le_of_ble_eq_true rfl) ?_
  intro X0 hX0
  have e1 : (s 3 - 1).toInt = (s 3).toInt - 1 := i32_sub (by simp; omega)
  iterate 4 refine hX0 _ _ _ _ ?_
  refine r_within (0) (1) rfl rfl (fun c1 => ?_) (fun c2 => ?_)
  · refine hX0 _ _ _ _ ?_
    refine And.intro (fun c => absurd c (by decide)) (fun _ => ?_)
    iterate 7 refine hX0 _ _ _ _ ?_
    refine r_within (-1) _ rfl rfl (fun c3 => ?_) (fun c4 => ?_)
    · refine hX0 _ _ _ _ ?_
      refine And.intro (fun c => absurd c (by decide)) (fun _ => ?_)
      iterate 3 refine hX0 _ _ _ _ ?_
      refine And.intro (fun c5 => ?_) (fun c5 => ?_)
      · iterate 3 refine hX0 _ _ _ _ ?_
        refine And.intro (fun c6 => ?_) (fun c6 => ?_)
        · iterate 2 refine hX0 _ _ _ _ ?_
          refine And.intro (fun c7 => ?_) (fun c7 => ?_)
          · iterate 4 refine hX0 _ _ _ _ ?_
            refine And.intro (by rw [vp_in_iff]; (try simp only [fa_le, fa_lt, fa_eq, va_up] at *); (try simp at *); omega) ?_
            refine hX0 _ _ _ _ ?_
            first | exact h0 (by (try simp only [fa_le, fa_lt, fa_eq, va_up] at *); (try simp at *); omega) | exact h1 (by (try simp only [fa_le, fa_lt, fa_eq, va_up] at *); (try simp at *); omega) | exact h2 (by (try simp only [fa_le, fa_lt, fa_eq, va_up] at *); (try simp at *); omega) | exact h3 (by (try simp only [fa_le, fa_lt, fa_eq, va_up] at *); (try simp at *); omega) | exact h4 (by (try simp only [fa_le, fa_lt, fa_eq, va_up] at *); (try simp at *); omega) | (exfalso; (try simp only [fa_le, fa_lt, fa_eq, va_up] at *); (try simp at *); omega)
          · iterate 4 refine hX0 _ _ _ _ ?_
            refine And.intro (by rw [vp_in_iff]; (try simp only [fa_le, fa_lt, fa_eq, va_up] at *); (try simp at *); omega) ?_
            iterate 2 refine hX0 _ _ _ _ ?_
            first | exact h0 (by (try simp only [fa_le, fa_lt, fa_eq, va_up] at *); (try simp at *); omega) | exact h1 (by (try simp only [fa_le, fa_lt, fa_eq, va_up] at *); (try simp at *); omega) | exact h2 (by (try simp only [fa_le, fa_lt, fa_eq, va_up] at *); (try simp at *); omega) | exact h3 (by (try simp only [fa_le, fa_lt, fa_eq, va_up] at *); (try simp at *); omega) | exact h4 (by (try simp only [fa_le, fa_lt, fa_eq, va_up] at *); (try simp at *); omega) | (exfalso; (try simp only [fa_le, fa_lt, fa_eq, va_up] at *); (try simp at *); omega)
        · iterate 2 refine hX0 _ _ _ _ ?_
          refine And.intro (fun c8 => ?_) (fun c8 => ?_)
          · iterate 3 refine hX0 _ _ _ _ ?_
            first | exact h0 (by (try simp only [fa_le, fa_lt, fa_eq, va_up] at *); (try simp at *); omega) | exact h1 (by (try simp only [fa_le, fa_lt, fa_eq, va_up] at *); (try simp at *); omega) | exact h2 (by (try simp only [fa_le, fa_lt, fa_eq, va_up] at *); (try simp at *); omega) | exact h3 (by (try simp only [fa_le, fa_lt, fa_eq, va_up] at *); (try simp at *); omega) | exact h4 (by (try simp only [fa_le, fa_lt, fa_eq, va_up] at *); (try simp at *); omega) | (exfalso; (try simp only [fa_le, fa_lt, fa_eq, va_up] at *); (try simp at *); omega)
          · iterate 4 refine hX0 _ _ _ _ ?_
            first | exact h0 (by (try simp only [fa_le, fa_lt, fa_eq, va_up] at *); (try simp at *); omega) | exact h1 (by (try simp only [fa_le, fa_lt, fa_eq, va_up] at *); (try simp at *); omega) | exact h2 (by (try simp only [fa_le, fa_lt, fa_eq, va_up] at *); (try simp at *); omega) | exact h3 (by (try simp only [fa_le, fa_lt, fa_eq, va_up] at *); (try simp at *); omega) | exact h4 (by (try simp only [fa_le, fa_lt, fa_eq, va_up] at *); (try simp at *); omega) | (exfalso; (try simp only [fa_le, fa_lt, fa_eq, va_up] at *); (try simp at *); omega)
      · iterate 2 refine hX0 _ _ _ _ ?_
        first | exact h0 (by (try simp only [fa_le, fa_lt, fa_eq, va_up] at *); (try simp at *); omega) | exact h1 (by (try simp only [fa_le, fa_lt, fa_eq, va_up] at *); (try simp at *); omega) | exact h2 (by (try simp only [fa_le, fa_lt, fa_eq, va_up] at *); (try simp at *); omega) | exact h3 (by (try simp only [fa_le, fa_lt, fa_eq, va_up] at *); (try simp at *); omega) | exact h4 (by (try simp only [fa_le, fa_lt, fa_eq, va_up] at *); (try simp at *); omega) | (exfalso; (try simp only [fa_le, fa_lt, fa_eq, va_up] at *); (try simp at *); omega)
    · refine hX0 _ _ _ _ ?_
      refine And.intro (fun _ => ?_) (fun c => absurd c (by decide))
      iterate 2 refine hX0 _ _ _ _ ?_
      first | exact h0 (by (try simp only [fa_le, fa_lt, fa_eq, va_up] at *); (try simp at *); omega) | exact h1 (by (try simp only [fa_le, fa_lt, fa_eq, va_up] at *); (try simp at *); omega) | exact h2 (by (try simp only [fa_le, fa_lt, fa_eq, va_up] at *); (try simp at *); omega) | exact h3 (by (try simp only [fa_le, fa_lt, fa_eq, va_up] at *); (try simp at *); omega) | exact h4 (by (try simp only [fa_le, fa_lt, fa_eq, va_up] at *); (try simp at *); omega) | (exfalso; (try simp only [fa_le, fa_lt, fa_eq, va_up] at *); (try simp at *); omega)
  · refine hX0 _ _ _ _ ?_
    refine And.intro (fun _ => ?_) (fun c => absurd c (by decide))
    iterate 2 refine hX0 _ _ _ _ ?_
    first | exact h0 (by (try simp only [fa_le, fa_lt, fa_eq, va_up] at *); (try simp at *); omega) | exact h1 (by (try simp only [fa_le, fa_lt, fa_eq, va_up] at *); (try simp at *); omega) | exact h2 (by (try simp only [fa_le, fa_lt, fa_eq, va_up] at *); (try simp at *); omega) | exact h3 (by (try simp only [fa_le, fa_lt, fa_eq, va_up] at *); (try simp at *); omega) | exact h4 (by (try simp only [fa_le, fa_lt, fa_eq, va_up] at *); (try simp at *); omega) | (exfalso; (try simp only [fa_le, fa_lt, fa_eq, va_up] at *); (try simp at *); omega)

theorem x_planned {d : Nat} {s : Nat → Int32} {a : Nat → Nat → Int32} {w : Bool} {Z : zH} {x y : Int32} {Q : zQ} (hp : 0 ≤ (s 3).toInt ∧ (s 3).toInt ≤ 100) (h0 : (¬ (0 < (s 3).toInt ∧ 0 ≤ y.toInt ∧ y.toInt ≤ 1 ∧ -1 ≤ x.toInt ∧ x.toInt < (s 3).toInt)) → Q (some (.int (-1))) (HX s a w ++ Z)) (h1 : ((0 < (s 3).toInt ∧ 0 ≤ y.toInt ∧ y.toInt ≤ 1 ∧ -1 ≤ x.toInt ∧ x.toInt < (s 3).toInt) ∧ x.toInt = -1 ∧ y.toInt = 0) → Q (some (.int (s 3))) (HX s a w ++ Z)) (h2 : ((0 < (s 3).toInt ∧ 0 ≤ y.toInt ∧ y.toInt ≤ 1 ∧ -1 ≤ x.toInt ∧ x.toInt < (s 3).toInt) ∧ x.toInt = -1 ∧ y.toInt = 1) → Q (some (.int (s 4))) (HX s a w ++ Z)) (h3 : ((0 < (s 3).toInt ∧ 0 ≤ y.toInt ∧ y.toInt ≤ 1 ∧ -1 ≤ x.toInt ∧ x.toInt < (s 3).toInt) ∧ 0 ≤ x.toInt ∧ y.toInt = 0) → Q (some (.int (a 9 x.toNatClampNeg))) (HX s a w ++ Z)) (h4 : ((0 < (s 3).toInt ∧ 0 ≤ y.toInt ∧ y.toInt ≤ 1 ∧ -1 ≤ x.toInt ∧ x.toInt < (s 3).toInt) ∧ 0 ≤ x.toInt ∧ y.toInt = 1) → Q (some (.int (a 10 x.toNatClampNeg))) (HX s a w ++ Z)) : zG (d + 3) 83 [.ref 0, .int x, .int y] (HX s a w ++ Z) Q := by
  refine g_83 (Nat.le_of_ble_eq_true rfl) ?_
  intro X0 hX0
  iterate 5 refine hX0 _ _ _ _ ?_
  refine x_ofPlan hp (fun c1 => ?_) (fun c2 => ?_) (fun c3 => ?_) (fun c4 => ?_) (fun c5 => ?_)
  · refine hX0 _ _ _ _ ?_
    first | exact h0 (by (try simp only [fa_le, fa_lt, fa_eq, va_up] at *); (try simp at *); omega) | exact h1 (by (try simp only [fa_le, fa_lt, fa_eq, va_up] at *); (try simp at *); omega) | exact h2 (by (try simp only [fa_le, fa_lt, fa_eq, va_up] at *); (try simp at *); omega) | exact h3 (by (try simp only [fa_le, fa_lt, fa_eq, va_up] at *); (try simp at *); omega) | exact h4 (by (try simp only [fa_le, fa_lt, fa_eq, va_up] at *); (try simp at *); omega) | (exfalso; (try simp only [fa_le, fa_lt, fa_eq, va_up] at *); (try simp at *); omega)
  · refine hX0 _ _ _ _ ?_
    first | exact h0 (by (try simp only [fa_le, fa_lt, fa_eq, va_up] at *); (try simp at *); omega) | exact h1 (by (try simp only [fa_le, fa_lt, fa_eq, va_up] at *); (try simp at *); omega) | exact h2 (by (try simp only [fa_le, fa_lt, fa_eq, va_up] at *); (try simp at *); omega) | exact h3 (by (try simp only [fa_le, fa_lt, fa_eq, va_up] at *); (try simp at *); omega) | exact h4 (by (try simp only [fa_le, fa_lt, fa_eq, va_up] at *); (try simp at *); omega) | (exfalso; (try simp only [fa_le, fa_lt, fa_eq, va_up] at *); (try simp at *); omega)
  · refine hX0 _ _ _ _ ?_
    first | exact h0 (by (try simp only [fa_le, fa_lt, fa_eq, va_up] at *); (try simp at *); omega) | exact h1 (by (try simp only [fa_le, fa_lt, fa_eq, va_up] at *); (try simp at *); omega) | exact h2 (by (try simp only [fa_le, fa_lt, fa_eq, va_up] at *); (try simp at *); omega) | exact h3 (by (try simp only [fa_le, fa_lt, fa_eq, va_up] at *); (try simp at *); omega) | exact h4 (by (try simp only [fa_le, fa_lt, fa_eq, va_up] at *); (try simp at *); omega) | (exfalso; (try simp only [fa_le, fa_lt, fa_eq, va_up] at *); (try simp at *); omega)
  · refine hX0 _ _ _ _ ?_
    first | exact h0 (by (try simp only [fa_le, fa_lt, fa_eq, va_up] at *); (try simp at *); omega) | exact h1 (by (try simp only [fa_le, fa_lt, fa_eq, va_up] at *); (try simp at *); omega) | exact h2 (by (try simp only [fa_le, fa_lt, fa_eq, va_up] at *); (try simp at *); omega) | exact h3 (by (try simp only [fa_le, fa_lt, fa_eq, va_up] at *); (try simp at *); omega) | exact h4 (by (try simp only [fa_le, fa_lt, fa_eq, va_up] at *); (try simp at *); omega) | (exfalso; (try simp only [fa_le, fa_lt, fa_eq, va_up] at *); (try simp at *); omega)
  · refine hX0 _ _ _ _ ?_
    first | exact h0 (by (try simp only [fa_le, fa_lt, fa_eq, va_up] at *); (try simp at *); omega) | exact h1 (by (try simp only [fa_le, fa_lt, fa_eq, va_up] at *); (try simp at *); omega) | exact h2 (by (try simp only [fa_le, fa_lt, fa_eq, va_up] at *); (try simp at *); omega) | exact h3 (by (try simp only [fa_le, fa_lt, fa_eq, va_up] at *); (try simp at *); omega) | exact h4 (by (try simp only [fa_le, fa_lt, fa_eq, va_up] at *); (try simp at *); omega) | (exfalso; (try simp only [fa_le, fa_lt, fa_eq, va_up] at *); (try simp at *); omega)

theorem y_planned {d : Nat} {s : Nat → Int32} {a : Nat → Nat → Int32} {w : Bool} {t : Nat → Int32} {b : Nat → Nat → Int32} {u : Nat → Int64} {c : Nat → Nat → Int64} {x y : Int32} {Q : zQ} (hp : (t 9).toInt = -1 ∨ (1 ≤ (t 9).toInt ∧ (t 9).toInt ≤ 100)) (h0 : (¬ (0 < (t 9).toInt ∧ 0 ≤ y.toInt ∧ y.toInt ≤ 1 ∧ -1 ≤ x.toInt ∧ x.toInt < (t 9).toInt)) → Q (some (.int (-1))) (HX s a w ++ HM (va_up t 0 (0)) b u c)) (h1 : ((0 < (t 9).toInt ∧ 0 ≤ y.toInt ∧ y.toInt ≤ 1 ∧ -1 ≤ x.toInt ∧ x.toInt < (t 9).toInt) ∧ x.toInt = -1 ∧ y.toInt = 0) → Q (some (.int (t 9))) (HX s a w ++ HM (va_up t 0 (0)) b u c)) (h2 : ((0 < (t 9).toInt ∧ 0 ≤ y.toInt ∧ y.toInt ≤ 1 ∧ -1 ≤ x.toInt ∧ x.toInt < (t 9).toInt) ∧ x.toInt = -1 ∧ y.toInt = 1) → Q (some (.int ((u 0).toInt32))) (HX s a w ++ HM (va_up t 0 (0)) b u c)) (h3 : ((0 < (t 9).toInt ∧ 0 ≤ y.toInt ∧ y.toInt ≤ 1 ∧ -1 ≤ x.toInt ∧ x.toInt < (t 9).toInt) ∧ 0 ≤ x.toInt ∧ y.toInt = 0) → Q (some (.int (b 14 x.toNatClampNeg))) (HX s a w ++ HM (va_up t 0 (0)) b u c)) (h4 : ((0 < (t 9).toInt ∧ 0 ≤ y.toInt ∧ y.toInt ≤ 1 ∧ -1 ≤ x.toInt ∧ x.toInt < (t 9).toInt) ∧ 0 ≤ x.toInt ∧ y.toInt = 1) → Q (some (.int (b 15 x.toNatClampNeg))) (HX s a w ++ HM (va_up t 0 (0)) b u c)) : zG (d + 2) 120 [.ref 56, .int x, .int y] (HX s a w ++ HM t b u c) Q := by
  refine g_120 (Nat.le_of_ble_eq_true rfl) ?_
  intro X0 hX0
  have e1 := i64_m1 (t 9)
  iterate 3 refine hX0 _ _ _ _ ?_
  show X0 _ _ _ (HX s a w ++ HM (va_up t 0 _) b u c)
  iterate 3 refine hX0 _ _ _ _ ?_
  refine And.intro (fun c1 => ?_) (fun c1 => ?_)
  · iterate 2 refine hX0 _ _ _ _ ?_
    first | exact h0 (by (try simp only [fa_le, fa_lt, fa_eq, va_up] at *); (try simp at *); omega) | exact h1 (by (try simp only [fa_le, fa_lt, fa_eq, va_up] at *); (try simp at *); omega) | exact h2 (by (try simp only [fa_le, fa_lt, fa_eq, va_up] at *); (try simp at *); omega) | exact h3 (by (try simp only [fa_le, fa_lt, fa_eq, va_up] at *); (try simp at *); omega) | exact h4 (by (try simp only [fa_le, fa_lt, fa_eq, va_up] at *); (try simp at *); omega) | (exfalso; (try simp only [fa_le, fa_lt, fa_eq, va_up] at *); (try simp at *); omega)
  · iterate 5 refine hX0 _ _ _ _ ?_
    refine r_in (0) (1) rfl rfl (fun c2 => ?_) (fun c3 => ?_)
    · refine hX0 _ _ _ _ ?_
      refine And.intro (fun _ => ?_) (fun c => absurd c (by decide))
      iterate 3 refine hX0 _ _ _ _ ?_
      refine And.intro (fun c4 => ?_) (fun c4 => ?_)
      · iterate 9 refine hX0 _ _ _ _ ?_
        refine r_in (0) _ rfl rfl (fun c5 => ?_) (fun c6 => ?_)
        · refine hX0 _ _ _ _ ?_
          refine And.intro (fun c => absurd c (by decide)) (fun _ => ?_)
          iterate 2 refine hX0 _ _ _ _ ?_
          refine And.intro (fun c7 => ?_) (fun c7 => ?_)
          · iterate 4 refine hX0 _ _ _ _ ?_
            refine And.intro (by rw [vp_in_iff]; (try simp only [fa_le, fa_lt, fa_eq, va_up] at *); (try simp at *); omega) ?_
            iterate 2 refine hX0 _ _ _ _ ?_
            first | exact h0 (by (try simp only [fa_le, fa_lt, fa_eq, va_up] at *); (try simp at *); omega) | exact h1 (by (try simp only [fa_le, fa_lt, fa_eq, va_up] at *); (try simp at *); omega) | exact h2 (by (try simp only [fa_le, fa_lt, fa_eq, va_up] at *); (try simp at *); omega) | exact h3 (by (try simp only [fa_le, fa_lt, fa_eq, va_up] at *); (try simp at *); omega) | exact h4 (by (try simp only [fa_le, fa_lt, fa_eq, va_up] at *); (try simp at *); omega) | (exfalso; (try simp only [fa_le, fa_lt, fa_eq, va_up] at *); (try simp at *); omega)
          · iterate 4 refine hX0 _ _ _ _ ?_
            refine And.intro (by rw [vp_in_iff]; (try simp only [fa_le, fa_lt, fa_eq, va_up] at *); (try simp at *); omega) ?_
            iterate 2 refine hX0 _ _ _ _ ?_
            first | exact h0 (by (try simp only [fa_le, fa_lt, fa_eq, va_up] at *); (try simp at *); omega) | exact h1 (by (try simp only [fa_le, fa_lt, fa_eq, va_up] at *); (try simp at *); omega) | exact h2 (by (try simp only [fa_le, fa_lt, fa_eq, va_up] at *); (try simp at *); omega) | exact h3 (by (try simp only [fa_le, fa_lt, fa_eq, va_up] at *); (try simp at *); omega) | exact h4 (by (try simp only [fa_le, fa_lt, fa_eq, va_up] at *); (try simp at *); omega) | (exfalso; (try simp only [fa_le, fa_lt, fa_eq, va_up] at *); (try simp at *); omega)
        · refine hX0 _ _ _ _ ?_
          refine And.intro (fun _ => ?_) (fun c => absurd c (by decide))
          iterate 2 refine hX0 _ _ _ _ ?_
          first | exact h0 (by (try simp only [fa_le, fa_lt, fa_eq, va_up] at *); (try simp at *); omega) | exact h1 (by (try simp only [fa_le, fa_lt, fa_eq, va_up] at *); (try simp at *); omega) | exact h2 (by (try simp only [fa_le, fa_lt, fa_eq, va_up] at *); (try simp at *); omega) | exact h3 (by (try simp only [fa_le, fa_lt, fa_eq, va_up] at *); (try simp at *); omega) | exact h4 (by (try simp only [fa_le, fa_lt, fa_eq, va_up] at *); (try simp at *); omega) | (exfalso; (try simp only [fa_le, fa_lt, fa_eq, va_up] at *); (try simp at *); omega)
      · iterate 2 refine hX0 _ _ _ _ ?_
        refine And.intro (fun c8 => ?_) (fun c8 => ?_)
        · iterate 4 refine hX0 _ _ _ _ ?_
          first | exact h0 (by (try simp only [fa_le, fa_lt, fa_eq, va_up] at *); (try simp at *); omega) | exact h1 (by (try simp only [fa_le, fa_lt, fa_eq, va_up] at *); (try simp at *); omega) | exact h2 (by (try simp only [fa_le, fa_lt, fa_eq, va_up] at *); (try simp at *); omega) | exact h3 (by (try simp only [fa_le, fa_lt, fa_eq, va_up] at *); (try simp at *); omega) | exact h4 (by (try simp only [fa_le, fa_lt, fa_eq, va_up] at *); (try simp at *); omega) | (exfalso; (try simp only [fa_le, fa_lt, fa_eq, va_up] at *); (try simp at *); omega)
        · iterate 4 refine hX0 _ _ _ _ ?_
          first | exact h0 (by (try simp only [fa_le, fa_lt, fa_eq, va_up] at *); (try simp at *); omega) | exact h1 (by (try simp only [fa_le, fa_lt, fa_eq, va_up] at *); (try simp at *); omega) | exact h2 (by (try simp only [fa_le, fa_lt, fa_eq, va_up] at *); (try simp at *); omega) | exact h3 (by (try simp only [fa_le, fa_lt, fa_eq, va_up] at *); (try simp at *); omega) | exact h4 (by (try simp only [fa_le, fa_lt, fa_eq, va_up] at *); (try simp at *); omega) | (exfalso; (try simp only [fa_le, fa_lt, fa_eq, va_up] at *); (try simp at *); omega)
    · refine hX0 _ _ _ _ ?_
      refine And.intro (fun c => absurd c (by decide)) (fun _ => ?_)
      iterate 2 refine hX0 _ _ _ _ ?_
      first | exact h0 (by (try simp only [fa_le, fa_lt, fa_eq, va_up] at *); (try simp at *); omega) | exact h1 (by (try simp only [fa_le, fa_lt, fa_eq, va_up] at *); (try simp at *); omega) | exact h2 (by (try simp only [fa_le, fa_lt, fa_eq, va_up] at *); (try simp at *); omega) | exact h3 (by (try simp only [fa_le, fa_lt, fa_eq, va_up] at *); (try simp at *); omega) | exact h4 (by (try simp only [fa_le, fa_lt, fa_eq, va_up] at *); (try simp at *); omega) | (exfalso; (try simp only [fa_le, fa_lt, fa_eq, va_up] at *); (try simp at *); omega)

theorem x_count {d : Nat} {s : Nat → Int32} {a : Nat → Nat → Int32} {w : Bool} {Z : zH} {x : Int32} {Q : zQ}  (h0 : (x.toInt < 0 ∨ 12 < x.toInt) → Q (some (.int (-1))) (HX s a w ++ Z)) (h1 : (x.toInt = 0) → Q (some (.int (s 0))) (HX s a w ++ Z)) (h2 : (x.toInt = 1) → Q (some (.int (s 6))) (HX s a w ++ Z)) (h3 : (x.toInt = 2) → Q (some (.int (s 7))) (HX s a w ++ Z)) (h4 : (x.toInt = 3) → Q (some (.int (s 8))) (HX s a w ++ Z)) (h5 : (x.toInt = 4) → Q (some (.int (s 9))) (HX s a w ++ Z)) (h6 : (x.toInt = 5) → Q (some (.int (s 11))) (HX s a w ++ Z)) (h7 : (x.toInt = 6) → Q (some (.int (if w then s 28 else s 23))) (HX s a w ++ Z)) (h8 : (x.toInt = 7) → Q (some (.int (s 20))) (HX s a w ++ Z)) (h9 : (x.toInt = 8) → Q (some (.int (s 21))) (HX s a w ++ Z)) (h10 : (x.toInt = 9) → Q (some (.int (s 22))) (HX s a w ++ Z)) (h11 : (x.toInt = 10) → Q (some (.int (s 13))) (HX s a w ++ Z)) (h12 : (x.toInt = 11) → Q (some (.int (if w then s 31 else s 26))) (HX s a w ++ Z)) (h13 : (x.toInt = 12) → Q (some (.int (if w then s 32 else s 27))) (HX s a w ++ Z)) : zG (d + 1) 103 [.ref 0, .int x] (HX s a w ++ Z) Q := by
  cases w with
  | false =>
    refine g_103 (Nat.le_of_ble_eq_true rfl) ?_
    intro X0 hX0
    iterate 2 refine hX0 _ _ _ _ ?_
    refine And.intro (fun c1 => ?_) (And.intro (fun c1 => ?_) (And.intro (fun c1 => ?_) (And.intro (fun c1 => ?_) (And.intro (fun c1 => ?_) (And.intro (fun c1 => ?_) (And.intro (fun c1 => ?_) (And.intro (fun c1 => ?_) (And.intro (fun c1 => ?_) (And.intro (fun c1 => ?_) (And.intro (fun c1 => ?_) (And.intro (fun c1 => ?_) (And.intro (fun c1 => ?_) (And.intro (fun c1 => ?_) trivial)))))))))))))
    · iterate 2 refine hX0 _ _ _ _ ?_
      first | exact h0 (by (try simp only [fa_le, fa_lt, fa_eq, va_up] at *); (try simp at *); omega) | exact h1 (by (try simp only [fa_le, fa_lt, fa_eq, va_up] at *); (try simp at *); omega) | exact h2 (by (try simp only [fa_le, fa_lt, fa_eq, va_up] at *); (try simp at *); omega) | exact h3 (by (try simp only [fa_le, fa_lt, fa_eq, va_up] at *); (try simp at *); omega) | exact h4 (by (try simp only [fa_le, fa_lt, fa_eq, va_up] at *); (try simp at *); omega) | exact h5 (by (try simp only [fa_le, fa_lt, fa_eq, va_up] at *); (try simp at *); omega) | exact h6 (by (try simp only [fa_le, fa_lt, fa_eq, va_up] at *); (try simp at *); omega) | exact h7 (by (try simp only [fa_le, fa_lt, fa_eq, va_up] at *); (try simp at *); omega) | exact h8 (by (try simp only [fa_le, fa_lt, fa_eq, va_up] at *); (try simp at *); omega) | exact h9 (by (try simp only [fa_le, fa_lt, fa_eq, va_up] at *); (try simp at *); omega) | exact h10 (by (try simp only [fa_le, fa_lt, fa_eq, va_up] at *); (try simp at *); omega) | exact h11 (by (try simp only [fa_le, fa_lt, fa_eq, va_up] at *); (try simp at *); omega) | exact h12 (by (try simp only [fa_le, fa_lt, fa_eq, va_up] at *); (try simp at *); omega) | exact h13 (by (try simp only [fa_le, fa_lt, fa_eq, va_up] at *); (try simp at *); omega) | (exfalso; (try simp only [fa_le, fa_lt, fa_eq, va_up] at *); (try simp at *); omega)
    · iterate 3 refine hX0 _ _ _ _ ?_
      first | exact h0 (by (try simp only [fa_le, fa_lt, fa_eq, va_up] at *); (try simp at *); omega) | exact h1 (by (try simp only [fa_le, fa_lt, fa_eq, va_up] at *); (try simp at *); omega) | exact h2 (by (try simp only [fa_le, fa_lt, fa_eq, va_up] at *); (try simp at *); omega) | exact h3 (by (try simp only [fa_le, fa_lt, fa_eq, va_up] at *); (try simp at *); omega) | exact h4 (by (try simp only [fa_le, fa_lt, fa_eq, va_up] at *); (try simp at *); omega) | exact h5 (by (try simp only [fa_le, fa_lt, fa_eq, va_up] at *); (try simp at *); omega) | exact h6 (by (try simp only [fa_le, fa_lt, fa_eq, va_up] at *); (try simp at *); omega) | exact h7 (by (try simp only [fa_le, fa_lt, fa_eq, va_up] at *); (try simp at *); omega) | exact h8 (by (try simp only [fa_le, fa_lt, fa_eq, va_up] at *); (try simp at *); omega) | exact h9 (by (try simp only [fa_le, fa_lt, fa_eq, va_up] at *); (try simp at *); omega) | exact h10 (by (try simp only [fa_le, fa_lt, fa_eq, va_up] at *); (try simp at *); omega) | exact h11 (by (try simp only [fa_le, fa_lt, fa_eq, va_up] at *); (try simp at *); omega) | exact h12 (by (try simp only [fa_le, fa_lt, fa_eq, va_up] at *); (try simp at *); omega) | exact h13 (by (try simp only [fa_le, fa_lt, fa_eq, va_up] at *); (try simp at *); omega) | (exfalso; (try simp only [fa_le, fa_lt, fa_eq, va_up] at *); (try simp at *); omega)
    · iterate 4 refine hX0 _ _ _ _ ?_
      first | exact h0 (by (try simp only [fa_le, fa_lt, fa_eq, va_up] at *); (try simp at *); omega) | exact h1 (by (try simp only [fa_le, fa_lt, fa_eq, va_up] at *); (try simp at *); omega) | exact h2 (by (try simp only [fa_le, fa_lt, fa_eq, va_up] at *); (try simp at *); omega) | exact h3 (by (try simp only [fa_le, fa_lt, fa_eq, va_up] at *); (try simp at *); omega) | exact h4 (by (try simp only [fa_le, fa_lt, fa_eq, va_up] at *); (try simp at *); omega) | exact h5 (by (try simp only [fa_le, fa_lt, fa_eq, va_up] at *); (try simp at *); omega) | exact h6 (by (try simp only [fa_le, fa_lt, fa_eq, va_up] at *); (try simp at *); omega) | exact h7 (by (try simp only [fa_le, fa_lt, fa_eq, va_up] at *); (try simp at *); omega) | exact h8 (by (try simp only [fa_le, fa_lt, fa_eq, va_up] at *); (try simp at *); omega) | exact h9 (by (try simp only [fa_le, fa_lt, fa_eq, va_up] at *); (try simp at *); omega) | exact h10 (by (try simp only [fa_le, fa_lt, fa_eq, va_up] at *); (try simp at *); omega) | exact h11 (by (try simp only [fa_le, fa_lt, fa_eq, va_up] at *); (try simp at *); omega) | exact h12 (by (try simp only [fa_le, fa_lt, fa_eq, va_up] at *); (try simp at *); omega) | exact h13 (by (try simp only [fa_le, fa_lt, fa_eq, va_up] at *); (try simp at *); omega) | (exfalso; (try simp only [fa_le, fa_lt, fa_eq, va_up] at *); (try simp at *); omega)
    · iterate 4 refine hX0 _ _ _ _ ?_
      first | exact h0 (by (try simp only [fa_le, fa_lt, fa_eq, va_up] at *); (try simp at *); omega) | exact h1 (by (try simp only [fa_le, fa_lt, fa_eq, va_up] at *); (try simp at *); omega) | exact h2 (by (try simp only [fa_le, fa_lt, fa_eq, va_up] at *); (try simp at *); omega) | exact h3 (by (try simp only [fa_le, fa_lt, fa_eq, va_up] at *); (try simp at *); omega) | exact h4 (by (try simp only [fa_le, fa_lt, fa_eq, va_up] at *); (try simp at *); omega) | exact h5 (by (try simp only [fa_le, fa_lt, fa_eq, va_up] at *); (try simp at *); omega) | exact h6 (by (try simp only [fa_le, fa_lt, fa_eq, va_up] at *); (try simp at *); omega) | exact h7 (by (try simp only [fa_le, fa_lt, fa_eq, va_up] at *); (try simp at *); omega) | exact h8 (by (try simp only [fa_le, fa_lt, fa_eq, va_up] at *); (try simp at *); omega) | exact h9 (by (try simp only [fa_le, fa_lt, fa_eq, va_up] at *); (try simp at *); omega) | exact h10 (by (try simp only [fa_le, fa_lt, fa_eq, va_up] at *); (try simp at *); omega) | exact h11 (by (try simp only [fa_le, fa_lt, fa_eq, va_up] at *); (try simp at *); omega) | exact h12 (by (try simp only [fa_le, fa_lt, fa_eq, va_up] at *); (try simp at *); omega) | exact h13 (by (try simp only [fa_le, fa_lt, fa_eq, va_up] at *); (try simp at *); omega) | (exfalso; (try simp only [fa_le, fa_lt, fa_eq, va_up] at *); (try simp at *); omega)
    · iterate 4 refine hX0 _ _ _ _ ?_
      first | exact h0 (by (try simp only [fa_le, fa_lt, fa_eq, va_up] at *); (try simp at *); omega) | exact h1 (by (try simp only [fa_le, fa_lt, fa_eq, va_up] at *); (try simp at *); omega) | exact h2 (by (try simp only [fa_le, fa_lt, fa_eq, va_up] at *); (try simp at *); omega) | exact h3 (by (try simp only [fa_le, fa_lt, fa_eq, va_up] at *); (try simp at *); omega) | exact h4 (by (try simp only [fa_le, fa_lt, fa_eq, va_up] at *); (try simp at *); omega) | exact h5 (by (try simp only [fa_le, fa_lt, fa_eq, va_up] at *); (try simp at *); omega) | exact h6 (by (try simp only [fa_le, fa_lt, fa_eq, va_up] at *); (try simp at *); omega) | exact h7 (by (try simp only [fa_le, fa_lt, fa_eq, va_up] at *); (try simp at *); omega) | exact h8 (by (try simp only [fa_le, fa_lt, fa_eq, va_up] at *); (try simp at *); omega) | exact h9 (by (try simp only [fa_le, fa_lt, fa_eq, va_up] at *); (try simp at *); omega) | exact h10 (by (try simp only [fa_le, fa_lt, fa_eq, va_up] at *); (try simp at *); omega) | exact h11 (by (try simp only [fa_le, fa_lt, fa_eq, va_up] at *); (try simp at *); omega) | exact h12 (by (try simp only [fa_le, fa_lt, fa_eq, va_up] at *); (try simp at *); omega) | exact h13 (by (try simp only [fa_le, fa_lt, fa_eq, va_up] at *); (try simp at *); omega) | (exfalso; (try simp only [fa_le, fa_lt, fa_eq, va_up] at *); (try simp at *); omega)
    · iterate 4 refine hX0 _ _ _ _ ?_
      first | exact h0 (by (try simp only [fa_le, fa_lt, fa_eq, va_up] at *); (try simp at *); omega) | exact h1 (by (try simp only [fa_le, fa_lt, fa_eq, va_up] at *); (try simp at *); omega) | exact h2 (by (try simp only [fa_le, fa_lt, fa_eq, va_up] at *); (try simp at *); omega) | exact h3 (by (try simp only [fa_le, fa_lt, fa_eq, va_up] at *); (try simp at *); omega) | exact h4 (by (try simp only [fa_le, fa_lt, fa_eq, va_up] at *); (try simp at *); omega) | exact h5 (by (try simp only [fa_le, fa_lt, fa_eq, va_up] at *); (try simp at *); omega) | exact h6 (by (try simp only [fa_le, fa_lt, fa_eq, va_up] at *); (try simp at *); omega) | exact h7 (by (try simp only [fa_le, fa_lt, fa_eq, va_up] at *); (try simp at *); omega) | exact h8 (by (try simp only [fa_le, fa_lt, fa_eq, va_up] at *); (try simp at *); omega) | exact h9 (by (try simp only [fa_le, fa_lt, fa_eq, va_up] at *); (try simp at *); omega) | exact h10 (by (try simp only [fa_le, fa_lt, fa_eq, va_up] at *); (try simp at *); omega) | exact h11 (by (try simp only [fa_le, fa_lt, fa_eq, va_up] at *); (try simp at *); omega) | exact h12 (by (try simp only [fa_le, fa_lt, fa_eq, va_up] at *); (try simp at *); omega) | exact h13 (by (try simp only [fa_le, fa_lt, fa_eq, va_up] at *); (try simp at *); omega) | (exfalso; (try simp only [fa_le, fa_lt, fa_eq, va_up] at *); (try simp at *); omega)
    · iterate 4 refine hX0 _ _ _ _ ?_
      first | exact h0 (by (try simp only [fa_le, fa_lt, fa_eq, va_up] at *); (try simp at *); omega) | exact h1 (by (try simp only [fa_le, fa_lt, fa_eq, va_up] at *); (try simp at *); omega) | exact h2 (by (try simp only [fa_le, fa_lt, fa_eq, va_up] at *); (try simp at *); omega) | exact h3 (by (try simp only [fa_le, fa_lt, fa_eq, va_up] at *); (try simp at *); omega) | exact h4 (by (try simp only [fa_le, fa_lt, fa_eq, va_up] at *); (try simp at *); omega) | exact h5 (by (try simp only [fa_le, fa_lt, fa_eq, va_up] at *); (try simp at *); omega) | exact h6 (by (try simp only [fa_le, fa_lt, fa_eq, va_up] at *); (try simp at *); omega) | exact h7 (by (try simp only [fa_le, fa_lt, fa_eq, va_up] at *); (try simp at *); omega) | exact h8 (by (try simp only [fa_le, fa_lt, fa_eq, va_up] at *); (try simp at *); omega) | exact h9 (by (try simp only [fa_le, fa_lt, fa_eq, va_up] at *); (try simp at *); omega) | exact h10 (by (try simp only [fa_le, fa_lt, fa_eq, va_up] at *); (try simp at *); omega) | exact h11 (by (try simp only [fa_le, fa_lt, fa_eq, va_up] at *); (try simp at *); omega) | exact h12 (by (try simp only [fa_le, fa_lt, fa_eq, va_up] at *); (try simp at *); omega) | exact h13 (by (try simp only [fa_le, fa_lt, fa_eq, va_up] at *); (try simp at *); omega) | (exfalso; (try simp only [fa_le, fa_lt, fa_eq, va_up] at *); (try simp at *); omega)
    · iterate 4 refine hX0 _ _ _ _ ?_
      first | exact h0 (by (try simp only [fa_le, fa_lt, fa_eq, va_up] at *); (try simp at *); omega) | exact h1 (by (try simp only [fa_le, fa_lt, fa_eq, va_up] at *); (try simp at *); omega) | exact h2 (by (try simp only [fa_le, fa_lt, fa_eq, va_up] at *); (try simp at *); omega) | exact h3 (by (try simp only [fa_le, fa_lt, fa_eq, va_up] at *); (try simp at *); omega) | exact h4 (by (try simp only [fa_le, fa_lt, fa_eq, va_up] at *); (try simp at *); omega) | exact h5 (by (try simp only [fa_le, fa_lt, fa_eq, va_up] at *); (try simp at *); omega) | exact h6 (by (try simp only [fa_le, fa_lt, fa_eq, va_up] at *); (try simp at *); omega) | exact h7 (by (try simp only [fa_le, fa_lt, fa_eq, va_up] at *); (try simp at *); omega) | exact h8 (by (try simp only [fa_le, fa_lt, fa_eq, va_up] at *); (try simp at *); omega) | exact h9 (by (try simp only [fa_le, fa_lt, fa_eq, va_up] at *); (try simp at *); omega) | exact h10 (by (try simp only [fa_le, fa_lt, fa_eq, va_up] at *); (try simp at *); omega) | exact h11 (by (try simp only [fa_le, fa_lt, fa_eq, va_up] at *); (try simp at *); omega) | exact h12 (by (try simp only [fa_le, fa_lt, fa_eq, va_up] at *); (try simp at *); omega) | exact h13 (by (try simp only [fa_le, fa_lt, fa_eq, va_up] at *); (try simp at *); omega) | (exfalso; (try simp only [fa_le, fa_lt, fa_eq, va_up] at *); (try simp at *); omega)
    · iterate 4 refine hX0 _ _ _ _ ?_
      first | exact h0 (by (try simp only [fa_le, fa_lt, fa_eq, va_up] at *); (try simp at *); omega) | exact h1 (by (try simp only [fa_le, fa_lt, fa_eq, va_up] at *); (try simp at *); omega) | exact h2 (by (try simp only [fa_le, fa_lt, fa_eq, va_up] at *); (try simp at *); omega) | exact h3 (by (try simp only [fa_le, fa_lt, fa_eq, va_up] at *); (try simp at *); omega) | exact h4 (by (try simp only [fa_le, fa_lt, fa_eq, va_up] at *); (try simp at *); omega) | exact h5 (by (try simp only [fa_le, fa_lt, fa_eq, va_up] at *); (try simp at *); omega) | exact h6 (by (try simp only [fa_le, fa_lt, fa_eq, va_up] at *); (try simp at *); omega) | exact h7 (by (try simp only [fa_le, fa_lt, fa_eq, va_up] at *); (try simp at *); omega) | exact h8 (by (try simp only [fa_le, fa_lt, fa_eq, va_up] at *); (try simp at *); omega) | exact h9 (by (try simp only [fa_le, fa_lt, fa_eq, va_up] at *); (try simp at *); omega) | exact h10 (by (try simp only [fa_le, fa_lt, fa_eq, va_up] at *); (try simp at *); omega) | exact h11 (by (try simp only [fa_le, fa_lt, fa_eq, va_up] at *); (try simp at *); omega) | exact h12 (by (try simp only [fa_le, fa_lt, fa_eq, va_up] at *); (try simp at *); omega) | exact h13 (by (try simp only [fa_le, fa_lt, fa_eq, va_up] at *); (try simp at *); omega) | (exfalso; (try simp only [fa_le, fa_lt, fa_eq, va_up] at *); (try simp at *); omega)
    · iterate 4 refine hX0 _ _ _ _ ?_
      first | exact h0 (by (try simp only [fa_le, fa_lt, fa_eq, va_up] at *); (try simp at *); omega) | exact h1 (by (try simp only [fa_le, fa_lt, fa_eq, va_up] at *); (try simp at *); omega) | exact h2 (by (try simp only [fa_le, fa_lt, fa_eq, va_up] at *); (try simp at *); omega) | exact h3 (by (try simp only [fa_le, fa_lt, fa_eq, va_up] at *); (try simp at *); omega) | exact h4 (by (try simp only [fa_le, fa_lt, fa_eq, va_up] at *); (try simp at *); omega) | exact h5 (by (try simp only [fa_le, fa_lt, fa_eq, va_up] at *); (try simp at *); omega) | exact h6 (by (try simp only [fa_le, fa_lt, fa_eq, va_up] at *); (try simp at *); omega) | exact h7 (by (try simp only [fa_le, fa_lt, fa_eq, va_up] at *); (try simp at *); omega) | exact h8 (by (try simp only [fa_le, fa_lt, fa_eq, va_up] at *); (try simp at *); omega) | exact h9 (by (try simp only [fa_le, fa_lt, fa_eq, va_up] at *); (try simp at *); omega) | exact h10 (by (try simp only [fa_le, fa_lt, fa_eq, va_up] at *); (try simp at *); omega) | exact h11 (by (try simp only [fa_le, fa_lt, fa_eq, va_up] at *); (try simp at *); omega) | exact h12 (by (try simp only [fa_le, fa_lt, fa_eq, va_up] at *); (try simp at *); omega) | exact h13 (by (try simp only [fa_le, fa_lt, fa_eq, va_up] at *); (try simp at *); omega) | (exfalso; (try simp only [fa_le, fa_lt, fa_eq, va_up] at *); (try simp at *); omega)
    · iterate 4 refine hX0 _ _ _ _ ?_
      first | exact h0 (by (try simp only [fa_le, fa_lt, fa_eq, va_up] at *); (try simp at *); omega) | exact h1 (by (try simp only [fa_le, fa_lt, fa_eq, va_up] at *); (try simp at *); omega) | exact h2 (by (try simp only [fa_le, fa_lt, fa_eq, va_up] at *); (try simp at *); omega) | exact h3 (by (try simp only [fa_le, fa_lt, fa_eq, va_up] at *); (try simp at *); omega) | exact h4 (by (try simp only [fa_le, fa_lt, fa_eq, va_up] at *); (try simp at *); omega) | exact h5 (by (try simp only [fa_le, fa_lt, fa_eq, va_up] at *); (try simp at *); omega) | exact h6 (by (try simp only [fa_le, fa_lt, fa_eq, va_up] at *); (try simp at *); omega) | exact h7 (by (try simp only [fa_le, fa_lt, fa_eq, va_up] at *); (try simp at *); omega) | exact h8 (by (try simp only [fa_le, fa_lt, fa_eq, va_up] at *); (try simp at *); omega) | exact h9 (by (try simp only [fa_le, fa_lt, fa_eq, va_up] at *); (try simp at *); omega) | exact h10 (by (try simp only [fa_le, fa_lt, fa_eq, va_up] at *); (try simp at *); omega) | exact h11 (by (try simp only [fa_le, fa_lt, fa_eq, va_up] at *); (try simp at *); omega) | exact h12 (by (try simp only [fa_le, fa_lt, fa_eq, va_up] at *); (try simp at *); omega) | exact h13 (by (try simp only [fa_le, fa_lt, fa_eq, va_up] at *); (try simp at *); omega) | (exfalso; (try simp only [fa_le, fa_lt, fa_eq, va_up] at *); (try simp at *); omega)
    · iterate 4 refine hX0 _ _ _ _ ?_
      first | exact h0 (by (try simp only [fa_le, fa_lt, fa_eq, va_up] at *); (try simp at *); omega) | exact h1 (by (try simp only [fa_le, fa_lt, fa_eq, va_up] at *); (try simp at *); omega) | exact h2 (by (try simp only [fa_le, fa_lt, fa_eq, va_up] at *); (try simp at *); omega) | exact h3 (by (try simp only [fa_le, fa_lt, fa_eq, va_up] at *); (try simp at *); omega) | exact h4 (by (try simp only [fa_le, fa_lt, fa_eq, va_up] at *); (try simp at *); omega) | exact h5 (by (try simp only [fa_le, fa_lt, fa_eq, va_up] at *); (try simp at *); omega) | exact h6 (by (try simp only [fa_le, fa_lt, fa_eq, va_up] at *); (try simp at *); omega) | exact h7 (by (try simp only [fa_le, fa_lt, fa_eq, va_up] at *); (try simp at *); omega) | exact h8 (by (try simp only [fa_le, fa_lt, fa_eq, va_up] at *); (try simp at *); omega) | exact h9 (by (try simp only [fa_le, fa_lt, fa_eq, va_up] at *); (try simp at *); omega) | exact h10 (by (try simp only [fa_le, fa_lt, fa_eq, va_up] at *); (try simp at *); omega) | exact h11 (by (try simp only [fa_le, fa_lt, fa_eq, va_up] at *); (try simp at *); omega) | exact h12 (by (try simp only [fa_le, fa_lt, fa_eq, va_up] at *); (try simp at *); omega) | exact h13 (by (try simp only [fa_le, fa_lt, fa_eq, va_up] at *); (try simp at *); omega) | (exfalso; (try simp only [fa_le, fa_lt, fa_eq, va_up] at *); (try simp at *); omega)
    · iterate 4 refine hX0 _ _ _ _ ?_
      first | exact h0 (by (try simp only [fa_le, fa_lt, fa_eq, va_up] at *); (try simp at *); omega) | exact h1 (by (try simp only [fa_le, fa_lt, fa_eq, va_up] at *); (try simp at *); omega) | exact h2 (by (try simp only [fa_le, fa_lt, fa_eq, va_up] at *); (try simp at *); omega) | exact h3 (by (try simp only [fa_le, fa_lt, fa_eq, va_up] at *); (try simp at *); omega) | exact h4 (by (try simp only [fa_le, fa_lt, fa_eq, va_up] at *); (try simp at *); omega) | exact h5 (by (try simp only [fa_le, fa_lt, fa_eq, va_up] at *); (try simp at *); omega) | exact h6 (by (try simp only [fa_le, fa_lt, fa_eq, va_up] at *); (try simp at *); omega) | exact h7 (by (try simp only [fa_le, fa_lt, fa_eq, va_up] at *); (try simp at *); omega) | exact h8 (by (try simp only [fa_le, fa_lt, fa_eq, va_up] at *); (try simp at *); omega) | exact h9 (by (try simp only [fa_le, fa_lt, fa_eq, va_up] at *); (try simp at *); omega) | exact h10 (by (try simp only [fa_le, fa_lt, fa_eq, va_up] at *); (try simp at *); omega) | exact h11 (by (try simp only [fa_le, fa_lt, fa_eq, va_up] at *); (try simp at *); omega) | exact h12 (by (try simp only [fa_le, fa_lt, fa_eq, va_up] at *); (try simp at *); omega) | exact h13 (by (try simp only [fa_le, fa_lt, fa_eq, va_up] at *); (try simp at *); omega) | (exfalso; (try simp only [fa_le, fa_lt, fa_eq, va_up] at *); (try simp at *); omega)
    · iterate 4 refine hX0 _ _ _ _ ?_
      first | exact h0 (by (try simp only [fa_le, fa_lt, fa_eq, va_up] at *); (try simp at *); omega) | exact h1 (by (try simp only [fa_le, fa_lt, fa_eq, va_up] at *); (try simp at *); omega) | exact h2 (by (try simp only [fa_le, fa_lt, fa_eq, va_up] at *); (try simp at *); omega) | exact h3 (by (try simp only [fa_le, fa_lt, fa_eq, va_up] at *); (try simp at *); omega) | exact h4 (by (try simp only [fa_le, fa_lt, fa_eq, va_up] at *); (try simp at *); omega) | exact h5 (by (try simp only [fa_le, fa_lt, fa_eq, va_up] at *); (try simp at *); omega) | exact h6 (by (try simp only [fa_le, fa_lt, fa_eq, va_up] at *); (try simp at *); omega) | exact h7 (by (try simp only [fa_le, fa_lt, fa_eq, va_up] at *); (try simp at *); omega) | exact h8 (by (try simp only [fa_le, fa_lt, fa_eq, va_up] at *); (try simp at *); omega) | exact h9 (by (try simp only [fa_le, fa_lt, fa_eq, va_up] at *); (try simp at *); omega) | exact h10 (by (try simp only [fa_le, fa_lt, fa_eq, va_up] at *); (try simp at *); omega) | exact h11 (by (try simp only [fa_le, fa_lt, fa_eq, va_up] at *); (try simp at *); omega) | exact h12 (by (try simp only [fa_le, fa_lt, fa_eq, va_up] at *); (try simp at *); omega) | exact h13 (by (try simp only [fa_le, fa_lt, fa_eq, va_up] at *); (try simp at *); omega) | (exfalso; (try simp only [fa_le, fa_lt, fa_eq, va_up] at *); (try simp at *); omega)
  | true =>
    refine g_103 (Nat.le_of_ble_eq_true rfl) ?_
    intro X0 hX0
    iterate 2 refine hX0 _ _ _ _ ?_
    refine And.intro (fun c1 => ?_) (And.intro (fun c1 => ?_) (And.intro (fun c1 => ?_) (And.intro (fun c1 => ?_) (And.intro (fun c1 => ?_) (And.intro (fun c1 => ?_) (And.intro (fun c1 => ?_) (And.intro (fun c1 => ?_) (And.intro (fun c1 => ?_) (And.intro (fun c1 => ?_) (And.intro (fun c1 => ?_) (And.intro (fun c1 => ?_) (And.intro (fun c1 => ?_) (And.intro (fun c1 => ?_) trivial)))))))))))))
    · iterate 2 refine hX0 _ _ _ _ ?_
      first | exact h0 (by (try simp only [fa_le, fa_lt, fa_eq, va_up] at *); (try simp at *); omega) | exact h1 (by (try simp only [fa_le, fa_lt, fa_eq, va_up] at *); (try simp at *); omega) | exact h2 (by (try simp only [fa_le, fa_lt, fa_eq, va_up] at *); (try simp at *); omega) | exact h3 (by (try simp only [fa_le, fa_lt, fa_eq, va_up] at *); (try simp at *); omega) | exact h4 (by (try simp only [fa_le, fa_lt, fa_eq, va_up] at *); (try simp at *); omega) | exact h5 (by (try simp only [fa_le, fa_lt, fa_eq, va_up] at *); (try simp at *); omega) | exact h6 (by (try simp only [fa_le, fa_lt, fa_eq, va_up] at *); (try simp at *); omega) | exact h7 (by (try simp only [fa_le, fa_lt, fa_eq, va_up] at *); (try simp at *); omega) | exact h8 (by (try simp only [fa_le, fa_lt, fa_eq, va_up] at *); (try simp at *); omega) | exact h9 (by (try simp only [fa_le, fa_lt, fa_eq, va_up] at *); (try simp at *); omega) | exact h10 (by (try simp only [fa_le, fa_lt, fa_eq, va_up] at *); (try simp at *); omega) | exact h11 (by (try simp only [fa_le, fa_lt, fa_eq, va_up] at *); (try simp at *); omega) | exact h12 (by (try simp only [fa_le, fa_lt, fa_eq, va_up] at *); (try simp at *); omega) | exact h13 (by (try simp only [fa_le, fa_lt, fa_eq, va_up] at *); (try simp at *); omega) | (exfalso; (try simp only [fa_le, fa_lt, fa_eq, va_up] at *); (try simp at *); omega)
    · iterate 3 refine hX0 _ _ _ _ ?_
      first | exact h0 (by (try simp only [fa_le, fa_lt, fa_eq, va_up] at *); (try simp at *); omega) | exact h1 (by (try simp only [fa_le, fa_lt, fa_eq, va_up] at *); (try simp at *); omega) | exact h2 (by (try simp only [fa_le, fa_lt, fa_eq, va_up] at *); (try simp at *); omega) | exact h3 (by (try simp only [fa_le, fa_lt, fa_eq, va_up] at *); (try simp at *); omega) | exact h4 (by (try simp only [fa_le, fa_lt, fa_eq, va_up] at *); (try simp at *); omega) | exact h5 (by (try simp only [fa_le, fa_lt, fa_eq, va_up] at *); (try simp at *); omega) | exact h6 (by (try simp only [fa_le, fa_lt, fa_eq, va_up] at *); (try simp at *); omega) | exact h7 (by (try simp only [fa_le, fa_lt, fa_eq, va_up] at *); (try simp at *); omega) | exact h8 (by (try simp only [fa_le, fa_lt, fa_eq, va_up] at *); (try simp at *); omega) | exact h9 (by (try simp only [fa_le, fa_lt, fa_eq, va_up] at *); (try simp at *); omega) | exact h10 (by (try simp only [fa_le, fa_lt, fa_eq, va_up] at *); (try simp at *); omega) | exact h11 (by (try simp only [fa_le, fa_lt, fa_eq, va_up] at *); (try simp at *); omega) | exact h12 (by (try simp only [fa_le, fa_lt, fa_eq, va_up] at *); (try simp at *); omega) | exact h13 (by (try simp only [fa_le, fa_lt, fa_eq, va_up] at *); (try simp at *); omega) | (exfalso; (try simp only [fa_le, fa_lt, fa_eq, va_up] at *); (try simp at *); omega)
    · iterate 4 refine hX0 _ _ _ _ ?_
      first | exact h0 (by (try simp only [fa_le, fa_lt, fa_eq, va_up] at *); (try simp at *); omega) | exact h1 (by (try simp only [fa_le, fa_lt, fa_eq, va_up] at *); (try simp at *); omega) | exact h2 (by (try simp only [fa_le, fa_lt, fa_eq, va_up] at *); (try simp at *); omega) | exact h3 (by (try simp only [fa_le, fa_lt, fa_eq, va_up] at *); (try simp at *); omega) | exact h4 (by (try simp only [fa_le, fa_lt, fa_eq, va_up] at *); (try simp at *); omega) | exact h5 (by (try simp only [fa_le, fa_lt, fa_eq, va_up] at *); (try simp at *); omega) | exact h6 (by (try simp only [fa_le, fa_lt, fa_eq, va_up] at *); (try simp at *); omega) | exact h7 (by (try simp only [fa_le, fa_lt, fa_eq, va_up] at *); (try simp at *); omega) | exact h8 (by (try simp only [fa_le, fa_lt, fa_eq, va_up] at *); (try simp at *); omega) | exact h9 (by (try simp only [fa_le, fa_lt, fa_eq, va_up] at *); (try simp at *); omega) | exact h10 (by (try simp only [fa_le, fa_lt, fa_eq, va_up] at *); (try simp at *); omega) | exact h11 (by (try simp only [fa_le, fa_lt, fa_eq, va_up] at *); (try simp at *); omega) | exact h12 (by (try simp only [fa_le, fa_lt, fa_eq, va_up] at *); (try simp at *); omega) | exact h13 (by (try simp only [fa_le, fa_lt, fa_eq, va_up] at *); (try simp at *); omega) | (exfalso; (try simp only [fa_le, fa_lt, fa_eq, va_up] at *); (try simp at *); omega)
    · iterate 4 refine hX0 _ _ _ _ ?_
      first | exact h0 (by (try simp only [fa_le, fa_lt, fa_eq, va_up] at *); (try simp at *); omega) | exact h1 (by (try simp only [fa_le, fa_lt, fa_eq, va_up] at *); (try simp at *); omega) | exact h2 (by (try simp only [fa_le, fa_lt, fa_eq, va_up] at *); (try simp at *); omega) | exact h3 (by (try simp only [fa_le, fa_lt, fa_eq, va_up] at *); (try simp at *); omega) | exact h4 (by (try simp only [fa_le, fa_lt, fa_eq, va_up] at *); (try simp at *); omega) | exact h5 (by (try simp only [fa_le, fa_lt, fa_eq, va_up] at *); (try simp at *); omega) | exact h6 (by (try simp only [fa_le, fa_lt, fa_eq, va_up] at *); (try simp at *); omega) | exact h7 (by (try simp only [fa_le, fa_lt, fa_eq, va_up] at *); (try simp at *); omega) | exact h8 (by (try simp only [fa_le, fa_lt, fa_eq, va_up] at *); (try simp at *); omega) | exact h9 (by (try simp only [fa_le, fa_lt, fa_eq, va_up] at *); (try simp at *); omega) | exact h10 (by (try simp only [fa_le, fa_lt, fa_eq, va_up] at *); (try simp at *); omega) | exact h11 (by (try simp only [fa_le, fa_lt, fa_eq, va_up] at *); (try simp at *); omega) | exact h12 (by (try simp only [fa_le, fa_lt, fa_eq, va_up] at *); (try simp at *); omega) | exact h13 (by (try simp only [fa_le, fa_lt, fa_eq, va_up] at *); (try simp at *); omega) | (exfalso; (try simp only [fa_le, fa_lt, fa_eq, va_up] at *); (try simp at *); omega)
    · iterate 4 refine hX0 _ _ _ _ ?_
      first | exact h0 (by (try simp only [fa_le, fa_lt, fa_eq, va_up] at *); (try simp at *); omega) | exact h1 (by (try simp only [fa_le, fa_lt, fa_eq, va_up] at *); (try simp at *); omega) | exact h2 (by (try simp only [fa_le, fa_lt, fa_eq, va_up] at *); (try simp at *); omega) | exact h3 (by (try simp only [fa_le, fa_lt, fa_eq, va_up] at *); (try simp at *); omega) | exact h4 (by (try simp only [fa_le, fa_lt, fa_eq, va_up] at *); (try simp at *); omega) | exact h5 (by (try simp only [fa_le, fa_lt, fa_eq, va_up] at *); (try simp at *); omega) | exact h6 (by (try simp only [fa_le, fa_lt, fa_eq, va_up] at *); (try simp at *); omega) | exact h7 (by (try simp only [fa_le, fa_lt, fa_eq, va_up] at *); (try simp at *); omega) | exact h8 (by (try simp only [fa_le, fa_lt, fa_eq, va_up] at *); (try simp at *); omega) | exact h9 (by (try simp only [fa_le, fa_lt, fa_eq, va_up] at *); (try simp at *); omega) | exact h10 (by (try simp only [fa_le, fa_lt, fa_eq, va_up] at *); (try simp at *); omega) | exact h11 (by (try simp only [fa_le, fa_lt, fa_eq, va_up] at *); (try simp at *); omega) | exact h12 (by (try simp only [fa_le, fa_lt, fa_eq, va_up] at *); (try simp at *); omega) | exact h13 (by (try simp only [fa_le, fa_lt, fa_eq, va_up] at *); (try simp at *); omega) | (exfalso; (try simp only [fa_le, fa_lt, fa_eq, va_up] at *); (try simp at *); omega)
    · iterate 4 refine hX0 _ _ _ _ ?_
      first | exact h0 (by (try simp only [fa_le, fa_lt, fa_eq, va_up] at *); (try simp at *); omega) | exact h1 (by (try simp only [fa_le, fa_lt, fa_eq, va_up] at *); (try simp at *); omega) | exact h2 (by (try simp only [fa_le, fa_lt, fa_eq, va_up] at *); (try simp at *); omega) | exact h3 (by (try simp only [fa_le, fa_lt, fa_eq, va_up] at *); (try simp at *); omega) | exact h4 (by (try simp only [fa_le, fa_lt, fa_eq, va_up] at *); (try simp at *); omega) | exact h5 (by (try simp only [fa_le, fa_lt, fa_eq, va_up] at *); (try simp at *); omega) | exact h6 (by (try simp only [fa_le, fa_lt, fa_eq, va_up] at *); (try simp at *); omega) | exact h7 (by (try simp only [fa_le, fa_lt, fa_eq, va_up] at *); (try simp at *); omega) | exact h8 (by (try simp only [fa_le, fa_lt, fa_eq, va_up] at *); (try simp at *); omega) | exact h9 (by (try simp only [fa_le, fa_lt, fa_eq, va_up] at *); (try simp at *); omega) | exact h10 (by (try simp only [fa_le, fa_lt, fa_eq, va_up] at *); (try simp at *); omega) | exact h11 (by (try simp only [fa_le, fa_lt, fa_eq, va_up] at *); (try simp at *); omega) | exact h12 (by (try simp only [fa_le, fa_lt, fa_eq, va_up] at *); (try simp at *); omega) | exact h13 (by (try simp only [fa_le, fa_lt, fa_eq, va_up] at *); (try simp at *); omega) | (exfalso; (try simp only [fa_le, fa_lt, fa_eq, va_up] at *); (try simp at *); omega)
    · iterate 4 refine hX0 _ _ _ _ ?_
      first | exact h0 (by (try simp only [fa_le, fa_lt, fa_eq, va_up] at *); (try simp at *); omega) | exact h1 (by (try simp only [fa_le, fa_lt, fa_eq, va_up] at *); (try simp at *); omega) | exact h2 (by (try simp only [fa_le, fa_lt, fa_eq, va_up] at *); (try simp at *); omega) | exact h3 (by (try simp only [fa_le, fa_lt, fa_eq, va_up] at *); (try simp at *); omega) | exact h4 (by (try simp only [fa_le, fa_lt, fa_eq, va_up] at *); (try simp at *); omega) | exact h5 (by (try simp only [fa_le, fa_lt, fa_eq, va_up] at *); (try simp at *); omega) | exact h6 (by (try simp only [fa_le, fa_lt, fa_eq, va_up] at *); (try simp at *); omega) | exact h7 (by (try simp only [fa_le, fa_lt, fa_eq, va_up] at *); (try simp at *); omega) | exact h8 (by (try simp only [fa_le, fa_lt, fa_eq, va_up] at *); (try simp at *); omega) | exact h9 (by (try simp only [fa_le, fa_lt, fa_eq, va_up] at *); (try simp at *); omega) | exact h10 (by (try simp only [fa_le, fa_lt, fa_eq, va_up] at *); (try simp at *); omega) | exact h11 (by (try simp only [fa_le, fa_lt, fa_eq, va_up] at *); (try simp at *); omega) | exact h12 (by (try simp only [fa_le, fa_lt, fa_eq, va_up] at *); (try simp at *); omega) | exact h13 (by (try simp only [fa_le, fa_lt, fa_eq, va_up] at *); (try simp at *); omega) | (exfalso; (try simp only [fa_le, fa_lt, fa_eq, va_up] at *); (try simp at *); omega)
    · iterate 4 refine hX0 _ _ _ _ ?_
      first | exact h0 (by (try simp only [fa_le, fa_lt, fa_eq, va_up] at *); (try simp at *); omega) | exact h1 (by (try simp only [fa_le, fa_lt, fa_eq, va_up] at *); (try simp at *); omega) | exact h2 (by (try simp only [fa_le, fa_lt, fa_eq, va_up] at *); (try simp at *); omega) | exact h3 (by (try simp only [fa_le, fa_lt, fa_eq, va_up] at *); (try simp at *); omega) | exact h4 (by (try simp only [fa_le, fa_lt, fa_eq, va_up] at *); (try simp at *); omega) | exact h5 (by (try simp only [fa_le, fa_lt, fa_eq, va_up] at *); (try simp at *); omega) | exact h6 (by (try simp only [fa_le, fa_lt, fa_eq, va_up] at *); (try simp at *); omega) | exact h7 (by (try simp only [fa_le, fa_lt, fa_eq, va_up] at *); (try simp at *); omega) | exact h8 (by (try simp only [fa_le, fa_lt, fa_eq, va_up] at *); (try simp at *); omega) | exact h9 (by (try simp only [fa_le, fa_lt, fa_eq, va_up] at *); (try simp at *); omega) | exact h10 (by (try simp only [fa_le, fa_lt, fa_eq, va_up] at *); (try simp at *); omega) | exact h11 (by (try simp only [fa_le, fa_lt, fa_eq, va_up] at *); (try simp at *); omega) | exact h12 (by (try simp only [fa_le, fa_lt, fa_eq, va_up] at *); (try simp at *); omega) | exact h13 (by (try simp only [fa_le, fa_lt, fa_eq, va_up] at *); (try simp at *); omega) | (exfalso; (try simp only [fa_le, fa_lt, fa_eq, va_up] at *); (try simp at *); omega)
    · iterate 4 refine hX0 _ _ _ _ ?_
      first | exact h0 (by (try simp only [fa_le, fa_lt, fa_eq, va_up] at *); (try simp at *); omega) | exact h1 (by (try simp only [fa_le, fa_lt, fa_eq, va_up] at *); (try simp at *); omega) | exact h2 (by (try simp only [fa_le, fa_lt, fa_eq, va_up] at *); (try simp at *); omega) | exact h3 (by (try simp only [fa_le, fa_lt, fa_eq, va_up] at *); (try simp at *); omega) | exact h4 (by (try simp only [fa_le, fa_lt, fa_eq, va_up] at *); (try simp at *); omega) | exact h5 (by (try simp only [fa_le, fa_lt, fa_eq, va_up] at *); (try simp at *); omega) | exact h6 (by (try simp only [fa_le, fa_lt, fa_eq, va_up] at *); (try simp at *); omega) | exact h7 (by (try simp only [fa_le, fa_lt, fa_eq, va_up] at *); (try simp at *); omega) | exact h8 (by (try simp only [fa_le, fa_lt, fa_eq, va_up] at *); (try simp at *); omega) | exact h9 (by (try simp only [fa_le, fa_lt, fa_eq, va_up] at *); (try simp at *); omega) | exact h10 (by (try simp only [fa_le, fa_lt, fa_eq, va_up] at *); (try simp at *); omega) | exact h11 (by (try simp only [fa_le, fa_lt, fa_eq, va_up] at *); (try simp at *); omega) | exact h12 (by (try simp only [fa_le, fa_lt, fa_eq, va_up] at *); (try simp at *); omega) | exact h13 (by (try simp only [fa_le, fa_lt, fa_eq, va_up] at *); (try simp at *); omega) | (exfalso; (try simp only [fa_le, fa_lt, fa_eq, va_up] at *); (try simp at *); omega)
    · iterate 4 refine hX0 _ _ _ _ ?_
      first | exact h0 (by (try simp only [fa_le, fa_lt, fa_eq, va_up] at *); (try simp at *); omega) | exact h1 (by (try simp only [fa_le, fa_lt, fa_eq, va_up] at *); (try simp at *); omega) | exact h2 (by (try simp only [fa_le, fa_lt, fa_eq, va_up] at *); (try simp at *); omega) | exact h3 (by (try simp only [fa_le, fa_lt, fa_eq, va_up] at *); (try simp at *); omega) | exact h4 (by (try simp only [fa_le, fa_lt, fa_eq, va_up] at *); (try simp at *); omega) | exact h5 (by (try simp only [fa_le, fa_lt, fa_eq, va_up] at *); (try simp at *); omega) | exact h6 (by (try simp only [fa_le, fa_lt, fa_eq, va_up] at *); (try simp at *); omega) | exact h7 (by (try simp only [fa_le, fa_lt, fa_eq, va_up] at *); (try simp at *); omega) | exact h8 (by (try simp only [fa_le, fa_lt, fa_eq, va_up] at *); (try simp at *); omega) | exact h9 (by (try simp only [fa_le, fa_lt, fa_eq, va_up] at *); (try simp at *); omega) | exact h10 (by (try simp only [fa_le, fa_lt, fa_eq, va_up] at *); (try simp at *); omega) | exact h11 (by (try simp only [fa_le, fa_lt, fa_eq, va_up] at *); (try simp at *); omega) | exact h12 (by (try simp only [fa_le, fa_lt, fa_eq, va_up] at *); (try simp at *); omega) | exact h13 (by (try simp only [fa_le, fa_lt, fa_eq, va_up] at *); (try simp at *); omega) | (exfalso; (try simp only [fa_le, fa_lt, fa_eq, va_up] at *); (try simp at *); omega)
    · iterate 4 refine hX0 _ _ _ _ ?_
      first | exact h0 (by (try simp only [fa_le, fa_lt, fa_eq, va_up] at *); (try simp at *); omega) | exact h1 (by (try simp only [fa_le, fa_lt, fa_eq, va_up] at *); (try simp at *); omega) | exact h2 (by (try simp only [fa_le, fa_lt, fa_eq, va_up] at *); (try simp at *); omega) | exact h3 (by (try simp only [fa_le, fa_lt, fa_eq, va_up] at *); (try simp at *); omega) | exact h4 (by (try simp only [fa_le, fa_lt, fa_eq, va_up] at *); (try simp at *); omega) | exact h5 (by (try simp only [fa_le, fa_lt, fa_eq, va_up] at *); (try simp at *); omega) | exact h6 (by (try simp only [fa_le, fa_lt, fa_eq, va_up] at *); (try simp at *); omega) | exact h7 (by (try simp only [fa_le, fa_lt, fa_eq, va_up] at *); (try simp at *); omega) | exact h8 (by (try simp only [fa_le, fa_lt, fa_eq, va_up] at *); (try simp at *); omega) | exact h9 (by (try simp only [fa_le, fa_lt, fa_eq, va_up] at *); (try simp at *); omega) | exact h10 (by (try simp only [fa_le, fa_lt, fa_eq, va_up] at *); (try simp at *); omega) | exact h11 (by (try simp only [fa_le, fa_lt, fa_eq, va_up] at *); (try simp at *); omega) | exact h12 (by (try simp only [fa_le, fa_lt, fa_eq, va_up] at *); (try simp at *); omega) | exact h13 (by (try simp only [fa_le, fa_lt, fa_eq, va_up] at *); (try simp at *); omega) | (exfalso; (try simp only [fa_le, fa_lt, fa_eq, va_up] at *); (try simp at *); omega)
    · iterate 4 refine hX0 _ _ _ _ ?_
      first | exact h0 (by (try simp only [fa_le, fa_lt, fa_eq, va_up] at *); (try simp at *); omega) | exact h1 (by (try simp only [fa_le, fa_lt, fa_eq, va_up] at *); (try simp at *); omega) | exact h2 (by (try simp only [fa_le, fa_lt, fa_eq, va_up] at *); (try simp at *); omega) | exact h3 (by (try simp only [fa_le, fa_lt, fa_eq, va_up] at *); (try simp at *); omega) | exact h4 (by (try simp only [fa_le, fa_lt, fa_eq, va_up] at *); (try simp at *); omega) | exact h5 (by (try simp only [fa_le, fa_lt, fa_eq, va_up] at *); (try simp at *); omega) | exact h6 (by (try simp only [fa_le, fa_lt, fa_eq, va_up] at *); (try simp at *); omega) | exact h7 (by (try simp only [fa_le, fa_lt, fa_eq, va_up] at *); (try simp at *); omega) | exact h8 (by (try simp only [fa_le, fa_lt, fa_eq, va_up] at *); (try simp at *); omega) | exact h9 (by (try simp only [fa_le, fa_lt, fa_eq, va_up] at *); (try simp at *); omega) | exact h10 (by (try simp only [fa_le, fa_lt, fa_eq, va_up] at *); (try simp at *); omega) | exact h11 (by (try simp only [fa_le, fa_lt, fa_eq, va_up] at *); (try simp at *); omega) | exact h12 (by (try simp only [fa_le, fa_lt, fa_eq, va_up] at *); (try simp at *); omega) | exact h13 (by (try simp only [fa_le, fa_lt, fa_eq, va_up] at *); (try simp at *); omega) | (exfalso; (try simp only [fa_le, fa_lt, fa_eq, va_up] at *); (try simp at *); omega)
    · iterate 4 refine hX0 _ _ _ _ ?_
      first | exact h0 (by (try simp only [fa_le, fa_lt, fa_eq, va_up] at *); (try simp at *); omega) | exact h1 (by (try simp only [fa_le, fa_lt, fa_eq, va_up] at *); (try simp at *); omega) | exact h2 (by (try simp only [fa_le, fa_lt, fa_eq, va_up] at *); (try simp at *); omega) | exact h3 (by (try simp only [fa_le, fa_lt, fa_eq, va_up] at *); (try simp at *); omega) | exact h4 (by (try simp only [fa_le, fa_lt, fa_eq, va_up] at *); (try simp at *); omega) | exact h5 (by (try simp only [fa_le, fa_lt, fa_eq, va_up] at *); (try simp at *); omega) | exact h6 (by (try simp only [fa_le, fa_lt, fa_eq, va_up] at *); (try simp at *); omega) | exact h7 (by (try simp only [fa_le, fa_lt, fa_eq, va_up] at *); (try simp at *); omega) | exact h8 (by (try simp only [fa_le, fa_lt, fa_eq, va_up] at *); (try simp at *); omega) | exact h9 (by (try simp only [fa_le, fa_lt, fa_eq, va_up] at *); (try simp at *); omega) | exact h10 (by (try simp only [fa_le, fa_lt, fa_eq, va_up] at *); (try simp at *); omega) | exact h11 (by (try simp only [fa_le, fa_lt, fa_eq, va_up] at *); (try simp at *); omega) | exact h12 (by (try simp only [fa_le, fa_lt, fa_eq, va_up] at *); (try simp at *); omega) | exact h13 (by (try simp only [fa_le, fa_lt, fa_eq, va_up] at *); (try simp at *); omega) | (exfalso; (try simp only [fa_le, fa_lt, fa_eq, va_up] at *); (try simp at *); omega)
    · iterate 4 refine hX0 _ _ _ _ ?_
      first | exact h0 (by (try simp only [fa_le, fa_lt, fa_eq, va_up] at *); (try simp at *); omega) | exact h1 (by (try simp only [fa_le, fa_lt, fa_eq, va_up] at *); (try simp at *); omega) | exact h2 (by (try simp only [fa_le, fa_lt, fa_eq, va_up] at *); (try simp at *); omega) | exact h3 (by (try simp only [fa_le, fa_lt, fa_eq, va_up] at *); (try simp at *); omega) | exact h4 (by (try simp only [fa_le, fa_lt, fa_eq, va_up] at *); (try simp at *); omega) | exact h5 (by (try simp only [fa_le, fa_lt, fa_eq, va_up] at *); (try simp at *); omega) | exact h6 (by (try simp only [fa_le, fa_lt, fa_eq, va_up] at *); (try simp at *); omega) | exact h7 (by (try simp only [fa_le, fa_lt, fa_eq, va_up] at *); (try simp at *); omega) | exact h8 (by (try simp only [fa_le, fa_lt, fa_eq, va_up] at *); (try simp at *); omega) | exact h9 (by (try simp only [fa_le, fa_lt, fa_eq, va_up] at *); (try simp at *); omega) | exact h10 (by (try simp only [fa_le, fa_lt, fa_eq, va_up] at *); (try simp at *); omega) | exact h11 (by (try simp only [fa_le, fa_lt, fa_eq, va_up] at *); (try simp at *); omega) | exact h12 (by (try simp only [fa_le, fa_lt, fa_eq, va_up] at *); (try simp at *); omega) | exact h13 (by (try simp only [fa_le, fa_lt, fa_eq, va_up] at *); (try simp at *); omega) | (exfalso; (try simp only [fa_le, fa_lt, fa_eq, va_up] at *); (try simp at *); omega)
