theorem x_setMill {d : Nat} {s : Nat → Int32} {a : Nat → Nat → Int32} {w : Bool} {Z : zH} {x y : Int32} {Q : zQ} (h0 : ¬ (0 ≤ x.toInt ∧ x.toInt ≤ 60 ∧ 0 ≤ y.toInt ∧ y.toInt ≤ 1000) → Q (some (.int (-1))) (HX s a w ++ Z)) (h1 : (0 ≤ x.toInt ∧ x.toInt ≤ 60 ∧ 0 ≤ y.toInt ∧ y.toInt ≤ 1000) → Q (some (.int 0)) (HX s (va_up a 4 (upd (a 4) x.toNatClampNeg y)) w ++ Z)) : zG (d + 2) 18 [.ref 3, .int x, .int y] (HX s a w ++ Z) Q := by
  refine g_18 (Nat.le_of_ble_eq_true rfl) ?_
  intro X hX
  iterate 4 refine hX _ _ _ _ ?_
  refine r_within 0 60 rfl rfl (fun c1 => ?_) (fun c1 => ?_)
  · iterate 1 refine hX _ _ _ _ ?_
    refine And.intro (fun c => absurd c (by decide)) (fun _ => ?_)
    iterate 4 refine hX _ _ _ _ ?_
    refine r_within 0 1000 rfl rfl (fun c2 => ?_) (fun c2 => ?_)
    · iterate 1 refine hX _ _ _ _ ?_
      refine And.intro (fun _ => ?_) (fun c => absurd c (by decide))
      iterate 5 refine hX _ _ _ _ ?_
      refine And.intro (by rw [vp_in_iff]; omega) ?_
      show X _ _ _ (HX s (va_up a 4 _) w ++ Z)
      iterate 2 refine hX _ _ _ _ ?_
      first | exact h0 (by omega) | exact h1 (by omega)
    · iterate 1 refine hX _ _ _ _ ?_
      refine And.intro (fun c => absurd c (by decide)) (fun _ => ?_)
      iterate 2 refine hX _ _ _ _ ?_
      first | exact h0 (by omega) | exact h1 (by omega)
  · iterate 1 refine hX _ _ _ _ ?_
    refine And.intro (fun _ => ?_) (fun c => absurd c (by decide))
    iterate 2 refine hX _ _ _ _ ?_
    first | exact h0 (by omega) | exact h1 (by omega)
