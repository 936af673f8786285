/-! THE LAW, METHOD BY METHOD -/
theorem L_mill (x y : Int32) : zLaw 79 114 [.int x, .int y] := by
  intro s a w t b u c hI
  obtain ⟨i1, i2, i3, i4, i5, i6, i7, i8, i9, i10⟩ := hI
  refine x_mill (d := 9) (fun c1 => ?_) (fun c1 => ?_)
  · refine y_mill (d := 10) (fun c2 => ?_) (fun c2 => absurd c2 c1)
    exact ⟨_, rfl, rfl, _, _, _, _, _, _, _, rfl, ⟨i1.1, i1.2.1, rfl, i1.2.2.2⟩, i2, i3, i4, i5, i6, i7, i8, i9, i10⟩
  · refine y_mill (d := 10) (fun c2 => absurd c1 c2) (fun c2 => ?_)
    obtain ⟨e1, e2, e3, e4, e5, e6, e7⟩ := i3
    refine ⟨_, rfl, rfl, _, _, _, _, _, _, _, rfl, ⟨i1.1, i1.2.1, rfl, i1.2.2.2⟩, i2, ⟨e1, e2, ?_, e4, ?_, e6, e7⟩, i4, i5, i6, i7, i8, i9, i10⟩
    · show upd (a 4) _ y = upd (b 12) _ y
      rw [e3]
    · intro i hi
      show 0 ≤ (upd (a 4) x.toNatClampNeg y i).toInt ∧ (upd (a 4) x.toNatClampNeg y i).toInt ≤ 1000
      rw [upd_at]
      split
      · omega
      · exact e5 i hi
theorem L_demand (x y : Int32) : zLaw 80 115 [.int x, .int y] := by
  intro s a w t b u c hI
  obtain ⟨i1, i2, i3, i4, i5, i6, i7, i8, i9, i10⟩ := hI
  refine x_demand (d := 9) (fun c1 => ?_) (fun c1 => ?_)
  · refine y_demand (d := 10) (fun c2 => ?_) (fun c2 => absurd c2 c1)
    exact ⟨_, rfl, rfl, _, _, _, _, _, _, _, rfl, ⟨i1.1, i1.2.1, rfl, i1.2.2.2⟩, i2, i3, i4, i5, i6, i7, i8, i9, i10⟩
  · refine y_demand (d := 10) (fun c2 => absurd c1 c2) (fun c2 => ?_)
    obtain ⟨e1, e2, e3, e4, e5, e6, e7⟩ := i3
    refine ⟨_, rfl, rfl, _, _, _, _, _, _, _, rfl, ⟨i1.1, i1.2.1, rfl, i1.2.2.2⟩, i2, ⟨e1, e2, e3, ?_, e5, ?_, e7⟩, i4, i5, i6, i7, i8, i9, i10⟩
    · show upd (a 5) _ y = upd (b 13) _ y
      rw [e4]
    · intro i hi
      show 0 ≤ (upd (a 5) x.toNatClampNeg y i).toInt ∧ (upd (a 5) x.toNatClampNeg y i).toInt ≤ 10000
      rw [upd_at]
      split
      · omega
      · exact e6 i hi
theorem L_radio (x y z : Int32) : zLaw 96 147 [.int x, .int y, .int z] := by
  intro s a w t b u c hI
  obtain ⟨i1, i2, i3, i4, i5, i6, i7, i8, i9, i10⟩ := hI
  refine x_radio (d := 9) (fun c1 => ?_) (fun c1 => ?_)
  · refine y_radio (d := 10) (fun c2 => ?_) (fun c2 => absurd c2 c1)
    exact ⟨_, rfl, rfl, _, _, _, _, _, _, _, rfl, ⟨i1.1, i1.2.1, rfl, i1.2.2.2⟩, i2, i3, i4, i5, i6, i7, i8, i9, i10⟩
  · refine y_radio (d := 10) (fun c2 => absurd c1 c2) (fun c2 => ?_)
    obtain ⟨e1, e2, e3, e4, e5⟩ := i10
    exact ⟨_, rfl, rfl, _, _, _, _, _, _, _, rfl, ⟨i1.1, i1.2.1, rfl, i1.2.2.2⟩, i2, i3, i4, i5, i6, i7, i8, i9, ⟨rfl, rfl, rfl, e1.2.2.2⟩, e2, ⟨c1.1, c1.2.1, c1.2.2.1⟩, ⟨c1.2.2.2.1, c1.2.2.2.2⟩, e5⟩
theorem L_end (x : Int32) : zLaw 93 135 [.int x] := by
  intro s a w t b u c hI
  obtain ⟨i1, i2, i3, i4, i5, i6, i7, i8, i9, i10⟩ := hI
  have et := i7.1
  refine x_end (d := 10) (fun c1 => ?_) (fun c1 => ?_)
  · refine y_end (d := 11) (fun c2 => ?_) (fun c2 => absurd (by rw [et]; exact c2) c1)
    exact ⟨_, rfl, rfl, _, _, _, _, _, _, _, rfl, i1, i2, i3, i4, i5, i6, i7, i8, i9, i10⟩
  · refine y_end (d := 11) (fun c2 => absurd (by rw [← et]; exact c1) c2) (fun c2 => ?_)
    have h7 := i7.2.2.1
    exact ⟨_, rfl, rfl, _, _, _, _, _, _, _, rfl, i1, i2, i3, i4, i5, i6, ⟨rfl, c1.1, (show x.toInt ≤ 400 by omega), i7.2.2.2⟩, i8, i9, i10⟩
theorem L_planned (x y : Int32) : zLaw 83 120 [.int x, .int y] := by
  intro s a w t b u c hI
  have hI0 := hI
  obtain ⟨i1, i2, i3, i4, i5, i6, i7, i8, i9, i10⟩ := hI
  have hp : 0 ≤ (s 3).toInt ∧ (s 3).toInt ≤ 100 := by
    rcases i4 with ⟨e1, e2⟩ | ⟨e1, e2, e3, e4⟩
    · rw [e1]; decide
    · omega
  have hpm : (t 9).toInt = -1 ∨ (1 ≤ (t 9).toInt ∧ (t 9).toInt ≤ 100) := by
    rcases i4 with ⟨e1, e2⟩ | ⟨e1, e2, e3, e4⟩
    · rw [e2]; exact Or.inl rfl
    · rw [← e1]; exact Or.inr ⟨e2, e3⟩
  have key : (0 < (s 3).toInt ↔ 0 < (t 9).toInt) ∧ (0 < (s 3).toInt → s 3 = t 9 ∧ s 4 = (u 0).toInt32 ∧ ∀ i : Nat, (i : Int) < (s 3).toInt → a 9 i = b 14 i ∧ a 10 i = b 15 i) := by
    rcases i4 with ⟨e1, e2⟩ | ⟨e1, e2, e3, e4⟩
    · rw [e1, e2]; exact ⟨by decide, fun h => absurd h (by decide)⟩
    · rw [← e1]; exact ⟨Iff.rfl, fun _ => ⟨rfl, e4⟩⟩
  have fin : ∀ v v' : Int32, v = v' → zPost (some (.int v)) (some (.int v')) (HX s a w ++ HM (va_up t 0 0) b u c) := by
    intro v v' e
    subst e
    exact ⟨_, rfl, rfl, _, _, _, _, _, _, _, rfl, hI0⟩
  have eq3 : 0 < (s 3).toInt → (s 3).toInt = (t 9).toInt := fun h => by rw [(key.2 h).1]
  refine x_planned (d := 9) hp (fun c1 => ?_) (fun c1 => ?_) (fun c1 => ?_) (fun c1 => ?_) (fun c1 => ?_)
  all_goals refine y_planned (d := 10) hpm (fun c2 => ?_) (fun c2 => ?_) (fun c2 => ?_) (fun c2 => ?_) (fun c2 => ?_)
  all_goals first
    | exact fin _ _ rfl
    | exact fin _ _ (key.2 (by omega)).1
    | exact fin _ _ (key.2 (by omega)).2.1
    | exact fin _ _ ((key.2 (by omega)).2.2 _ (by rw [cl_int x (by omega)]; omega)).1
    | exact fin _ _ ((key.2 (by omega)).2.2 _ (by rw [cl_int x (by omega)]; omega)).2
    | (exfalso; have := key.1; omega)
