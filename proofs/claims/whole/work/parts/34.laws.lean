theorem mul12 (x : Int32) : x * 12 = 12 * x := Int32.mul_comm _ _
theorem L_box (x y : Int32) : zLaw 84 122 [.int x, .int y] := by
  intro s a w t b u c hI
  obtain ⟨i1, i2, i3, i4, i5, i6, i7, i8, i9, i10⟩ := hI
  have i5' := i5
  obtain ⟨e1, e2, e3, e4, e5⟩ := i5
  have e4' : ∀ j, j < 6 → 0 ≤ (b 18 j).toInt ∧ (b 18 j).toInt ≤ 12 := by rw [← e2]; exact e4
  have keep : ∀ v : Int32, Inv (va_up s 2 v) a w (va_up (va_up t 0 0) 1 v) b u := fun v => ⟨⟨i1.1, i1.2.1, rfl, i1.2.2.2⟩, i2, i3, i4, i5', i6, i7, i8, i9, i10⟩
  have ee : (a 12 x.toNatClampNeg).toInt = (b 18 x.toNatClampNeg).toInt := by rw [e2]
  refine x_box (d := 8) e4 (fun c1 => ?_) (fun c1 => ?_) (fun c1 => ?_) (fun c1 => ?_)
  · refine y_box (d := 9) e4' (fun c2 => ?_) (fun c2 => by omega) (fun c2 => by omega) (fun c2 => by omega)
    exact ⟨_, rfl, rfl, _, _, _, _, _, _, _, rfl, keep _⟩
  · refine y_box (d := 9) e4' (fun c2 => by omega) (fun c2 => ?_) (fun c2 => by omega) (fun c2 => by omega)
    exact ⟨_, rfl, rfl, _, _, _, _, _, _, _, rfl, keep _⟩
  · refine y_box (d := 9) e4' (fun c2 => by omega) (fun c2 => by omega) (fun c2 => ?_) (fun c2 => by omega)
    exact ⟨_, rfl, rfl, _, _, _, _, _, _, _, rfl, keep _⟩
  · refine y_box (d := 9) e4' (fun c2 => by omega) (fun c2 => by omega) (fun c2 => by omega) (fun c2 => ?_)
    have hc := cl_int x c1.1.2.1
    have hx6 : x.toNatClampNeg < 6 := by omega
    have h4 := e4 _ hx6
    have ep := p1_int (a 12 x.toNatClampNeg) (by omega)
    have q0 := e4 0 (by omega); have q1 := e4 1 (by omega); have q2 := e4 2 (by omega); have q3 := e4 3 (by omega); have q4 := e4 4 (by omega); have q5 := e4 5 (by omega)
    have eb := p1_int (s 7) (by omega)
    refine ⟨_, rfl, by rw [e2], _, _, _, _, _, _, _, rfl, ⟨i1.1, i1.2.1, (show zcode (a 12 x.toNatClampNeg + 1) = zcode (b 18 x.toNatClampNeg + 1) by rw [e2]), i1.2.2.2⟩, i2, i3, i4, ⟨(show upd (a 11) (x * 12 + a 12 x.toNatClampNeg).toNatClampNeg y = upd (b 17) (12 * x + b 18 x.toNatClampNeg).toNatClampNeg y by rw [e1, e2, mul12]), (show upd (a 12) x.toNatClampNeg (a 12 x.toNatClampNeg + 1) = upd (b 18) x.toNatClampNeg (b 18 x.toNatClampNeg + 1) by rw [e2]), e3, ?_, ?_⟩, i6, i7, i8, i9, i10⟩
    · intro j hj
      show 0 ≤ (upd (a 12) x.toNatClampNeg (a 12 x.toNatClampNeg + 1) j).toInt ∧ (upd (a 12) x.toNatClampNeg (a 12 x.toNatClampNeg + 1) j).toInt ≤ 12
      rw [upd_at]
      split
      · omega
      · exact e4 j hj
    · show (s 7 + 1).toInt = (upd (a 12) x.toNatClampNeg (a 12 x.toNatClampNeg + 1) 0).toInt + (upd (a 12) x.toNatClampNeg (a 12 x.toNatClampNeg + 1) 1).toInt + (upd (a 12) x.toNatClampNeg (a 12 x.toNatClampNeg + 1) 2).toInt + (upd (a 12) x.toNatClampNeg (a 12 x.toNatClampNeg + 1) 3).toInt + (upd (a 12) x.toNatClampNeg (a 12 x.toNatClampNeg + 1) 4).toInt + (upd (a 12) x.toNatClampNeg (a 12 x.toNatClampNeg + 1) 5).toInt
      simp only [upd_at]
      generalize x.toNatClampNeg = k at *
      rw [eb, e5]
      rcases (by omega : k = 0 ∨ k = 1 ∨ k = 2 ∨ k = 3 ∨ k = 4 ∨ k = 5) with rfl | rfl | rfl | rfl | rfl | rfl <;> simp [-Int32.toInt_add] <;> omega
theorem L_stack (x y : Int32) : zLaw 86 125 [.int x, .int y] := by
  intro s a w t b u c hI
  have hI0 := hI
  obtain ⟨i1, i2, i3, i4, i5, i6, i7, i8, i9, i10⟩ := hI
  obtain ⟨e1, e2, e3, e4, e5⟩ := i5
  have e4' : ∀ j, j < 6 → 0 ≤ (b 18 j).toInt ∧ (b 18 j).toInt ≤ 12 := by rw [← e2]; exact e4
  have ee : (a 12 x.toNatClampNeg).toInt = (b 18 x.toNatClampNeg).toInt := by rw [e2]
  have fin : ∀ v v' : Int32, v = v' → zPost (some (.int v)) (some (.int v')) (HX s a w ++ HM (va_up t 0 0) b u c) := by
    intro v v' e
    subst e
    exact ⟨_, rfl, rfl, _, _, _, _, _, _, _, rfl, hI0⟩
  have em : a 11 (x * 12 + y).toNatClampNeg = b 17 (12 * x + y).toNatClampNeg := by rw [e1, mul12]
  refine x_stack (d := 8) e4 (fun c1 => ?_) (fun c1 => ?_) (fun c1 => ?_)
  all_goals refine y_stack (d := 9) e4' (fun c2 => ?_) (fun c2 => ?_) (fun c2 => ?_)
  all_goals first
    | exact fin _ _ rfl
    | (exfalso; omega)
    | exact fin _ _ (congrFun e2 _)
    | exact fin _ _ em
