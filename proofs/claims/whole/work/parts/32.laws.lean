theorem L_person (x : Int32) : zLaw 87 126 [.int x] := by
  intro s a w t b u c hI
  obtain ⟨i1, i2, i3, i4, i5, i6, i7, i8, i9, i10⟩ := hI
  obtain ⟨⟨e1, e2, e3, e4⟩, ⟨f1, f2, f3, f4, f5, f6, f7, f8, f9, f10⟩, g1, g2, g3, g4, g5, g6, g7⟩ := i6
  have g1' : 0 ≤ (t 11).toInt ∧ (t 11).toInt ≤ 14 := by rw [← e1]; exact g1
  have et : (s 9).toInt = (t 11).toInt := by rw [e1]
  refine x_person (d := 9) g1 (fun c1 => ?_) (fun c1 => ?_) (fun c1 => ?_)
  · refine y_person (d := 10) g1' (fun c2 => ?_) (fun c2 => absurd c2.1 c1) (fun c2 => absurd c2.1 c1)
    exact ⟨_, rfl, rfl, _, _, _, _, _, _, _, rfl, ⟨i1.1, i1.2.1, rfl, i1.2.2.2⟩, i2, i3, i4, i5, ⟨⟨e1, e2, e3, e4⟩, ⟨f1, f2, f3, f4, f5, f6, f7, f8, f9, f10⟩, g1, g2, g3, g4, g5, g6, g7⟩, i7, i8, i9, i10⟩
  · refine y_person (d := 10) g1' (fun c2 => absurd c1.1 c2) (fun c2 => ?_) (fun c2 => by omega)
    exact ⟨_, rfl, rfl, _, _, _, _, _, _, _, rfl, ⟨i1.1, i1.2.1, rfl, i1.2.2.2⟩, i2, i3, i4, i5, ⟨⟨e1, e2, e3, e4⟩, ⟨f1, f2, f3, f4, f5, f6, f7, f8, f9, f10⟩, g1, g2, g3, g4, g5, g6, g7⟩, i7, i8, i9, i10⟩
  · refine y_person (d := 10) g1' (fun c2 => absurd c1.1 c2) (fun c2 => by omega) (fun c2 => ?_)
    have ep := p1_int (s 9) (by omega)
    refine ⟨_, rfl, by rw [e1], _, _, _, _, _, _, _, rfl, ⟨i1.1, i1.2.1, (show zcode (s 9 + 1 - 1) = zcode (t 11 + 1 - 1) by rw [e1]), i1.2.2.2⟩, i2, i3, i4, i5, ⟨⟨(show s 9 + 1 = t 11 + 1 by rw [e1]), e2, e3, e4⟩, ⟨(show upd (a 13) (s 9).toNatClampNeg x = upd (b 19) (t 11).toNatClampNeg x by rw [f1, e1]), f2, f3, f4, f5, f6, f7, f8, f9, f10⟩, (show 0 ≤ (s 9 + 1).toInt ∧ (s 9 + 1).toInt ≤ 14 by omega), g2, g3, g4, ?_, ?_, g7⟩, i7, i8, i9, i10⟩
    · intro i (hi : (i : Int) < (s 9 + 1).toInt)
      show 0 ≤ (upd (a 13) (s 9).toNatClampNeg x i).toInt ∧ (upd (a 13) (s 9).toNatClampNeg x i).toInt ≤ 255
      have hc := cl_int (s 9) g1.1
      rw [upd_at]
      split
      · exact c1.1
      · exact g5 i (by omega)
    · intro i hi
      have := g6 i hi
      show ((0 ≤ (a 14 i).toInt ∧ (a 14 i).toInt < (s 9 + 1).toInt) ∧ _)
      exact ⟨by omega, this.2⟩
theorem L_ill (x y z : Int32) : zLaw 88 127 [.int x, .int y, .int z] := by
  intro s a w t b u c hI
  obtain ⟨i1, i2, i3, i4, i5, i6, i7, i8, i9, i10⟩ := hI
  obtain ⟨⟨e1, e2, e3, e4⟩, ⟨f1, f2, f3, f4, f5, f6, f7, f8, f9, f10⟩, g1, g2, g3, g4, g5, g6, g7⟩ := i6
  have g1' : 0 ≤ (t 11).toInt ∧ (t 11).toInt ≤ 14 := by rw [← e1]; exact g1
  have g2' : 0 ≤ (t 12).toInt ∧ (t 12).toInt ≤ 30 := by rw [← e2]; exact g2
  have et : (s 9).toInt = (t 11).toInt := by rw [e1]
  have et2 : (s 10).toInt = (t 12).toInt := by rw [e2]
  have keep : ∀ v : Int32, Inv (va_up s 2 v) a w (va_up (va_up t 0 0) 1 v) b u := fun v => ⟨⟨i1.1, i1.2.1, rfl, i1.2.2.2⟩, i2, i3, i4, i5, ⟨⟨e1, e2, e3, e4⟩, ⟨f1, f2, f3, f4, f5, f6, f7, f8, f9, f10⟩, g1, g2, g3, g4, g5, g6, g7⟩, i7, i8, i9, i10⟩
  refine x_ill (d := 7) g1 g2 (fun c1 => ?_) (fun c1 => ?_) (fun c1 => ?_) (fun c1 => ?_)
  · refine y_ill (d := 9) g1' g2' (fun c2 => ?_) (fun c2 => by omega) (fun c2 => by omega) (fun c2 => by omega)
    exact ⟨_, rfl, rfl, _, _, _, _, _, _, _, rfl, keep _⟩
  · refine y_ill (d := 9) g1' g2' (fun c2 => by omega) (fun c2 => ?_) (fun c2 => by omega) (fun c2 => by omega)
    exact ⟨_, rfl, rfl, _, _, _, _, _, _, _, rfl, keep _⟩
  · refine y_ill (d := 9) g1' g2' (fun c2 => by omega) (fun c2 => by omega) (fun c2 => ?_) (fun c2 => by omega)
    exact ⟨_, rfl, rfl, _, _, _, _, _, _, _, rfl, keep _⟩
  · refine y_ill (d := 9) g1' g2' (fun c2 => by omega) (fun c2 => by omega) (fun c2 => by omega) (fun c2 => ?_)
    have ep := p1_int (s 10) (by omega)
    have hc := cl_int (s 10) g2.1
    refine ⟨_, rfl, by rw [e2], _, _, _, _, _, _, _, rfl, ⟨i1.1, i1.2.1, (show zcode (s 10 + 1) = zcode (t 12 + 1) by rw [e2]), i1.2.2.2⟩, i2, i3, i4, i5, ⟨⟨e1, (show s 10 + 1 = t 12 + 1 by rw [e2]), e3, e4⟩, ⟨f1, (show upd (a 14) (s 10).toNatClampNeg x = upd (b 20) (t 12).toNatClampNeg x by rw [f2, e2]), (show upd (a 15) (s 10).toNatClampNeg y = upd (b 21) (t 12).toNatClampNeg y by rw [f3, e2]), (show upd (a 16) (s 10).toNatClampNeg z = upd (b 22) (t 12).toNatClampNeg z by rw [f4, e2]), f5, f6, f7, f8, f9, f10⟩, g1, (show 0 ≤ (s 10 + 1).toInt ∧ (s 10 + 1).toInt ≤ 30 by omega), g3, g4, g5, ?_, g7⟩, i7, i8, i9, i10⟩
    intro i (hi : (i : Int) < (s 10 + 1).toInt)
    show (0 ≤ (upd (a 14) (s 10).toNatClampNeg x i).toInt ∧ (upd (a 14) (s 10).toNatClampNeg x i).toInt < (s 9).toInt) ∧ 0 ≤ (upd (a 15) (s 10).toNatClampNeg y i).toInt ∧ (upd (a 15) (s 10).toNatClampNeg y i).toInt ≤ (upd (a 16) (s 10).toNatClampNeg z i).toInt ∧ (upd (a 16) (s 10).toNatClampNeg z i).toInt ≤ 2399
    simp only [upd_at]
    by_cases hk : i = (s 10).toNatClampNeg
    · simp only [if_pos hk]
      omega
    · simp only [if_neg hk]
      exact g6 i (by omega)
theorem L_work (x y z v : Int32) : zLaw 89 128 [.int x, .int y, .int z, .int v] := by
  intro s a w t b u c hI
  obtain ⟨i1, i2, i3, i4, i5, i6, i7, i8, i9, i10⟩ := hI
  obtain ⟨⟨e1, e2, e3, e4⟩, ⟨f1, f2, f3, f4, f5, f6, f7, f8, f9, f10⟩, g1, g2, g3, g4, g5, g6, g7⟩ := i6
  have g3' : 0 ≤ (t 13).toInt ∧ (t 13).toInt ≤ 30 := by rw [← e3]; exact g3
  have et : (s 11).toInt = (t 13).toInt := by rw [e3]
  have keep : ∀ v : Int32, Inv (va_up s 2 v) a w (va_up (va_up t 0 0) 1 v) b u := fun v => ⟨⟨i1.1, i1.2.1, rfl, i1.2.2.2⟩, i2, i3, i4, i5, ⟨⟨e1, e2, e3, e4⟩, ⟨f1, f2, f3, f4, f5, f6, f7, f8, f9, f10⟩, g1, g2, g3, g4, g5, g6, g7⟩, i7, i8, i9, i10⟩
  refine x_work (d := 9) g3 (fun c1 => ?_) (fun c1 => ?_) (fun c1 => ?_)
  · refine y_work (d := 10) g3' (fun c2 => ?_) (fun c2 => absurd c2.1 c1) (fun c2 => absurd c2.1 c1)
    exact ⟨_, rfl, rfl, _, _, _, _, _, _, _, rfl, keep _⟩
  · refine y_work (d := 10) g3' (fun c2 => absurd c1.1 c2) (fun c2 => ?_) (fun c2 => by omega)
    exact ⟨_, rfl, rfl, _, _, _, _, _, _, _, rfl, keep _⟩
  · refine y_work (d := 10) g3' (fun c2 => absurd c1.1 c2) (fun c2 => by omega) (fun c2 => ?_)
    have ep := p1_int (s 11) (by omega)
    have hc := cl_int (s 11) g3.1
    refine ⟨_, rfl, by rw [e3], _, _, _, _, _, _, _, rfl, ⟨i1.1, i1.2.1, (show zcode (s 11 + 1 - 1) = zcode (t 13 + 1 - 1) by rw [e3]), i1.2.2.2⟩, i2, i3, i4, i5, ⟨⟨e1, e2, (show s 11 + 1 = t 13 + 1 by rw [e3]), e4⟩, ⟨f1, f2, f3, f4, (show upd (a 17) (s 11).toNatClampNeg x = upd (b 23) (t 13).toNatClampNeg x by rw [f5, e3]), (show upd (a 18) (s 11).toNatClampNeg y = upd (b 24) (t 13).toNatClampNeg y by rw [f6, e3]), (show upd (a 19) (s 11).toNatClampNeg z = upd (b 25) (t 13).toNatClampNeg z by rw [f7, e3]), (show upd (a 20) (s 11).toNatClampNeg v = upd (b 26) (t 13).toNatClampNeg v by rw [f8, e3]), f9, f10⟩, g1, g2, (show 0 ≤ (s 11 + 1).toInt ∧ (s 11 + 1).toInt ≤ 30 by omega), (show 0 ≤ (s 12).toInt ∧ (s 12).toInt ≤ (s 11 + 1).toInt by omega), g5, g6, ?_⟩, i7, i8, i9, i10⟩
    intro i (hi : (i : Int) < (s 11 + 1).toInt)
    show (1 ≤ (upd (a 17) (s 11).toNatClampNeg x i).toInt ∧ (upd (a 17) (s 11).toNatClampNeg x i).toInt ≤ 24) ∧ (1 ≤ (upd (a 18) (s 11).toNatClampNeg y i).toInt ∧ (upd (a 18) (s 11).toNatClampNeg y i).toInt ≤ 4) ∧ (0 ≤ (upd (a 19) (s 11).toNatClampNeg z i).toInt ∧ (upd (a 19) (s 11).toNatClampNeg z i).toInt ≤ 255) ∧ (0 ≤ (upd (a 20) (s 11).toNatClampNeg v i).toInt ∧ (upd (a 20) (s 11).toNatClampNeg v i).toInt ≤ 3)
    simp only [upd_at]
    by_cases hk : i = (s 11).toNatClampNeg
    · simp only [if_pos hk]
      omega
    · simp only [if_neg hk]
      exact g7 i (by omega)
theorem L_begins (x y : Int32) : zLaw 91 132 [.int x, .int y] := by
  intro s a w t b u c hI
  have hI0 := hI
  obtain ⟨i1, i2, i3, i4, i5, i6, i7, i8, i9, i10⟩ := hI
  obtain ⟨⟨e1, e2, e3, e4⟩, ⟨f1, f2, f3, f4, f5, f6, f7, f8, f9, f10⟩, g1, g2, g3, g4, g5, g6, g7⟩ := i6
  have hp : 0 ≤ (s 12).toInt ∧ (s 12).toInt ≤ 30 := by omega
  have hp' : 0 ≤ (t 14).toInt ∧ (t 14).toInt ≤ 30 := by rw [← e4]; exact hp
  have et : (s 12).toInt = (t 14).toInt := by rw [e4]
  have fin : ∀ v v' : Int32, v = v' → zPost (some (.int v)) (some (.int v')) (HX s a w ++ HM (va_up t 0 0) b u c) := by
    intro v v' e
    subst e
    exact ⟨_, rfl, rfl, _, _, _, _, _, _, _, rfl, hI0⟩
  refine x_begins (d := 9) hp (fun c1 => ?_) (fun c1 => ?_) (fun c1 => ?_)
  all_goals refine y_begins (d := 10) hp' (fun c2 => ?_) (fun c2 => ?_) (fun c2 => ?_)
  all_goals first
    | exact fin _ _ rfl
    | (exfalso; omega)
    | exact fin _ _ (congrFun f9 _)
    | exact fin _ _ (congrFun f10 _)
