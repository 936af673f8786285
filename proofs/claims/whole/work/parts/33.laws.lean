theorem nI_ne {i j : Nat} (hi : i < 2 ^ 31) (hj : j < 2 ^ 31) (h : i ≠ j) : nI i ≠ nI j := fun e => h ((nI_eq hi hj).mp e)
theorem L_fail (x y : Int32) : zLaw 98 149 [.int x, .int y] := by
  intro s a w t b u c hI
  obtain ⟨i1, i2, i3, i4, i5, i6, i7, i8, i9, i10⟩ := hI
  obtain ⟨⟨e1, e2, e3, e4, e5, e6⟩, ⟨f1, f2, f3, f4, f5, f6, f7⟩, g1, g2, g3, g4, g5, g6⟩ := i10
  have g4' : 0 ≤ (t 31).toInt ∧ (t 31).toInt ≤ 60 := by rw [← e5]; exact g4
  have et : (s 21).toInt = (t 31).toInt := by rw [e5]
  have keep : ∀ v : Int32, Inv (va_up s 2 v) a w (va_up (va_up t 0 0) 1 v) b u := fun v => ⟨⟨i1.1, i1.2.1, rfl, i1.2.2.2⟩, i2, i3, i4, i5, i6, i7, i8, i9, ⟨⟨e1, e2, e3, e4, e5, e6⟩, ⟨f1, f2, f3, f4, f5, f6, f7⟩, g1, g2, g3, g4, g5, g6⟩⟩
  refine x_fail (d := 8) g4 (fun c1 => ?_) (fun c1 => ?_) (fun c1 => ?_)
  · refine y_fail (d := 9) g4' (fun c2 => ?_) (fun c2 => absurd c2.1 c1) (fun c2 => absurd c2.1 c1)
    exact ⟨_, rfl, rfl, _, _, _, _, _, _, _, rfl, keep _⟩
  · refine y_fail (d := 9) g4' (fun c2 => absurd c1.1 c2) (fun c2 => ?_) (fun c2 => by omega)
    exact ⟨_, rfl, rfl, _, _, _, _, _, _, _, rfl, keep _⟩
  · refine y_fail (d := 9) g4' (fun c2 => absurd c1.1 c2) (fun c2 => by omega) (fun c2 => ?_)
    have ep := p1_int (s 21) (by omega)
    have hc := cl_int (s 21) g4.1
    refine ⟨_, rfl, by rw [e5], _, _, _, _, _, _, _, rfl, ⟨i1.1, i1.2.1, (show zcode (s 21 + 1) = zcode (t 31 + 1) by rw [e5]), i1.2.2.2⟩, i2, i3, i4, i5, i6, i7, i8, i9, ⟨⟨e1, e2, e3, e4, (show s 21 + 1 = t 31 + 1 by rw [e5]), e6⟩, ⟨f1, f2, f3, f4, f5, (show upd (a 32) (s 21).toNatClampNeg x = upd (b 43) (t 31).toNatClampNeg x by rw [f6, e5]), (show upd (a 33) (s 21).toNatClampNeg y = upd (b 44) (t 31).toNatClampNeg y by rw [f7, e5])⟩, g1, g2, g3, (show 0 ≤ (s 21 + 1).toInt ∧ (s 21 + 1).toInt ≤ 60 by omega), ?_, g6⟩⟩
    intro i (hi : (i : Int) < (s 21 + 1).toInt)
    show (0 ≤ (upd (a 32) (s 21).toNatClampNeg x i).toInt ∧ (upd (a 32) (s 21).toNatClampNeg x i).toInt ≤ 2399) ∧ 0 ≤ (upd (a 33) (s 21).toNatClampNeg y i).toInt ∧ (upd (a 33) (s 21).toNatClampNeg y i).toInt ≤ 100000
    simp only [upd_at]
    by_cases hk : i = (s 21).toNatClampNeg
    · simp only [if_pos hk]
      omega
    · simp only [if_neg hk]
      exact g5 i (by omega)
theorem L_sent (x y : Int32) : zLaw 100 153 [.int x, .int y] := by
  intro s a w t b u c hI
  have hI0 := hI
  obtain ⟨i1, i2, i3, i4, i5, i6, i7, i8, i9, i10⟩ := hI
  obtain ⟨⟨e1, e2, e3, e4, e5, e6⟩, ⟨f1, f2, f3, f4, f5, f6, f7⟩, g1, g2, g3, g4, g5, g6⟩ := i10
  have g3' : 0 ≤ (t 29).toInt ∧ (t 29).toInt ≤ 100 := by rw [← e4]; exact g3
  have et : (s 20).toInt = (t 29).toInt := by rw [e4]
  have fin : ∀ v v' : Int32, v = v' → zPost (some (.int v)) (some (.int v')) (HX s a w ++ HM (va_up t 0 0) b u c) := by
    intro v v' e
    subst e
    exact ⟨_, rfl, rfl, _, _, _, _, _, _, _, rfl, hI0⟩
  refine x_sent (d := 8) g3 (fun c1 => ?_) (fun c1 => ?_) (fun c1 => ?_) (fun c1 => ?_)
  all_goals refine y_sent (d := 10) g3' (fun c2 => ?_) (fun c2 => ?_) (fun c2 => ?_) (fun c2 => ?_)
  all_goals first
    | exact fin _ _ rfl
    | (exfalso; omega)
    | exact fin _ _ (congrFun f3 _)
    | exact fin _ _ (congrFun f4 _)
    | exact fin _ _ (congrFun f5 _)
theorem L_message (x y : Int32) : zLaw 97 148 [.int x, .int y] := by
  intro s a w t b u c hI
  obtain ⟨i1, i2, i3, i4, i5, i6, i7, i8, i9, i10⟩ := hI
  have i10' := i10
  obtain ⟨⟨e1, e2, e3, e4, e5, e6⟩, ⟨f1, f2, f3, f4, f5, f6, f7⟩, g1, g2, g3, g4, g5, g6, g7, g8, G, gG, gL, gM, gR⟩ := i10
  have g3' : 0 ≤ (t 29).toInt ∧ (t 29).toInt ≤ 100 := by rw [← e4]; exact g3
  have et : (s 20).toInt = (t 29).toInt := by rw [e4]
  have keep : ∀ v : Int32, Inv (va_up s 2 v) a w (va_up (va_up t 0 0) 1 v) b u := fun v => ⟨⟨i1.1, i1.2.1, rfl, i1.2.2.2⟩, i2, i3, i4, i5, i6, i7, i8, i9, i10'⟩
  refine x_message (d := 9) g3 (fun c1 => ?_) (fun c1 => ?_) (fun c1 => ?_)
  · refine y_message (d := 10) g3' (fun c2 => ?_) (fun c2 => absurd c2.1 c1) (fun c2 => absurd c2.1 c1)
    exact ⟨_, rfl, rfl, _, _, _, _, _, _, _, rfl, keep _⟩
  · refine y_message (d := 10) g3' (fun c2 => absurd c1.1 c2) (fun c2 => ?_) (fun c2 => by omega)
    exact ⟨_, rfl, rfl, _, _, _, _, _, _, _, rfl, keep _⟩
  · refine y_message (d := 10) g3' (fun c2 => absurd c1.1 c2) (fun c2 => by omega) (fun c2 => ?_)
    have ep := p1_int (s 20) (by omega)
    have hc := cl_int (s 20) g3.1
    have eM : s 20 = nI (s 20).toNatClampNeg := by
      rw [← Int32.toInt_inj, nI_toInt (by omega)]
      exact hc.symm
    have hc1 := cl_int (s 20 + 1) (by omega)
    have eF : zfin (a 28) (a 26) (s 20).toNatClampNeg ≤ zfin (a 28) (upd (a 26) (s 20).toNatClampNeg x) (s 20 + 1).toNatClampNeg := by
      rw [show (s 20 + 1).toNatClampNeg = (s 20).toNatClampNeg + 1 by omega]
      have ec : zfin (a 28) (upd (a 26) (s 20).toNatClampNeg x) (s 20).toNatClampNeg = zfin (a 28) (a 26) (s 20).toNatClampNeg := zfin_c _ (fun i hi => ⟨rfl, by rw [upd_at, if_neg (by omega)]⟩)
      show _ ≤ zfin (a 28) (upd (a 26) (s 20).toNatClampNeg x) (s 20).toNatClampNeg + _
      omega
    refine ⟨_, rfl, by rw [e4], _, _, _, _, _, _, _, rfl, ⟨i1.1, i1.2.1, (show zcode (s 20 + 1 - 1) = zcode (t 29 + 1 - 1) by rw [e4]), i1.2.2.2⟩, i2, i3, i4, i5, i6, i7, i8, i9, ⟨⟨e1, e2, e3, (show s 20 + 1 = t 29 + 1 by rw [e4]), e5, e6⟩, ⟨(show upd (a 26) (s 20).toNatClampNeg x = upd (b 36) (t 29).toNatClampNeg x by rw [f1, e4]), (show upd (a 27) (s 20).toNatClampNeg y = upd (b 37) (t 29).toNatClampNeg y by rw [f2, e4]), f3, (show upd (a 29) (s 20).toNatClampNeg (-1) = upd (b 39) (t 29).toNatClampNeg (-1) by rw [f4, e4]), (show upd (a 30) (s 20).toNatClampNeg (-1) = upd (b 40) (t 29).toNatClampNeg (-1) by rw [f5, e4]), f6, f7⟩, g1, g2, (show 0 ≤ (s 20 + 1).toInt ∧ (s 20 + 1).toInt ≤ 100 by omega), g4, g5, ?_, ?_, ?_, G, gG, (show (G : Int) ≤ (s 0).toInt + (zfin (a 28) (upd (a 26) (s 20).toNatClampNeg x) (s 20 + 1).toNatClampNeg : Int) by omega), ?_, ?_⟩⟩
    · intro m (hm : (m : Int) < (s 20 + 1).toInt)
      show (1 ≤ (upd (a 26) (s 20).toNatClampNeg x m).toInt ∧ (upd (a 26) (s 20).toNatClampNeg x m).toInt ≤ 10000) ∧ (0 ≤ (upd (a 27) (s 20).toNatClampNeg y m).toInt ∧ (upd (a 27) (s 20).toNatClampNeg y m).toInt ≤ 3) ∧ (0 ≤ (a 28 m).toInt ∧ (a 28 m).toInt ≤ (upd (a 26) (s 20).toNatClampNeg x m).toInt) ∧ ((a 28 m).toInt < (upd (a 26) (s 20).toNatClampNeg x m).toInt → upd (a 30) (s 20).toNatClampNeg (-1) m = -1) ∧ (upd (a 30) (s 20).toNatClampNeg (-1) m).toInt < (s 0).toInt
      simp only [upd_at]
      by_cases hk : m = (s 20).toNatClampNeg
      · simp only [if_pos hk]
        have h0 : a 28 m = 0 := g7 m (by omega) (by omega)
        rw [h0]
        have hn := i1.2.2.2.1
        have hz : (-1 : Int32).toInt = -1 := rfl
        have hz0 : (0 : Int32).toInt = 0 := rfl
        exact ⟨by omega, by omega, by omega, fun _ => trivial, by omega⟩
      · simp only [if_neg hk]
        exact g6 m (by omega)
    · intro m (hm : (s 20 + 1).toInt ≤ (m : Int)) h1
      exact g7 m (by omega) h1
    · intro h hh
      have := g8 h hh
      show 0 ≤ (a 31 h).toInt ∧ (a 31 h).toInt ≤ (s 20 + 1).toInt ∧ _
      exact ⟨this.1, by omega, this.2.2⟩
    · intro g hg
      have := gM g hg
      show ((0 ≤ (b 41 g).toInt ∧ (b 41 g).toInt < (s 20 + 1).toInt) ∧ _)
      exact ⟨by omega, this.2⟩
    · intro m h (hm : (m : Int) < (s 20 + 1).toInt) hh
      show (∃ g, g < G ∧ b 41 g = nI m ∧ b 42 g = nI h) ↔ (a 31 h = nI (m + 1) ∨ upd (a 30) (s 20).toNatClampNeg (-1) m = nI h)
      rw [upd_at]
      by_cases hk : m = (s 20).toNatClampNeg
      · rw [if_pos hk]
        have hh2 : (h : Int) < (s 0).toInt := hh
        have h8 := g8 h (by have := i1.2.2.2.2; omega)
        constructor
        · rintro ⟨g, q1, q2, q3⟩
          have := (gM g q1).1
          rw [q2, nI_toInt (by omega)] at this
          omega
        · rintro (q | q)
          · have : (a 31 h).toInt = ((m + 1 : Nat) : Int) := by rw [q, nI_toInt (by omega)]
            omega
          · have q' := congrArg Int32.toInt q
            rw [nI_toInt (by have := i1.2.2.2.2; omega)] at q'
            simp at q'
      · rw [if_neg hk]
        exact gR m h (by omega) hh
