theorem L_take (kind : Int32) : zLaw 85 124 [.int kind] := by
  intro s a w t b u c hI
  obtain ⟨i1, i2, i3, i4, i5, i6, i7, i8, i9, i10⟩ := hI
  have i5' := i5
  obtain ⟨e1, e2, e3, e4, e5⟩ := i5
  have e4' : ∀ j, j < 6 → 0 ≤ (b 18 j).toInt ∧ (b 18 j).toInt ≤ 12 := by rw [← e2]; exact e4
  have keep : ∀ v : Int32, Inv (va_up s 2 v) a w (va_up (va_up t 0 0) 1 v) b u := fun v => ⟨⟨i1.1, i1.2.1, rfl, i1.2.2.2⟩, i2, i3, i4, i5', i6, i7, i8, i9, i10⟩
  have eA : zabs (a 11) (a 12) kind = zabs (b 17) (b 18) kind := by rw [e1, e2]
  refine x_take (d := 9) e4 (fun c1 => ?_) (fun c1 c2 => ?_) (fun j c1 c2 => ?_)
  · refine y_take (d := 10) e4' (fun d1 => ?_) (fun d1 => absurd d1 c1) (fun k d1 => absurd d1 c1)
    exact ⟨_, rfl, rfl, _, _, _, _, _, _, _, rfl, keep _⟩
  · refine y_take (d := 10) e4' (fun d1 => absurd c1 d1) (fun d1 d2 => ?_) (fun k d1 d2 => ?_)
    · exact ⟨_, rfl, rfl, _, _, _, _, _, _, _, rfl, keep _⟩
    · rw [eA, d2] at c2
      cases c2
  · refine y_take (d := 10) e4' (fun d1 => absurd c1 d1) (fun d1 d2 => ?_) (fun k d1 d2 => ?_)
    · rw [eA, d2] at c2
      cases c2
    · have ejk : j = k := by
        rw [eA, d2] at c2
        cases c2
        rfl
      subst ejk
      obtain ⟨hj, hf, h12⟩ := (zbest_p (zabs (a 11) (a 12) kind) 6).2.2 j c2
      have hlt : zabs (a 11) (a 12) kind j < (a 12 j).toNatClampNeg := by
        rcases zfa_lt (a 11) (j * 12 + (a 12 j).toNatClampNeg - 1) kind (a 12 j).toNatClampNeg 0 with h7 | h7
        · exact absurd (show zabs (a 11) (a 12) kind j = 12 from h7) (by omega)
        · exact h7.1
      have h4 := e4 j hj
      have hc := cl_int (a 12 j) h4.1
      have hN : (nI ((a 12 j).toNatClampNeg - 1)).toInt = (((a 12 j).toNatClampNeg - 1 : Nat) : Int) := nI_toInt (by omega)
      have q0 := e4 0 (by omega); have q1 := e4 1 (by omega); have q2 := e4 2 (by omega); have q3 := e4 3 (by omega); have q4 := e4 4 (by omega); have q5 := e4 5 (by omega)
      have eb : (s 7 - 1).toInt = (s 7).toInt - 1 := i32_sub (by simp; omega)
      refine ⟨_, rfl, rfl, _, _, _, _, _, _, _, rfl, ⟨i1.1, i1.2.1, (rfl : zcode (nI j) = zcode (nI j)), i1.2.2.2⟩, i2, i3, i4, ⟨?_, ?_, ?_, ?_, ?_⟩, i6, i7, i8, i9, i10⟩
      · show zsh (a 11) (j * 12 + ((a 12 j).toNatClampNeg - 1 - zabs (a 11) (a 12) kind j)) (zabs (a 11) (a 12) kind j) = zsh (b 17) (j * 12 + ((b 18 j).toNatClampNeg - 1 - zabs (b 17) (b 18) kind j)) (zabs (b 17) (b 18) kind j)
        rw [e1, e2]
      · show upd (a 12) j (nI ((a 12 j).toNatClampNeg - 1)) = upd (b 18) j (nI ((b 18 j).toNatClampNeg - 1))
        rw [e2]
      · show s 8 + nI (zabs (a 11) (a 12) kind j) = t 10 + nI (zabs (b 17) (b 18) kind j)
        rw [e1, e2, e3]
      · intro i hi
        show 0 ≤ (upd (a 12) j (nI ((a 12 j).toNatClampNeg - 1)) i).toInt ∧ (upd (a 12) j (nI ((a 12 j).toNatClampNeg - 1)) i).toInt ≤ 12
        rw [upd_at]
        split
        · rw [hN]
          omega
        · exact e4 i hi
      · show (s 7 - 1).toInt = (upd (a 12) j (nI ((a 12 j).toNatClampNeg - 1)) 0).toInt + (upd (a 12) j (nI ((a 12 j).toNatClampNeg - 1)) 1).toInt + (upd (a 12) j (nI ((a 12 j).toNatClampNeg - 1)) 2).toInt + (upd (a 12) j (nI ((a 12 j).toNatClampNeg - 1)) 3).toInt + (upd (a 12) j (nI ((a 12 j).toNatClampNeg - 1)) 4).toInt + (upd (a 12) j (nI ((a 12 j).toNatClampNeg - 1)) 5).toInt
        simp only [upd_at]
        rw [eb, e5]
        rcases (by omega : j = 0 ∨ j = 1 ∨ j = 2 ∨ j = 3 ∨ j = 4 ∨ j = 5) with rfl | rfl | rfl | rfl | rfl | rfl <;> simp [hN] <;> omega
