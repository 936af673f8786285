/-! THE WEATHER OF BOTH -/
theorem nI_cl (x : Int32) (h : 0 ≤ x.toInt) : x = nI x.toNatClampNeg := by
  have hc := cl_int x h
  have hr := i32_rng x
  rw [← Int32.toInt_inj, nI_toInt (by omega)]
  exact hc.symm
theorem x_cover2 {d : Nat} {s : Nat → Int32} {a : Nat → Nat → Int32} {w : Bool} {Z : zH} {x y wi li co : Int32} {Q : zQ} (h : 0 ≤ x.toInt ∧ x.toInt ≤ y.toInt ∧ y.toInt ≤ 2399) (h0 : Q none (HX s (va_up a 0 (zfill (a 0) x.toNatClampNeg (y.toNatClampNeg + 1) (zpk wi li co))) w ++ Z)) : zG (d + 1) 64 [.ref 1, .int x, .int y, .int wi, .int li, .int co] (HX s a w ++ Z) Q := by
  have e1 := nI_cl x h.1
  have e2 := nI_cl y (by omega)
  have c1 := cl_int x h.1
  have c2 := cl_int y (by omega)
  generalize x.toNatClampNeg = p at *
  generalize y.toNatClampNeg = q at *
  subst e1
  subst e2
  exact x_cover (by omega) (by omega) h0
def zw3 (b : Nat → Nat → Int32) (F0 F1 F2 : Nat → Int32) : Nat → Nat → Int32 := va_up (va_up (va_up b 0 F0) 1 F1) 2 F2
theorem zw3_w (b : Nat → Nat → Int32) (F0 F1 F2 G0 G1 G2 : Nat → Int32) : va_up (va_up (va_up (zw3 b F0 F1 F2) 0 G0) 1 G1) 2 G2 = zw3 b G0 G1 G2 := by
  funext j
  simp only [zw3, va_up]
  by_cases h0 : j = 0 <;> by_cases h1 : j = 1 <;> by_cases h2 : j = 2 <;> simp [h0, h1, h2]
theorem zw3_0 (b : Nat → Nat → Int32) : zw3 b (b 0) (b 1) (b 2) = b := by
  funext j
  simp only [zw3, va_up]
  by_cases h0 : j = 0 <;> by_cases h1 : j = 1 <;> by_cases h2 : j = 2 <;> simp [h0, h1, h2]
theorem nar_b {v : Int32} (h : v = 0 ∨ v = 1) : vp_nar .boolean v = v := by rcases h with rfl | rfl <;> rfl

set_option maxRecDepth 100000 in
theorem x_weather {d : Nat} {s : Nat → Int32} {a : Nat → Nat → Int32} {w : Bool} {Z : zH} {x y z v r : Int32} {Q : zQ}  (h0 : (¬ (0 ≤ x.toInt ∧ x.toInt ≤ y.toInt ∧ y.toInt ≤ 2399 ∧ y.toInt - x.toInt < 300 ∧ 0 ≤ z.toInt ∧ z.toInt ≤ 60 ∧ -90 ≤ r.toInt ∧ r.toInt ≤ 20)) → Q (some (.int (-1))) (HX (va_up s 2 (-1)) a w ++ Z)) (h1 : (0 ≤ x.toInt ∧ x.toInt ≤ y.toInt ∧ y.toInt ≤ 2399 ∧ y.toInt - x.toInt < 300 ∧ 0 ≤ z.toInt ∧ z.toInt ≤ 60 ∧ -90 ≤ r.toInt ∧ r.toInt ≤ 20) → Q (some (.int (0))) (HX (va_up s 2 (0)) (va_up a 0 (zfill (a 0) x.toNatClampNeg (y.toNatClampNeg + 1) (zpk z v r))) w ++ Z)) : zG (d + 4) 76 [.ref 0, .int x, .int y, .int z, .int v, .int r] (HX s a w ++ Z) Q := by
  refine g_76 (Nat.le_of_ble_eq_true rfl) ?_
  intro X0 hX0
  have e1 : (0 ≤ x.toInt ∧ x.toInt ≤ y.toInt ∧ y.toInt ≤ 2399) → (y - x).toInt = y.toInt - x.toInt := fun h => i32_sub (by omega)
  iterate 3 refine hX0 _ _ _ _ ?_
  refine r_isSpan (fun c1 => ?_) (fun c2 => ?_)
  · refine hX0 _ _ _ _ ?_
    refine And.intro (fun c => absurd c (by decide)) (fun _ => ?_)
    iterate 5 refine hX0 _ _ _ _ ?_
    refine And.intro (fun c3 => ?_) (fun c3 => ?_)
    · iterate 6 refine hX0 _ _ _ _ ?_
      refine r_within (0) (60) rfl rfl (fun c4 => ?_) (fun c5 => ?_)
      · refine hX0 _ _ _ _ ?_
        refine And.intro (fun c => absurd c (by decide)) (fun _ => ?_)
        iterate 4 refine hX0 _ _ _ _ ?_
        refine r_within (-90) (20) rfl rfl (fun c6 => ?_) (fun c7 => ?_)
        · refine hX0 _ _ _ _ ?_
          refine And.intro (fun c => absurd c (by decide)) (fun _ => ?_)
          iterate 5 refine hX0 _ _ _ _ ?_
          refine And.intro (fun _ => ?_) (fun c => absurd c (by decide))
          iterate 3 refine hX0 _ _ _ _ ?_
          refine r_answered ?_
          refine hX0 _ _ _ _ ?_
          first | (exfalso; first | omega | ((try simp only [fa_le, fa_lt, fa_eq, va_up] at c1 c3 c4 c6 ⊢) <;> (try simp [-Int32.toInt_sub, -Int32.toInt_add, -Int32.toInt_mul, -Int32.toInt_neg, -Int64.toInt_sub, -Int64.toInt_add] at c1 c3 c4 c6 ⊢) <;> omega)) | (rcases Classical.em (¬ (0 ≤ x.toInt ∧ x.toInt ≤ y.toInt ∧ y.toInt ≤ 2399 ∧ y.toInt - x.toInt < 300 ∧ 0 ≤ z.toInt ∧ z.toInt ≤ 60 ∧ -90 ≤ r.toInt ∧ r.toInt ≤ 20)) with hg | hg; rotate_left; (exfalso; first | omega | ((try simp only [fa_le, fa_lt, fa_eq, va_up] at c1 c3 c4 c6 ⊢) <;> (try simp [-Int32.toInt_sub, -Int32.toInt_add, -Int32.toInt_mul, -Int32.toInt_neg, -Int64.toInt_sub, -Int64.toInt_add] at c1 c3 c4 c6 ⊢) <;> omega)); exact h0 hg) | (rcases Classical.em (0 ≤ x.toInt ∧ x.toInt ≤ y.toInt ∧ y.toInt ≤ 2399 ∧ y.toInt - x.toInt < 300 ∧ 0 ≤ z.toInt ∧ z.toInt ≤ 60 ∧ -90 ≤ r.toInt ∧ r.toInt ≤ 20) with hg | hg; rotate_left; (exfalso; first | omega | ((try simp only [fa_le, fa_lt, fa_eq, va_up] at c1 c3 c4 c6 ⊢) <;> (try simp [-Int32.toInt_sub, -Int32.toInt_add, -Int32.toInt_mul, -Int32.toInt_neg, -Int64.toInt_sub, -Int64.toInt_add] at c1 c3 c4 c6 ⊢) <;> omega)); exact h1 hg)
        · refine hX0 _ _ _ _ ?_
          refine And.intro (fun _ => ?_) (fun c => absurd c (by decide))
          iterate 4 refine hX0 _ _ _ _ ?_
          refine And.intro (fun _ => ?_) (fun c => absurd c (by decide))
          iterate 3 refine hX0 _ _ _ _ ?_
          refine r_answered ?_
          refine hX0 _ _ _ _ ?_
          first | (exfalso; first | omega | ((try simp only [fa_le, fa_lt, fa_eq, va_up] at c1 c3 c4 c7 ⊢) <;> (try simp [-Int32.toInt_sub, -Int32.toInt_add, -Int32.toInt_mul, -Int32.toInt_neg, -Int64.toInt_sub, -Int64.toInt_add] at c1 c3 c4 c7 ⊢) <;> omega)) | (rcases Classical.em (¬ (0 ≤ x.toInt ∧ x.toInt ≤ y.toInt ∧ y.toInt ≤ 2399 ∧ y.toInt - x.toInt < 300 ∧ 0 ≤ z.toInt ∧ z.toInt ≤ 60 ∧ -90 ≤ r.toInt ∧ r.toInt ≤ 20)) with hg | hg; rotate_left; (exfalso; first | omega | ((try simp only [fa_le, fa_lt, fa_eq, va_up] at c1 c3 c4 c7 ⊢) <;> (try simp [-Int32.toInt_sub, -Int32.toInt_add, -Int32.toInt_mul, -Int32.toInt_neg, -Int64.toInt_sub, -Int64.toInt_add] at c1 c3 c4 c7 ⊢) <;> omega)); exact h0 hg) | (rcases Classical.em (0 ≤ x.toInt ∧ x.toInt ≤ y.toInt ∧ y.toInt ≤ 2399 ∧ y.toInt - x.toInt < 300 ∧ 0 ≤ z.toInt ∧ z.toInt ≤ 60 ∧ -90 ≤ r.toInt ∧ r.toInt ≤ 20) with hg | hg; rotate_left; (exfalso; first | omega | ((try simp only [fa_le, fa_lt, fa_eq, va_up] at c1 c3 c4 c7 ⊢) <;> (try simp [-Int32.toInt_sub, -Int32.toInt_add, -Int32.toInt_mul, -Int32.toInt_neg, -Int64.toInt_sub, -Int64.toInt_add] at c1 c3 c4 c7 ⊢) <;> omega)); exact h1 hg)
      · refine hX0 _ _ _ _ ?_
        refine And.intro (fun _ => ?_) (fun c => absurd c (by decide))
        iterate 4 refine hX0 _ _ _ _ ?_
        refine And.intro (fun _ => ?_) (fun c => absurd c (by decide))
        iterate 3 refine hX0 _ _ _ _ ?_
        refine r_answered ?_
        refine hX0 _ _ _ _ ?_
        first | (exfalso; first | omega | ((try simp only [fa_le, fa_lt, fa_eq, va_up] at c1 c3 c5 ⊢) <;> (try simp [-Int32.toInt_sub, -Int32.toInt_add, -Int32.toInt_mul, -Int32.toInt_neg, -Int64.toInt_sub, -Int64.toInt_add] at c1 c3 c5 ⊢) <;> omega)) | (rcases Classical.em (¬ (0 ≤ x.toInt ∧ x.toInt ≤ y.toInt ∧ y.toInt ≤ 2399 ∧ y.toInt - x.toInt < 300 ∧ 0 ≤ z.toInt ∧ z.toInt ≤ 60 ∧ -90 ≤ r.toInt ∧ r.toInt ≤ 20)) with hg | hg; rotate_left; (exfalso; first | omega | ((try simp only [fa_le, fa_lt, fa_eq, va_up] at c1 c3 c5 ⊢) <;> (try simp [-Int32.toInt_sub, -Int32.toInt_add, -Int32.toInt_mul, -Int32.toInt_neg, -Int64.toInt_sub, -Int64.toInt_add] at c1 c3 c5 ⊢) <;> omega)); exact h0 hg) | (rcases Classical.em (0 ≤ x.toInt ∧ x.toInt ≤ y.toInt ∧ y.toInt ≤ 2399 ∧ y.toInt - x.toInt < 300 ∧ 0 ≤ z.toInt ∧ z.toInt ≤ 60 ∧ -90 ≤ r.toInt ∧ r.toInt ≤ 20) with hg | hg; rotate_left; (exfalso; first | omega | ((try simp only [fa_le, fa_lt, fa_eq, va_up] at c1 c3 c5 ⊢) <;> (try simp [-Int32.toInt_sub, -Int32.toInt_add, -Int32.toInt_mul, -Int32.toInt_neg, -Int64.toInt_sub, -Int64.toInt_add] at c1 c3 c5 ⊢) <;> omega)); exact h1 hg)
    · iterate 7 refine hX0 _ _ _ _ ?_
      refine r_within (0) (60) rfl rfl (fun c11 => ?_) (fun c12 => ?_)
      · refine hX0 _ _ _ _ ?_
        refine And.intro (fun c => absurd c (by decide)) (fun _ => ?_)
        iterate 4 refine hX0 _ _ _ _ ?_
        refine r_within (-90) (20) rfl rfl (fun c13 => ?_) (fun c14 => ?_)
        · refine hX0 _ _ _ _ ?_
          refine And.intro (fun c => absurd c (by decide)) (fun _ => ?_)
          iterate 5 refine hX0 _ _ _ _ ?_
          refine And.intro (fun c => absurd c (by decide)) (fun _ => ?_)
          iterate 2 refine hX0 _ _ _ _ ?_
          refine And.intro (fun _ => ?_) (fun c => absurd c (by decide))
          iterate 8 refine hX0 _ _ _ _ ?_
          refine x_cover2 (by first | omega | ((try simp only [fa_le, fa_lt, fa_eq, va_up] at c1 c3 c11 c13 ⊢) <;> (try simp [-Int32.toInt_sub, -Int32.toInt_add, -Int32.toInt_mul, -Int32.toInt_neg, -Int64.toInt_sub, -Int64.toInt_add] at c1 c3 c11 c13 ⊢) <;> omega)) ?_
          iterate 3 refine hX0 _ _ _ _ ?_
          refine r_answered ?_
          refine hX0 _ _ _ _ ?_
          first | (exfalso; first | omega | ((try simp only [fa_le, fa_lt, fa_eq, va_up] at c1 c3 c11 c13 ⊢) <;> (try simp [-Int32.toInt_sub, -Int32.toInt_add, -Int32.toInt_mul, -Int32.toInt_neg, -Int64.toInt_sub, -Int64.toInt_add] at c1 c3 c11 c13 ⊢) <;> omega)) | (rcases Classical.em (¬ (0 ≤ x.toInt ∧ x.toInt ≤ y.toInt ∧ y.toInt ≤ 2399 ∧ y.toInt - x.toInt < 300 ∧ 0 ≤ z.toInt ∧ z.toInt ≤ 60 ∧ -90 ≤ r.toInt ∧ r.toInt ≤ 20)) with hg | hg; rotate_left; (exfalso; first | omega | ((try simp only [fa_le, fa_lt, fa_eq, va_up] at c1 c3 c11 c13 ⊢) <;> (try simp [-Int32.toInt_sub, -Int32.toInt_add, -Int32.toInt_mul, -Int32.toInt_neg, -Int64.toInt_sub, -Int64.toInt_add] at c1 c3 c11 c13 ⊢) <;> omega)); exact h0 hg) | (rcases Classical.em (0 ≤ x.toInt ∧ x.toInt ≤ y.toInt ∧ y.toInt ≤ 2399 ∧ y.toInt - x.toInt < 300 ∧ 0 ≤ z.toInt ∧ z.toInt ≤ 60 ∧ -90 ≤ r.toInt ∧ r.toInt ≤ 20) with hg | hg; rotate_left; (exfalso; first | omega | ((try simp only [fa_le, fa_lt, fa_eq, va_up] at c1 c3 c11 c13 ⊢) <;> (try simp [-Int32.toInt_sub, -Int32.toInt_add, -Int32.toInt_mul, -Int32.toInt_neg, -Int64.toInt_sub, -Int64.toInt_add] at c1 c3 c11 c13 ⊢) <;> omega)); exact h1 hg)
        · refine hX0 _ _ _ _ ?_
          refine And.intro (fun _ => ?_) (fun c => absurd c (by decide))
          iterate 4 refine hX0 _ _ _ _ ?_
          refine And.intro (fun c => absurd c (by decide)) (fun _ => ?_)
          iterate 2 refine hX0 _ _ _ _ ?_
          refine And.intro (fun c => absurd c (by decide)) (fun _ => ?_)
          iterate 3 refine hX0 _ _ _ _ ?_
          refine r_answered ?_
          refine hX0 _ _ _ _ ?_
          first | (exfalso; first | omega | ((try simp only [fa_le, fa_lt, fa_eq, va_up] at c1 c3 c11 c14 ⊢) <;> (try simp [-Int32.toInt_sub, -Int32.toInt_add, -Int32.toInt_mul, -Int32.toInt_neg, -Int64.toInt_sub, -Int64.toInt_add] at c1 c3 c11 c14 ⊢) <;> omega)) | (rcases Classical.em (¬ (0 ≤ x.toInt ∧ x.toInt ≤ y.toInt ∧ y.toInt ≤ 2399 ∧ y.toInt - x.toInt < 300 ∧ 0 ≤ z.toInt ∧ z.toInt ≤ 60 ∧ -90 ≤ r.toInt ∧ r.toInt ≤ 20)) with hg | hg; rotate_left; (exfalso; first | omega | ((try simp only [fa_le, fa_lt, fa_eq, va_up] at c1 c3 c11 c14 ⊢) <;> (try simp [-Int32.toInt_sub, -Int32.toInt_add, -Int32.toInt_mul, -Int32.toInt_neg, -Int64.toInt_sub, -Int64.toInt_add] at c1 c3 c11 c14 ⊢) <;> omega)); exact h0 hg) | (rcases Classical.em (0 ≤ x.toInt ∧ x.toInt ≤ y.toInt ∧ y.toInt ≤ 2399 ∧ y.toInt - x.toInt < 300 ∧ 0 ≤ z.toInt ∧ z.toInt ≤ 60 ∧ -90 ≤ r.toInt ∧ r.toInt ≤ 20) with hg | hg; rotate_left; (exfalso; first | omega | ((try simp only [fa_le, fa_lt, fa_eq, va_up] at c1 c3 c11 c14 ⊢) <;> (try simp [-Int32.toInt_sub, -Int32.toInt_add, -Int32.toInt_mul, -Int32.toInt_neg, -Int64.toInt_sub, -Int64.toInt_add] at c1 c3 c11 c14 ⊢) <;> omega)); exact h1 hg)
      · refine hX0 _ _ _ _ ?_
        refine And.intro (fun _ => ?_) (fun c => absurd c (by decide))
        iterate 4 refine hX0 _ _ _ _ ?_
        refine And.intro (fun c => absurd c (by decide)) (fun _ => ?_)
        iterate 2 refine hX0 _ _ _ _ ?_
        refine And.intro (fun c => absurd c (by decide)) (fun _ => ?_)
        iterate 3 refine hX0 _ _ _ _ ?_
        refine r_answered ?_
        refine hX0 _ _ _ _ ?_
        first | (exfalso; first | omega | ((try simp only [fa_le, fa_lt, fa_eq, va_up] at c1 c3 c12 ⊢) <;> (try simp [-Int32.toInt_sub, -Int32.toInt_add, -Int32.toInt_mul, -Int32.toInt_neg, -Int64.toInt_sub, -Int64.toInt_add] at c1 c3 c12 ⊢) <;> omega)) | (rcases Classical.em (¬ (0 ≤ x.toInt ∧ x.toInt ≤ y.toInt ∧ y.toInt ≤ 2399 ∧ y.toInt - x.toInt < 300 ∧ 0 ≤ z.toInt ∧ z.toInt ≤ 60 ∧ -90 ≤ r.toInt ∧ r.toInt ≤ 20)) with hg | hg; rotate_left; (exfalso; first | omega | ((try simp only [fa_le, fa_lt, fa_eq, va_up] at c1 c3 c12 ⊢) <;> (try simp [-Int32.toInt_sub, -Int32.toInt_add, -Int32.toInt_mul, -Int32.toInt_neg, -Int64.toInt_sub, -Int64.toInt_add] at c1 c3 c12 ⊢) <;> omega)); exact h0 hg) | (rcases Classical.em (0 ≤ x.toInt ∧ x.toInt ≤ y.toInt ∧ y.toInt ≤ 2399 ∧ y.toInt - x.toInt < 300 ∧ 0 ≤ z.toInt ∧ z.toInt ≤ 60 ∧ -90 ≤ r.toInt ∧ r.toInt ≤ 20) with hg | hg; rotate_left; (exfalso; first | omega | ((try simp only [fa_le, fa_lt, fa_eq, va_up] at c1 c3 c12 ⊢) <;> (try simp [-Int32.toInt_sub, -Int32.toInt_add, -Int32.toInt_mul, -Int32.toInt_neg, -Int64.toInt_sub, -Int64.toInt_add] at c1 c3 c12 ⊢) <;> omega)); exact h1 hg)
  · refine hX0 _ _ _ _ ?_
    refine And.intro (fun _ => ?_) (fun c => absurd c (by decide))
    iterate 6 refine hX0 _ _ _ _ ?_
    refine r_within (0) (60) rfl rfl (fun c19 => ?_) (fun c20 => ?_)
    · refine hX0 _ _ _ _ ?_
      refine And.intro (fun c => absurd c (by decide)) (fun _ => ?_)
      iterate 4 refine hX0 _ _ _ _ ?_
      refine r_within (-90) (20) rfl rfl (fun c21 => ?_) (fun c22 => ?_)
      · refine hX0 _ _ _ _ ?_
        refine And.intro (fun c => absurd c (by decide)) (fun _ => ?_)
        iterate 5 refine hX0 _ _ _ _ ?_
        refine And.intro (fun _ => ?_) (fun c => absurd c (by decide))
        iterate 3 refine hX0 _ _ _ _ ?_
        refine r_answered ?_
        refine hX0 _ _ _ _ ?_
        first | (exfalso; first | omega | ((try simp only [fa_le, fa_lt, fa_eq, va_up] at c2 c19 c21 ⊢) <;> (try simp [-Int32.toInt_sub, -Int32.toInt_add, -Int32.toInt_mul, -Int32.toInt_neg, -Int64.toInt_sub, -Int64.toInt_add] at c2 c19 c21 ⊢) <;> omega)) | (rcases Classical.em (¬ (0 ≤ x.toInt ∧ x.toInt ≤ y.toInt ∧ y.toInt ≤ 2399 ∧ y.toInt - x.toInt < 300 ∧ 0 ≤ z.toInt ∧ z.toInt ≤ 60 ∧ -90 ≤ r.toInt ∧ r.toInt ≤ 20)) with hg | hg; rotate_left; (exfalso; first | omega | ((try simp only [fa_le, fa_lt, fa_eq, va_up] at c2 c19 c21 ⊢) <;> (try simp [-Int32.toInt_sub, -Int32.toInt_add, -Int32.toInt_mul, -Int32.toInt_neg, -Int64.toInt_sub, -Int64.toInt_add] at c2 c19 c21 ⊢) <;> omega)); exact h0 hg) | (rcases Classical.em (0 ≤ x.toInt ∧ x.toInt ≤ y.toInt ∧ y.toInt ≤ 2399 ∧ y.toInt - x.toInt < 300 ∧ 0 ≤ z.toInt ∧ z.toInt ≤ 60 ∧ -90 ≤ r.toInt ∧ r.toInt ≤ 20) with hg | hg; rotate_left; (exfalso; first | omega | ((try simp only [fa_le, fa_lt, fa_eq, va_up] at c2 c19 c21 ⊢) <;> (try simp [-Int32.toInt_sub, -Int32.toInt_add, -Int32.toInt_mul, -Int32.toInt_neg, -Int64.toInt_sub, -Int64.toInt_add] at c2 c19 c21 ⊢) <;> omega)); exact h1 hg)
      · refine hX0 _ _ _ _ ?_
        refine And.intro (fun _ => ?_) (fun c => absurd c (by decide))
        iterate 4 refine hX0 _ _ _ _ ?_
        refine And.intro (fun _ => ?_) (fun c => absurd c (by decide))
        iterate 3 refine hX0 _ _ _ _ ?_
        refine r_answered ?_
        refine hX0 _ _ _ _ ?_
        first | (exfalso; first | omega | ((try simp only [fa_le, fa_lt, fa_eq, va_up] at c2 c19 c22 ⊢) <;> (try simp [-Int32.toInt_sub, -Int32.toInt_add, -Int32.toInt_mul, -Int32.toInt_neg, -Int64.toInt_sub, -Int64.toInt_add] at c2 c19 c22 ⊢) <;> omega)) | (rcases Classical.em (¬ (0 ≤ x.toInt ∧ x.toInt ≤ y.toInt ∧ y.toInt ≤ 2399 ∧ y.toInt - x.toInt < 300 ∧ 0 ≤ z.toInt ∧ z.toInt ≤ 60 ∧ -90 ≤ r.toInt ∧ r.toInt ≤ 20)) with hg | hg; rotate_left; (exfalso; first | omega | ((try simp only [fa_le, fa_lt, fa_eq, va_up] at c2 c19 c22 ⊢) <;> (try simp [-Int32.toInt_sub, -Int32.toInt_add, -Int32.toInt_mul, -Int32.toInt_neg, -Int64.toInt_sub, -Int64.toInt_add] at c2 c19 c22 ⊢) <;> omega)); exact h0 hg) | (rcases Classical.em (0 ≤ x.toInt ∧ x.toInt ≤ y.toInt ∧ y.toInt ≤ 2399 ∧ y.toInt - x.toInt < 300 ∧ 0 ≤ z.toInt ∧ z.toInt ≤ 60 ∧ -90 ≤ r.toInt ∧ r.toInt ≤ 20) with hg | hg; rotate_left; (exfalso; first | omega | ((try simp only [fa_le, fa_lt, fa_eq, va_up] at c2 c19 c22 ⊢) <;> (try simp [-Int32.toInt_sub, -Int32.toInt_add, -Int32.toInt_mul, -Int32.toInt_neg, -Int64.toInt_sub, -Int64.toInt_add] at c2 c19 c22 ⊢) <;> omega)); exact h1 hg)
    · refine hX0 _ _ _ _ ?_
      refine And.intro (fun _ => ?_) (fun c => absurd c (by decide))
      iterate 4 refine hX0 _ _ _ _ ?_
      refine And.intro (fun _ => ?_) (fun c => absurd c (by decide))
      iterate 3 refine hX0 _ _ _ _ ?_
      refine r_answered ?_
      refine hX0 _ _ _ _ ?_
      first | (exfalso; first | omega | ((try simp only [fa_le, fa_lt, fa_eq, va_up] at c2 c20 ⊢) <;> (try simp [-Int32.toInt_sub, -Int32.toInt_add, -Int32.toInt_mul, -Int32.toInt_neg, -Int64.toInt_sub, -Int64.toInt_add] at c2 c20 ⊢) <;> omega)) | (rcases Classical.em (¬ (0 ≤ x.toInt ∧ x.toInt ≤ y.toInt ∧ y.toInt ≤ 2399 ∧ y.toInt - x.toInt < 300 ∧ 0 ≤ z.toInt ∧ z.toInt ≤ 60 ∧ -90 ≤ r.toInt ∧ r.toInt ≤ 20)) with hg | hg; rotate_left; (exfalso; first | omega | ((try simp only [fa_le, fa_lt, fa_eq, va_up] at c2 c20 ⊢) <;> (try simp [-Int32.toInt_sub, -Int32.toInt_add, -Int32.toInt_mul, -Int32.toInt_neg, -Int64.toInt_sub, -Int64.toInt_add] at c2 c20 ⊢) <;> omega)); exact h0 hg) | (rcases Classical.em (0 ≤ x.toInt ∧ x.toInt ≤ y.toInt ∧ y.toInt ≤ 2399 ∧ y.toInt - x.toInt < 300 ∧ 0 ≤ z.toInt ∧ z.toInt ≤ 60 ∧ -90 ≤ r.toInt ∧ r.toInt ≤ 20) with hg | hg; rotate_left; (exfalso; first | omega | ((try simp only [fa_le, fa_lt, fa_eq, va_up] at c2 c20 ⊢) <;> (try simp [-Int32.toInt_sub, -Int32.toInt_add, -Int32.toInt_mul, -Int32.toInt_neg, -Int64.toInt_sub, -Int64.toInt_add] at c2 c20 ⊢) <;> omega)); exact h1 hg)

set_option maxRecDepth 100000 in
theorem y_weather {d : Nat} {s : Nat → Int32} {a : Nat → Nat → Int32} {w : Bool} {t : Nat → Int32} {b : Nat → Nat → Int32} {u : Nat → Int64} {c : Nat → Nat → Int64} {x y z v r : Int32} {Q : zQ} (hv : v = 0 ∨ v = 1) (h0 : (¬ (0 ≤ x.toInt ∧ x.toInt ≤ y.toInt ∧ y.toInt ≤ 2399 ∧ y.toInt - x.toInt < 300 ∧ 0 ≤ z.toInt ∧ z.toInt ≤ 60 ∧ -90 ≤ r.toInt ∧ r.toInt ≤ 20)) → Q (some (.int (-1))) (HX s a w ++ HM (va_up (va_up t 0 0) 1 (-1)) b u c)) (h1 : (0 ≤ x.toInt ∧ x.toInt ≤ y.toInt ∧ y.toInt ≤ 2399 ∧ y.toInt - x.toInt < 300 ∧ 0 ≤ z.toInt ∧ z.toInt ≤ 60 ∧ -90 ≤ r.toInt ∧ r.toInt ≤ 20) → Q (some (.int 0)) (HX s a w ++ HM (va_up (va_up t 0 0) 1 0) (zw3 b (zfill (b 0) x.toNatClampNeg (y.toNatClampNeg + 1) z) (zfill (b 1) x.toNatClampNeg (y.toNatClampNeg + 1) v) (zfill (b 2) x.toNatClampNeg (y.toNatClampNeg + 1) r)) u c)) : zG (d + 3) 108 [.ref 56, .int x, .int y, .int z, .int v, .int r] (HX s a w ++ HM t b u c) Q := by
  refine g_108 (Nat.le_of_ble_eq_true rfl) ?_
  intro X0 hX0
  have e1 : (0 ≤ x.toInt ∧ x.toInt ≤ y.toInt ∧ y.toInt ≤ 2399) → (y - x).toInt = y.toInt - x.toInt := fun h => i32_sub (by omega)
  have key : (0 ≤ x.toInt ∧ x.toInt ≤ y.toInt ∧ y.toInt ≤ 2399 ∧ y.toInt - x.toInt < 300 ∧ 0 ≤ z.toInt ∧ z.toInt ≤ 60 ∧ -90 ≤ r.toInt ∧ r.toInt ≤ 20) → ∀ (n k : Nat) (b1 : Nat → Nat → Int32), y.toNatClampNeg + 1 - k = n → x.toNatClampNeg ≤ k → k ≤ y.toNatClampNeg + 1 → b1 = zw3 b (zfill (b 0) x.toNatClampNeg k z) (zfill (b 1) x.toNatClampNeg k v) (zfill (b 2) x.toNatClampNeg k r) → X0 69 [some (.ref 56), some (.int x), some (.int y), some (.int z), some (.int v), some (.int r), some (.int (nI k))] [] (HX s a w ++ HM (va_up t 0 0) b1 u c) := by
    intro hG n
    have hcx := cl_int x hG.1
    have hcy := cl_int y (by omega)
    induction n with
    | zero =>
      intro k b1 q1 q2 q3 q4
      have hk : (nI k).toInt = (k : Int) := nI_toInt (by omega)
      iterate 3 refine hX0 _ _ _ _ ?_
      refine And.intro (fun c1 => ?_) (fun c1 => ?_)
      · iterate 3 refine hX0 _ _ _ _ ?_
        refine r_told ?_
        refine hX0 _ _ _ _ ?_
        have hk2 : k = y.toNatClampNeg + 1 := by first | omega | ((try simp only [fa_le, fa_lt, fa_eq, va_up] at c1 ⊢) <;> (try simp [-Int32.toInt_sub, -Int32.toInt_add, -Int32.toInt_mul, -Int32.toInt_neg, -Int64.toInt_sub, -Int64.toInt_add] at c1 ⊢) <;> omega)
        subst hk2
        rw [q4]
        exact h1 hG
      · iterate 5 refine hX0 _ _ _ _ ?_
        refine And.intro (by rw [vp_in_iff]; first | omega | ((try simp only [fa_le, fa_lt, fa_eq, va_up] at c1 ⊢) <;> (try simp [-Int32.toInt_sub, -Int32.toInt_add, -Int32.toInt_mul, -Int32.toInt_neg, -Int64.toInt_sub, -Int64.toInt_add] at c1 ⊢) <;> omega)) ?_
        refine zcast (X := X0) yb_0 ?_
        iterate 5 refine hX0 _ _ _ _ ?_
        refine And.intro (by rw [vp_in_iff]; first | omega | ((try simp only [fa_le, fa_lt, fa_eq, va_up] at c1 ⊢) <;> (try simp [-Int32.toInt_sub, -Int32.toInt_add, -Int32.toInt_mul, -Int32.toInt_neg, -Int64.toInt_sub, -Int64.toInt_add] at c1 ⊢) <;> omega)) ?_
        refine zcast (X := X0) yb_1 ?_
        iterate 5 refine hX0 _ _ _ _ ?_
        refine And.intro (by rw [vp_in_iff]; first | omega | ((try simp only [fa_le, fa_lt, fa_eq, va_up] at c1 ⊢) <;> (try simp [-Int32.toInt_sub, -Int32.toInt_add, -Int32.toInt_mul, -Int32.toInt_neg, -Int64.toInt_sub, -Int64.toInt_add] at c1 ⊢) <;> omega)) ?_
        refine zcast (X := X0) yb_2 ?_
        iterate 2 refine hX0 _ _ _ _ ?_
        exfalso
        first | omega | ((try simp only [fa_le, fa_lt, fa_eq, va_up] at c1 ⊢) <;> (try simp [-Int32.toInt_sub, -Int32.toInt_add, -Int32.toInt_mul, -Int32.toInt_neg, -Int64.toInt_sub, -Int64.toInt_add] at c1 ⊢) <;> omega)
    | succ n ih =>
      intro k b1 q1 q2 q3 q4
      have hk : (nI k).toInt = (k : Int) := nI_toInt (by omega)
      iterate 3 refine hX0 _ _ _ _ ?_
      refine And.intro (fun c1 => ?_) (fun c1 => ?_)
      · iterate 3 refine hX0 _ _ _ _ ?_
        refine r_told ?_
        refine hX0 _ _ _ _ ?_
        have hk2 : k = y.toNatClampNeg + 1 := by first | omega | ((try simp only [fa_le, fa_lt, fa_eq, va_up] at c1 ⊢) <;> (try simp [-Int32.toInt_sub, -Int32.toInt_add, -Int32.toInt_mul, -Int32.toInt_neg, -Int64.toInt_sub, -Int64.toInt_add] at c1 ⊢) <;> omega)
        subst hk2
        rw [q4]
        exact h1 hG
      · iterate 5 refine hX0 _ _ _ _ ?_
        refine And.intro (by rw [vp_in_iff]; first | omega | ((try simp only [fa_le, fa_lt, fa_eq, va_up] at c1 ⊢) <;> (try simp [-Int32.toInt_sub, -Int32.toInt_add, -Int32.toInt_mul, -Int32.toInt_neg, -Int64.toInt_sub, -Int64.toInt_add] at c1 ⊢) <;> omega)) ?_
        refine zcast (X := X0) yb_0 ?_
        iterate 5 refine hX0 _ _ _ _ ?_
        refine And.intro (by rw [vp_in_iff]; first | omega | ((try simp only [fa_le, fa_lt, fa_eq, va_up] at c1 ⊢) <;> (try simp [-Int32.toInt_sub, -Int32.toInt_add, -Int32.toInt_mul, -Int32.toInt_neg, -Int64.toInt_sub, -Int64.toInt_add] at c1 ⊢) <;> omega)) ?_
        refine zcast (X := X0) yb_1 ?_
        iterate 5 refine hX0 _ _ _ _ ?_
        refine And.intro (by rw [vp_in_iff]; first | omega | ((try simp only [fa_le, fa_lt, fa_eq, va_up] at c1 ⊢) <;> (try simp [-Int32.toInt_sub, -Int32.toInt_add, -Int32.toInt_mul, -Int32.toInt_neg, -Int64.toInt_sub, -Int64.toInt_add] at c1 ⊢) <;> omega)) ?_
        refine zcast (X := X0) yb_2 ?_
        iterate 2 refine hX0 _ _ _ _ ?_
        rw [nI_1]
        refine ih (k + 1) _ (by omega) (by omega) (by omega) ?_
        rw [q4, nar_b hv, zw3_w]
        show zw3 b (upd (zfill (b 0) x.toNatClampNeg k z) _ z) (upd (zfill (b 1) x.toNatClampNeg k v) _ v) (upd (zfill (b 2) x.toNatClampNeg k r) _ r) = _
        rw [zfill_s _ _ q2 (by omega), zfill_s _ _ q2 (by omega), zfill_s _ _ q2 (by omega)]
  iterate 3 refine hX0 _ _ _ _ ?_
  refine zcast (X := X0) yt_0 ?_
  iterate 2 refine hX0 _ _ _ _ ?_
  refine r_isHourM (fun c1 => ?_) (fun c2 => ?_)
  · refine hX0 _ _ _ _ ?_
    refine And.intro (fun c => absurd c (by decide)) (fun _ => ?_)
    iterate 2 refine hX0 _ _ _ _ ?_
    refine r_isHourM (fun c3 => ?_) (fun c4 => ?_)
    · refine hX0 _ _ _ _ ?_
      refine And.intro (fun c => absurd c (by decide)) (fun _ => ?_)
      iterate 3 refine hX0 _ _ _ _ ?_
      refine And.intro (fun c5 => ?_) (fun c5 => ?_)
      · iterate 3 refine hX0 _ _ _ _ ?_
        refine r_told ?_
        refine hX0 _ _ _ _ ?_
        first | (rcases Classical.em (¬ (0 ≤ x.toInt ∧ x.toInt ≤ y.toInt ∧ y.toInt ≤ 2399 ∧ y.toInt - x.toInt < 300 ∧ 0 ≤ z.toInt ∧ z.toInt ≤ 60 ∧ -90 ≤ r.toInt ∧ r.toInt ≤ 20)) with hg | hg; rotate_left; (exfalso; first | omega | ((try simp only [fa_le, fa_lt, fa_eq, va_up] at c1 c3 c5 ⊢) <;> (try simp [-Int32.toInt_sub, -Int32.toInt_add, -Int32.toInt_mul, -Int32.toInt_neg, -Int64.toInt_sub, -Int64.toInt_add] at c1 c3 c5 ⊢) <;> omega)); exact h0 hg)
      · iterate 5 refine hX0 _ _ _ _ ?_
        refine And.intro (fun c7 => ?_) (fun c7 => ?_)
        · iterate 3 refine hX0 _ _ _ _ ?_
          refine r_told ?_
          refine hX0 _ _ _ _ ?_
          first | (rcases Classical.em (¬ (0 ≤ x.toInt ∧ x.toInt ≤ y.toInt ∧ y.toInt ≤ 2399 ∧ y.toInt - x.toInt < 300 ∧ 0 ≤ z.toInt ∧ z.toInt ≤ 60 ∧ -90 ≤ r.toInt ∧ r.toInt ≤ 20)) with hg | hg; rotate_left; (exfalso; first | omega | ((try simp only [fa_le, fa_lt, fa_eq, va_up] at c1 c3 c5 c7 ⊢) <;> (try simp [-Int32.toInt_sub, -Int32.toInt_add, -Int32.toInt_mul, -Int32.toInt_neg, -Int64.toInt_sub, -Int64.toInt_add] at c1 c3 c5 c7 ⊢) <;> omega)); exact h0 hg)
        · iterate 5 refine hX0 _ _ _ _ ?_
          refine r_in (0) (60) rfl rfl (fun c9 => ?_) (fun c10 => ?_)
          · refine hX0 _ _ _ _ ?_
            refine And.intro (fun c => absurd c (by decide)) (fun _ => ?_)
            iterate 5 refine hX0 _ _ _ _ ?_
            refine r_in (-90) (20) rfl rfl (fun c11 => ?_) (fun c12 => ?_)
            · refine hX0 _ _ _ _ ?_
              refine And.intro (fun _ => ?_) (fun c => absurd c (by decide))
              iterate 2 refine hX0 _ _ _ _ ?_
              have hG : 0 ≤ x.toInt ∧ x.toInt ≤ y.toInt ∧ y.toInt ≤ 2399 ∧ y.toInt - x.toInt < 300 ∧ 0 ≤ z.toInt ∧ z.toInt ≤ 60 ∧ -90 ≤ r.toInt ∧ r.toInt ≤ 20 := by first | omega | ((try simp only [fa_le, fa_lt, fa_eq, va_up] at c1 c3 c5 c7 c9 c11 ⊢) <;> (try simp [-Int32.toInt_sub, -Int32.toInt_add, -Int32.toInt_mul, -Int32.toInt_neg, -Int64.toInt_sub, -Int64.toInt_add] at c1 c3 c5 c7 c9 c11 ⊢) <;> omega)
              have hcx := cl_int x hG.1
              have hcy := cl_int y (by omega)
              have ex := nI_cl x hG.1
              have kk := key hG (y.toNatClampNeg + 1 - x.toNatClampNeg) x.toNatClampNeg b rfl (Nat.le_refl _) (by omega) (by rw [zfill_0, zfill_0, zfill_0, zw3_0])
              rw [← ex] at kk
              exact kk
            · refine hX0 _ _ _ _ ?_
              refine And.intro (fun c => absurd c (by decide)) (fun _ => ?_)
              iterate 3 refine hX0 _ _ _ _ ?_
              refine r_told ?_
              refine hX0 _ _ _ _ ?_
              first | (rcases Classical.em (¬ (0 ≤ x.toInt ∧ x.toInt ≤ y.toInt ∧ y.toInt ≤ 2399 ∧ y.toInt - x.toInt < 300 ∧ 0 ≤ z.toInt ∧ z.toInt ≤ 60 ∧ -90 ≤ r.toInt ∧ r.toInt ≤ 20)) with hg | hg; rotate_left; (exfalso; first | omega | ((try simp only [fa_le, fa_lt, fa_eq, va_up] at c1 c3 c5 c7 c9 c12 ⊢) <;> (try simp [-Int32.toInt_sub, -Int32.toInt_add, -Int32.toInt_mul, -Int32.toInt_neg, -Int64.toInt_sub, -Int64.toInt_add] at c1 c3 c5 c7 c9 c12 ⊢) <;> omega)); exact h0 hg)
          · refine hX0 _ _ _ _ ?_
            refine And.intro (fun _ => ?_) (fun c => absurd c (by decide))
            iterate 3 refine hX0 _ _ _ _ ?_
            refine r_told ?_
            refine hX0 _ _ _ _ ?_
            first | (rcases Classical.em (¬ (0 ≤ x.toInt ∧ x.toInt ≤ y.toInt ∧ y.toInt ≤ 2399 ∧ y.toInt - x.toInt < 300 ∧ 0 ≤ z.toInt ∧ z.toInt ≤ 60 ∧ -90 ≤ r.toInt ∧ r.toInt ≤ 20)) with hg | hg; rotate_left; (exfalso; first | omega | ((try simp only [fa_le, fa_lt, fa_eq, va_up] at c1 c3 c5 c7 c10 ⊢) <;> (try simp [-Int32.toInt_sub, -Int32.toInt_add, -Int32.toInt_mul, -Int32.toInt_neg, -Int64.toInt_sub, -Int64.toInt_add] at c1 c3 c5 c7 c10 ⊢) <;> omega)); exact h0 hg)
    · refine hX0 _ _ _ _ ?_
      refine And.intro (fun _ => ?_) (fun c => absurd c (by decide))
      iterate 3 refine hX0 _ _ _ _ ?_
      refine r_told ?_
      refine hX0 _ _ _ _ ?_
      first | (rcases Classical.em (¬ (0 ≤ x.toInt ∧ x.toInt ≤ y.toInt ∧ y.toInt ≤ 2399 ∧ y.toInt - x.toInt < 300 ∧ 0 ≤ z.toInt ∧ z.toInt ≤ 60 ∧ -90 ≤ r.toInt ∧ r.toInt ≤ 20)) with hg | hg; rotate_left; (exfalso; first | omega | ((try simp only [fa_le, fa_lt, fa_eq, va_up] at c1 c4 ⊢) <;> (try simp [-Int32.toInt_sub, -Int32.toInt_add, -Int32.toInt_mul, -Int32.toInt_neg, -Int64.toInt_sub, -Int64.toInt_add] at c1 c4 ⊢) <;> omega)); exact h0 hg)
  · refine hX0 _ _ _ _ ?_
    refine And.intro (fun _ => ?_) (fun c => absurd c (by decide))
    iterate 3 refine hX0 _ _ _ _ ?_
    refine r_told ?_
    refine hX0 _ _ _ _ ?_
    first | (rcases Classical.em (¬ (0 ≤ x.toInt ∧ x.toInt ≤ y.toInt ∧ y.toInt ≤ 2399 ∧ y.toInt - x.toInt < 300 ∧ 0 ≤ z.toInt ∧ z.toInt ≤ 60 ∧ -90 ≤ r.toInt ∧ r.toInt ≤ 20)) with hg | hg; rotate_left; (exfalso; first | omega | ((try simp only [fa_le, fa_lt, fa_eq, va_up] at c2 ⊢) <;> (try simp [-Int32.toInt_sub, -Int32.toInt_add, -Int32.toInt_mul, -Int32.toInt_neg, -Int64.toInt_sub, -Int64.toInt_add] at c2 ⊢) <;> omega)); exact h0 hg)
