/-! ARRIVED -/

set_option maxRecDepth 100000 in
theorem x_hasArrived {d : Nat} {s : Nat → Int32} {a : Nat → Nat → Int32} {w : Bool} {Z : zH} {x y : Int32} {Q : zQ} (hme : 0 ≤ (s 20).toInt ∧ (s 20).toInt ≤ 100) (hfa : 0 ≤ (s 21).toInt ∧ (s 21).toInt ≤ 60) (hfH : ∀ i : Nat, (i : Int) < (s 21).toInt → 0 ≤ (a 32 i).toInt ∧ (a 32 i).toInt ≤ 2399) (h0 : ¬ ((0 ≤ x.toInt ∧ x.toInt < (s 20).toInt) ∧ (0 ≤ y.toInt ∧ y.toInt ≤ 100000)) → Q (some (.int (-1))) (HX s a w ++ Z)) (h1 : (0 ≤ x.toInt ∧ x.toInt < (s 20).toInt) ∧ (0 ≤ y.toInt ∧ y.toInt ≤ 100000) → ¬ (a 28 x.toNatClampNeg = a 26 x.toNatClampNeg) → Q (some (.int 0)) (HX s a w ++ Z)) (h2 : ∀ f : Nat, (0 ≤ x.toInt ∧ x.toInt < (s 20).toInt) ∧ (0 ≤ y.toInt ∧ y.toInt ≤ 100000) → a 28 x.toNatClampNeg = a 26 x.toNatClampNeg → (f : Int) < (s 21).toInt → ((a 33 f).toInt ≤ y.toInt ∧ (a 30 x.toNatClampNeg = a 32 f ∨ a 31 (a 32 f).toNatClampNeg = x + 1)) → Q (some (.int 0)) (HX s a w ++ Z)) (h3 : (0 ≤ x.toInt ∧ x.toInt < (s 20).toInt) ∧ (0 ≤ y.toInt ∧ y.toInt ≤ 100000) → a 28 x.toNatClampNeg = a 26 x.toNatClampNeg → (∀ f : Nat, (f : Int) < (s 21).toInt → ¬ ((a 33 f).toInt ≤ y.toInt ∧ (a 30 x.toNatClampNeg = a 32 f ∨ a 31 (a 32 f).toNatClampNeg = x + 1))) → Q (some (.int 1)) (HX s a w ++ Z)) : zG (d + 3) 41 [.ref 33, .int x, .int y] (HX s a w ++ Z) Q := by
  refine g_41 (Nat.le_of_ble_eq_true rfl) ?_
  intro X0 hX0
  have hF := cl_int (s 21) hfa.1
  have key : (0 ≤ x.toInt ∧ x.toInt < (s 20).toInt) ∧ (0 ≤ y.toInt ∧ y.toInt ≤ 100000) → a 28 x.toNatClampNeg = a 26 x.toNatClampNeg → ∀ (n j : Nat) (o4 o5 : Option Value), (s 21).toNatClampNeg - j = n → j ≤ (s 21).toNatClampNeg → (∀ f : Nat, f < j → ¬ ((a 33 f).toInt ≤ y.toInt ∧ (a 30 x.toNatClampNeg = a 32 f ∨ a 31 (a 32 f).toNatClampNeg = x + 1))) → X0 32 [some (.ref 33), some (.int x), some (.int y), some (.int (nI j)), o4, o5] [] (HX s a w ++ Z) := by
    intro hR hS n
    induction n with
    | zero =>
      intro j o4 o5 q1 q2 q3
      have hJ : (nI j).toInt = (j : Int) := nI_toInt (by omega)
      iterate 4 refine hX0 _ _ _ _ ?_
      refine And.intro (fun c1 => ?_) (fun c1 => ?_)
      · iterate 2 refine hX0 _ _ _ _ ?_
        exact h3 hR hS (fun f hf => q3 f (by omega))
      · exfalso
        rw [fa_le] at c1
        omega
    | succ n ih =>
      intro j o4 o5 q1 q2 q3
      have hJ : (nI j).toInt = (j : Int) := nI_toInt (by omega)
      have hcl : (nI j).toNatClampNeg = j := nI_clamp (by omega)
      have hfj := hfH j (by omega)
      have K : ∀ (p4 p5 : Option Value), ¬ ((a 33 j).toInt ≤ y.toInt ∧ (a 30 x.toNatClampNeg = a 32 j ∨ a 31 (a 32 j).toNatClampNeg = x + 1)) → X0 32 [some (.ref 33), some (.int x), some (.int y), some (.int (nI j + 1)), p4, p5] [] (HX s a w ++ Z) := by
        intro p4 p5 hn
        rw [nI_1]
        refine ih (j + 1) p4 p5 (by omega) (by omega) (fun f hf => ?_)
        rcases Nat.lt_or_ge f j with hh | hh
        · exact q3 f hh
        · rw [show f = j by omega]
          exact hn
      iterate 4 refine hX0 _ _ _ _ ?_
      refine And.intro (fun c1 => ?_) (fun c1 => ?_)
      · iterate 2 refine hX0 _ _ _ _ ?_
        exfalso
        rw [fa_le] at c1
        omega
      · iterate 4 refine hX0 _ _ _ _ ?_
        refine And.intro (by first | (rw [vp_in_iff]; omega) | exact vp_in_nI (by omega) (by omega) | (rw [vp_in_iff]; first | omega | ((try simp only [fa_le, fa_lt, fa_eq, va_up] at c1 ⊢) <;> (try simp [-Int32.toInt_sub, -Int32.toInt_add, -Int32.toInt_mul, -Int32.toInt_neg, -Int64.toInt_sub, -Int64.toInt_add] at c1 ⊢) <;> omega))) ?_
        rw [hcl]
        iterate 5 refine hX0 _ _ _ _ ?_
        refine And.intro (by first | (rw [vp_in_iff]; omega) | exact vp_in_nI (by omega) (by omega) | (rw [vp_in_iff]; first | omega | ((try simp only [fa_le, fa_lt, fa_eq, va_up] at c1 ⊢) <;> (try simp [-Int32.toInt_sub, -Int32.toInt_add, -Int32.toInt_mul, -Int32.toInt_neg, -Int64.toInt_sub, -Int64.toInt_add] at c1 ⊢) <;> omega))) ?_
        iterate 2 refine hX0 _ _ _ _ ?_
        refine And.intro (fun c2 => ?_) (fun c2 => ?_)
        · iterate 7 refine hX0 _ _ _ _ ?_
          refine And.intro (by first | (rw [vp_in_iff]; omega) | exact vp_in_nI (by omega) (by omega) | (rw [vp_in_iff]; first | omega | ((try simp only [fa_le, fa_lt, fa_eq, va_up] at c1 c2 ⊢) <;> (try simp [-Int32.toInt_sub, -Int32.toInt_add, -Int32.toInt_mul, -Int32.toInt_neg, -Int64.toInt_sub, -Int64.toInt_add] at c1 c2 ⊢) <;> omega))) ?_
          rw [hcl]
          iterate 2 refine hX0 _ _ _ _ ?_
          refine And.intro (fun c3 => ?_) (fun c3 => ?_)
          · iterate 2 refine hX0 _ _ _ _ ?_
            exact K _ _ (by rintro ⟨y1, y2⟩; first | (rw [← fa_le] at y1; exact absurd c3 (Int32.not_lt.mpr y1)) | (rcases y2 with y3 | y3; exact absurd y3 c2; exact absurd y3 c3))
          · iterate 2 refine hX0 _ _ _ _ ?_
            refine And.intro (fun c => absurd c (by decide)) (fun _ => ?_)
            iterate 2 refine hX0 _ _ _ _ ?_
            exact h2 j hR hS (by omega) ⟨by rw [← fa_le]; exact Int32.not_lt.mp c3, Or.inl c2⟩
        · iterate 4 refine hX0 _ _ _ _ ?_
          refine And.intro (by first | (rw [vp_in_iff]; omega) | exact vp_in_nI (by omega) (by omega) | (rw [vp_in_iff]; first | omega | ((try simp only [fa_le, fa_lt, fa_eq, va_up] at c1 c2 ⊢) <;> (try simp [-Int32.toInt_sub, -Int32.toInt_add, -Int32.toInt_mul, -Int32.toInt_neg, -Int64.toInt_sub, -Int64.toInt_add] at c1 c2 ⊢) <;> omega))) ?_
          iterate 4 refine hX0 _ _ _ _ ?_
          refine And.intro (fun c4 => ?_) (fun c4 => ?_)
          · iterate 6 refine hX0 _ _ _ _ ?_
            refine And.intro (by first | (rw [vp_in_iff]; omega) | exact vp_in_nI (by omega) (by omega) | (rw [vp_in_iff]; first | omega | ((try simp only [fa_le, fa_lt, fa_eq, va_up] at c1 c2 c4 ⊢) <;> (try simp [-Int32.toInt_sub, -Int32.toInt_add, -Int32.toInt_mul, -Int32.toInt_neg, -Int64.toInt_sub, -Int64.toInt_add] at c1 c2 c4 ⊢) <;> omega))) ?_
            rw [hcl]
            iterate 2 refine hX0 _ _ _ _ ?_
            refine And.intro (fun c5 => ?_) (fun c5 => ?_)
            · iterate 2 refine hX0 _ _ _ _ ?_
              exact K _ _ (by rintro ⟨y1, y2⟩; first | (rw [← fa_le] at y1; exact absurd c5 (Int32.not_lt.mpr y1)) | (rcases y2 with y3 | y3; exact absurd y3 c2; exact absurd y3 c4))
            · iterate 2 refine hX0 _ _ _ _ ?_
              refine And.intro (fun _ => ?_) (fun c => absurd c (by decide))
              iterate 2 refine hX0 _ _ _ _ ?_
              exact K _ _ (by rintro ⟨y1, y2⟩; first | (rw [← fa_le] at y1; exact absurd c5 (Int32.not_lt.mpr y1)) | (rcases y2 with y3 | y3; exact absurd y3 c2; exact absurd y3 c4))
          · iterate 7 refine hX0 _ _ _ _ ?_
            refine And.intro (by first | (rw [vp_in_iff]; omega) | exact vp_in_nI (by omega) (by omega) | (rw [vp_in_iff]; first | omega | ((try simp only [fa_le, fa_lt, fa_eq, va_up] at c1 c2 c4 ⊢) <;> (try simp [-Int32.toInt_sub, -Int32.toInt_add, -Int32.toInt_mul, -Int32.toInt_neg, -Int64.toInt_sub, -Int64.toInt_add] at c1 c2 c4 ⊢) <;> omega))) ?_
            rw [hcl]
            iterate 2 refine hX0 _ _ _ _ ?_
            refine And.intro (fun c6 => ?_) (fun c6 => ?_)
            · iterate 2 refine hX0 _ _ _ _ ?_
              exact K _ _ (by rintro ⟨y1, y2⟩; first | (rw [← fa_le] at y1; exact absurd c6 (Int32.not_lt.mpr y1)) | (rcases y2 with y3 | y3; exact absurd y3 c2; exact absurd y3 c4))
            · iterate 2 refine hX0 _ _ _ _ ?_
              refine And.intro (fun c => absurd c (by decide)) (fun _ => ?_)
              iterate 2 refine hX0 _ _ _ _ ?_
              exact h2 j hR hS (by omega) ⟨by rw [← fa_le]; exact Int32.not_lt.mp c6, Or.inr c4⟩
  iterate 3 refine hX0 _ _ _ _ ?_
  refine x_isMessage hme (fun c1 => ?_) (fun c2 => ?_)
  · refine hX0 _ _ _ _ ?_
    refine And.intro (fun c => absurd c (by decide)) (fun _ => ?_)
    iterate 4 refine hX0 _ _ _ _ ?_
    refine r_within (0) (100000) rfl rfl (fun c3 => ?_) (fun c4 => ?_)
    · refine hX0 _ _ _ _ ?_
      refine And.intro (fun _ => ?_) (fun c => absurd c (by decide))
      iterate 3 refine hX0 _ _ _ _ ?_
      refine g_36 (Nat.le_of_ble_eq_true rfl) ?_
      intro X1 hX1
      iterate 4 refine hX1 _ _ _ _ ?_
      refine And.intro (by first | (rw [vp_in_iff]; omega) | exact vp_in_nI (by omega) (by omega) | (rw [vp_in_iff]; first | omega | ((try simp only [fa_le, fa_lt, fa_eq, va_up] at c1 c3 ⊢) <;> (try simp [-Int32.toInt_sub, -Int32.toInt_add, -Int32.toInt_mul, -Int32.toInt_neg, -Int64.toInt_sub, -Int64.toInt_add] at c1 c3 ⊢) <;> omega))) ?_
      iterate 4 refine hX1 _ _ _ _ ?_
      refine And.intro (by first | (rw [vp_in_iff]; omega) | exact vp_in_nI (by omega) (by omega) | (rw [vp_in_iff]; first | omega | ((try simp only [fa_le, fa_lt, fa_eq, va_up] at c1 c3 ⊢) <;> (try simp [-Int32.toInt_sub, -Int32.toInt_add, -Int32.toInt_mul, -Int32.toInt_neg, -Int64.toInt_sub, -Int64.toInt_add] at c1 c3 ⊢) <;> omega))) ?_
      refine hX1 _ _ _ _ ?_
      refine And.intro (fun c5 => ?_) (fun c5 => ?_)
      · iterate 2 refine hX1 _ _ _ _ ?_
        refine And.intro (by first | exact Or.inl rfl | exact Or.inr rfl | first | (rw [vp_in_iff]; omega) | exact vp_in_nI (by omega) (by omega) | (rw [vp_in_iff]; first | omega | ((try simp only [fa_le, fa_lt, fa_eq, va_up] at c1 c3 c5 ⊢) <;> (try simp [-Int32.toInt_sub, -Int32.toInt_add, -Int32.toInt_mul, -Int32.toInt_neg, -Int64.toInt_sub, -Int64.toInt_add] at c1 c3 c5 ⊢) <;> omega))) ?_
        refine hX0 _ _ _ _ ?_
        refine And.intro (fun c => absurd c (by decide)) (fun _ => ?_)
        iterate 2 refine hX0 _ _ _ _ ?_
        first | exact h1 (by omega) c5 | exact h0 (by omega)
      · iterate 3 refine hX1 _ _ _ _ ?_
        refine And.intro (by first | exact Or.inl rfl | exact Or.inr rfl | first | (rw [vp_in_iff]; omega) | exact vp_in_nI (by omega) (by omega) | (rw [vp_in_iff]; first | omega | ((try simp only [fa_le, fa_lt, fa_eq, va_up] at c1 c3 c5 ⊢) <;> (try simp [-Int32.toInt_sub, -Int32.toInt_add, -Int32.toInt_mul, -Int32.toInt_neg, -Int64.toInt_sub, -Int64.toInt_add] at c1 c3 c5 ⊢) <;> omega))) ?_
        refine hX0 _ _ _ _ ?_
        refine And.intro (fun _ => ?_) (fun c => absurd c (by decide))
        iterate 2 refine hX0 _ _ _ _ ?_
        have kk := key (by omega) c5 (s 21).toNatClampNeg 0 none none rfl (by omega) (fun f hf => absurd hf (Nat.not_lt_zero f))
        rw [nI_0] at kk
        exact kk
    · refine hX0 _ _ _ _ ?_
      refine And.intro (fun c => absurd c (by decide)) (fun _ => ?_)
      iterate 2 refine hX0 _ _ _ _ ?_
      first | exact h1 (by omega) c4 | exact h0 (by omega)
  · refine hX0 _ _ _ _ ?_
    refine And.intro (fun _ => ?_) (fun c => absurd c (by decide))
    iterate 2 refine hX0 _ _ _ _ ?_
    first | exact h1 (by omega) c2 | exact h0 (by omega)

set_option maxRecDepth 100000 in
theorem x_arrived {d : Nat} {s : Nat → Int32} {a : Nat → Nat → Int32} {w : Bool} {Z : zH} {x y : Int32} {Q : zQ} (hme : 0 ≤ (s 20).toInt ∧ (s 20).toInt ≤ 100) (hfa : 0 ≤ (s 21).toInt ∧ (s 21).toInt ≤ 60) (hfH : ∀ i : Nat, (i : Int) < (s 21).toInt → 0 ≤ (a 32 i).toInt ∧ (a 32 i).toInt ≤ 2399) (h0 : ¬ ((0 ≤ x.toInt ∧ x.toInt < (s 20).toInt) ∧ (0 ≤ y.toInt ∧ y.toInt ≤ 100000)) → Q (some (.int (-1))) (HX s a w ++ Z)) (h1 : (0 ≤ x.toInt ∧ x.toInt < (s 20).toInt) ∧ (0 ≤ y.toInt ∧ y.toInt ≤ 100000) → ¬ (a 28 x.toNatClampNeg = a 26 x.toNatClampNeg) → Q (some (.int 0)) (HX s a w ++ Z)) (h2 : ∀ f : Nat, (0 ≤ x.toInt ∧ x.toInt < (s 20).toInt) ∧ (0 ≤ y.toInt ∧ y.toInt ≤ 100000) → a 28 x.toNatClampNeg = a 26 x.toNatClampNeg → (f : Int) < (s 21).toInt → ((a 33 f).toInt ≤ y.toInt ∧ (a 30 x.toNatClampNeg = a 32 f ∨ a 31 (a 32 f).toNatClampNeg = x + 1)) → Q (some (.int 0)) (HX s a w ++ Z)) (h3 : (0 ≤ x.toInt ∧ x.toInt < (s 20).toInt) ∧ (0 ≤ y.toInt ∧ y.toInt ≤ 100000) → a 28 x.toNatClampNeg = a 26 x.toNatClampNeg → (∀ f : Nat, (f : Int) < (s 21).toInt → ¬ ((a 33 f).toInt ≤ y.toInt ∧ (a 30 x.toNatClampNeg = a 32 f ∨ a 31 (a 32 f).toNatClampNeg = x + 1))) → Q (some (.int 1)) (HX s a w ++ Z)) : zG (d + 4) 101 [.ref 0, .int x, .int y] (HX s a w ++ Z) Q := by
  refine g_101 (Nat.le_of_ble_eq_true rfl) ?_
  intro X0 hX0
  iterate 5 refine hX0 _ _ _ _ ?_
  refine x_hasArrived hme hfa hfH (fun q1 => ?_) (fun q1 q2 => ?_) (fun f q1 q2 q3 q4 => ?_) (fun q1 q2 q3 => ?_)
  all_goals refine hX0 _ _ _ _ ?_
  · exact h0 q1
  · exact h1 q1 q2
  · exact h2 f q1 q2 q3 q4
  · exact h3 q1 q2 q3

set_option maxRecDepth 100000 in
theorem y_arrived {d : Nat} {s : Nat → Int32} {a : Nat → Nat → Int32} {w : Bool} {t : Nat → Int32} {b : Nat → Nat → Int32} {u : Nat → Int64} {c : Nat → Nat → Int64} {x y : Int32} {G : Nat} {Q : zQ} (hme : 0 ≤ (t 29).toInt ∧ (t 29).toInt ≤ 100) (hfa : 0 ≤ (t 31).toInt ∧ (t 31).toInt ≤ 60) (hG : t 30 = nI G) (hG2 : G ≤ 2600) (h0 : ¬ ((0 ≤ x.toInt ∧ x.toInt < (t 29).toInt) ∧ (0 ≤ y.toInt ∧ y.toInt ≤ 100000)) → Q (some (.int (-1))) (HX s a w ++ HM (va_up t 0 0) b u c)) (h1 : (0 ≤ x.toInt ∧ x.toInt < (t 29).toInt) ∧ (0 ≤ y.toInt ∧ y.toInt ≤ 100000) → ¬ (b 38 x.toNatClampNeg = b 36 x.toNatClampNeg) → Q (some (.int 0)) (HX s a w ++ HM (va_up t 0 0) b u c)) (h2 : ∀ g f : Nat, (0 ≤ x.toInt ∧ x.toInt < (t 29).toInt) ∧ (0 ≤ y.toInt ∧ y.toInt ≤ 100000) → b 38 x.toNatClampNeg = b 36 x.toNatClampNeg → g < G → (f : Int) < (t 31).toInt → (b 41 g = x ∧ b 43 f = b 42 g ∧ (b 44 f).toInt ≤ y.toInt) → Q (some (.int 0)) (HX s a w ++ HM (va_up t 0 0) b u c)) (h3 : (0 ≤ x.toInt ∧ x.toInt < (t 29).toInt) ∧ (0 ≤ y.toInt ∧ y.toInt ≤ 100000) → b 38 x.toNatClampNeg = b 36 x.toNatClampNeg → (∀ g f : Nat, g < G → (f : Int) < (t 31).toInt → ¬ (b 41 g = x ∧ b 43 f = b 42 g ∧ (b 44 f).toInt ≤ y.toInt)) → Q (some (.int 1)) (HX s a w ++ HM (va_up t 0 0) b u c)) : zG (d + 2) 154 [.ref 56, .int x, .int y] (HX s a w ++ HM t b u c) Q := by
  refine g_154 (Nat.le_of_ble_eq_true rfl) ?_
  intro X0 hX0
  have hF := cl_int (t 31) hfa.1
  have hGI : (t 30).toInt = (G : Int) := by rw [hG, nI_toInt (by omega)]
  have done : ((0 ≤ x.toInt ∧ x.toInt < (t 29).toInt) ∧ (0 ≤ y.toInt ∧ y.toInt ≤ 100000)) → ∀ (n : Nat) (o5 : Option Value), (∃ g f : Nat, b 38 x.toNatClampNeg = b 36 x.toNatClampNeg ∧ g < G ∧ (f : Int) < (t 31).toInt ∧ (b 41 g = x ∧ b 43 f = b 42 g ∧ (b 44 f).toInt ≤ y.toInt)) → X0 59 [some (.ref 56), some (.int x), some (.int y), some (.int 0), some (.int (nI n)), o5] [] (HX s a w ++ HM (va_up t 0 0) b u c) := by
    intro hR n o5 hx
    obtain ⟨g, f, z1, z2, z3, z4⟩ := hx
    iterate 4 refine hX0 _ _ _ _ ?_
    refine And.intro (fun c1 => ?_) (fun c1 => ?_)
    all_goals iterate 2 refine hX0 _ _ _ _ ?_
    · refine And.intro (fun _ => ?_) (fun c => absurd c (by decide))
      iterate 2 refine hX0 _ _ _ _ ?_
      exact h2 g f hR z1 z2 z3 z4
    · refine And.intro (fun _ => ?_) (fun c => absurd c (by decide))
      iterate 2 refine hX0 _ _ _ _ ?_
      refine And.intro (fun _ => ?_) (fun c => absurd c (by decide))
      iterate 2 refine hX0 _ _ _ _ ?_
      exact h2 g f hR z1 z2 z3 z4
  have key : ((0 ≤ x.toInt ∧ x.toInt < (t 29).toInt) ∧ (0 ≤ y.toInt ∧ y.toInt ≤ 100000)) → b 38 x.toNatClampNeg = b 36 x.toNatClampNeg → ∀ (n g : Nat) (o5 : Option Value), G - g = n → g ≤ G → (∀ g' f : Nat, g' < g → (f : Int) < (t 31).toInt → ¬ (b 41 g' = x ∧ b 43 f = b 42 g' ∧ (b 44 f).toInt ≤ y.toInt)) → X0 59 [some (.ref 56), some (.int x), some (.int y), some (.int 1), some (.int (nI g)), o5] [] (HX s a w ++ HM (va_up t 0 0) b u c) := by
    intro hR hS n
    induction n with
    | zero =>
      intro g o5 q1 q2 q3
      have hJ : (nI g).toInt = (g : Int) := nI_toInt (by omega)
      iterate 4 refine hX0 _ _ _ _ ?_
      refine And.intro (fun c1 => ?_) (fun c1 => ?_)
      · iterate 2 refine hX0 _ _ _ _ ?_
        refine And.intro (fun c => absurd c (by decide)) (fun _ => ?_)
        iterate 3 refine hX0 _ _ _ _ ?_
        exact h3 hR hS (fun g' f hf => q3 g' f (by omega))
      · exfalso
        rw [fa_le] at c1
        change ¬ (t 30).toInt ≤ _ at c1
        omega
    | succ n ih =>
      intro g o5 q1 q2 q3
      have hJ : (nI g).toInt = (g : Int) := nI_toInt (by omega)
      have hcg : (nI g).toNatClampNeg = g := nI_clamp (by omega)
      have K : ∀ (p5 : Option Value), (∀ f : Nat, (f : Int) < (t 31).toInt → ¬ (b 41 g = x ∧ b 43 f = b 42 g ∧ (b 44 f).toInt ≤ y.toInt)) → X0 59 [some (.ref 56), some (.int x), some (.int y), some (.int 1), some (.int (nI g + 1)), p5] [] (HX s a w ++ HM (va_up t 0 0) b u c) := by
        intro p5 hn
        rw [nI_1]
        refine ih (g + 1) p5 (by omega) (by omega) (fun g' f hf => ?_)
        rcases Nat.lt_or_ge g' g with hh | hh
        · exact q3 g' f hh
        · rw [show g' = g by omega]
          exact hn f
      have dead : ∀ (m f : Nat), (t 31).toNatClampNeg - f = m → f ≤ (t 31).toNatClampNeg → b 41 g = x → (∃ g f : Nat, b 38 x.toNatClampNeg = b 36 x.toNatClampNeg ∧ g < G ∧ (f : Int) < (t 31).toInt ∧ (b 41 g = x ∧ b 43 f = b 42 g ∧ (b 44 f).toInt ≤ y.toInt)) → X0 75 [some (.ref 56), some (.int x), some (.int y), some (.int 0), some (.int (nI g)), some (.int (nI f))] [] (HX s a w ++ HM (va_up t 0 0) b u c) := by
        intro m
        induction m with
        | zero =>
          intro f d1 d2 dg d3
          have hK : (nI f).toInt = (f : Int) := nI_toInt (by omega)
          iterate 4 refine hX0 _ _ _ _ ?_
          refine And.intro (fun c1 => ?_) (fun c1 => ?_)
          · iterate 2 refine hX0 _ _ _ _ ?_
            rw [nI_1]
            exact done hR _ _ d3
          · exfalso
            rw [fa_le] at c1
            change ¬ (t 31).toInt ≤ _ at c1
            omega
        | succ m ih2 =>
          intro f d1 d2 dg d3
          have hK : (nI f).toInt = (f : Int) := nI_toInt (by omega)
          iterate 4 refine hX0 _ _ _ _ ?_
          refine And.intro (fun c1 => ?_) (fun c1 => ?_)
          · exfalso
            first | (have e9 := c1; rw [fa_le] at e9; change (t 31).toInt ≤ _ at e9; omega) | exact absurd dg c1
          · iterate 4 refine hX0 _ _ _ _ ?_
            refine And.intro (by first | exact vp_in_nI (by omega) (by omega) | (rw [vp_in_iff]; omega)) ?_
            rw [hcg]
            iterate 2 refine hX0 _ _ _ _ ?_
            refine And.intro (fun c2 => ?_) (fun c2 => ?_)
            · exfalso
              first | (have e9 := c1; rw [fa_le] at e9; change (t 31).toInt ≤ _ at e9; omega) | exact absurd dg c2
            · iterate 2 refine hX0 _ _ _ _ ?_
              refine And.intro (fun _ => ?_) (fun c => absurd c (by decide))
              iterate 4 refine hX0 _ _ _ _ ?_
              rw [nI_1]
              exact ih2 (f + 1) (by omega) (by omega) dg d3
      have inner : ∀ (m f : Nat), (t 31).toNatClampNeg - f = m → f ≤ (t 31).toNatClampNeg → (∀ f' : Nat, f' < f → ¬ (b 41 g = x ∧ b 43 f' = b 42 g ∧ (b 44 f').toInt ≤ y.toInt)) → X0 75 [some (.ref 56), some (.int x), some (.int y), some (.int 1), some (.int (nI g)), some (.int (nI f))] [] (HX s a w ++ HM (va_up t 0 0) b u c) := by
        intro m
        induction m with
        | zero =>
          intro f d1 d2 d3
          have hK : (nI f).toInt = (f : Int) := nI_toInt (by omega)
          iterate 4 refine hX0 _ _ _ _ ?_
          refine And.intro (fun c1 => ?_) (fun c1 => ?_)
          · iterate 2 refine hX0 _ _ _ _ ?_
            exact K _ (fun f' hf => d3 f' (by omega))
          · exfalso
            rw [fa_le] at c1
            change ¬ (t 31).toInt ≤ _ at c1
            omega
        | succ m ih2 =>
          intro f d1 d2 d3
          have hK : (nI f).toInt = (f : Int) := nI_toInt (by omega)
          have hcf : (nI f).toNatClampNeg = f := nI_clamp (by omega)
          iterate 4 refine hX0 _ _ _ _ ?_
          refine And.intro (fun c1 => ?_) (fun c1 => ?_)
          · exfalso
            have e9 := c1
            rw [fa_le] at e9
            change (t 31).toInt ≤ _ at e9
            omega
          · iterate 4 refine hX0 _ _ _ _ ?_
            refine And.intro (by first | exact vp_in_nI (by omega) (by omega) | (rw [vp_in_iff]; omega)) ?_
            rw [hcg]
            iterate 2 refine hX0 _ _ _ _ ?_
            refine And.intro (fun c2 => ?_) (fun c2 => ?_)
            · iterate 2 refine hX0 _ _ _ _ ?_
              exact K _ (fun f' _ z => absurd z.1 c2)
            · iterate 2 refine hX0 _ _ _ _ ?_
              refine And.intro (fun c => absurd c (by decide)) (fun _ => ?_)
              iterate 4 refine hX0 _ _ _ _ ?_
              refine And.intro (by first | exact vp_in_nI (by omega) (by omega) | (rw [vp_in_iff]; omega)) ?_
              rw [hcf]
              iterate 4 refine hX0 _ _ _ _ ?_
              refine And.intro (by first | exact vp_in_nI (by omega) (by omega) | (rw [vp_in_iff]; omega)) ?_
              rw [hcg]
              refine hX0 _ _ _ _ ?_
              refine And.intro (fun c3 => ?_) (fun c3 => ?_)
              · iterate 5 refine hX0 _ _ _ _ ?_
                rw [nI_1]
                refine ih2 (f + 1) (by omega) (by omega) (fun f' hf => ?_)
                rcases Nat.lt_or_ge f' f with hh | hh
                · exact d3 f' hh
                · rw [show f' = f by omega]
                  exact fun z => absurd z.2.1 c3
              · iterate 4 refine hX0 _ _ _ _ ?_
                refine And.intro (by first | exact vp_in_nI (by omega) (by omega) | (rw [vp_in_iff]; omega)) ?_
                rw [hcf]
                iterate 2 refine hX0 _ _ _ _ ?_
                refine And.intro (fun c4 => ?_) (fun c4 => ?_)
                · iterate 4 refine hX0 _ _ _ _ ?_
                  rw [nI_1]
                  exact dead m (f + 1) (by omega) (by omega) c2 ⟨g, f, hS, by omega, by omega, c2, c3, by rw [← fa_le]; exact c4⟩
                · iterate 5 refine hX0 _ _ _ _ ?_
                  rw [nI_1]
                  refine ih2 (f + 1) (by omega) (by omega) (fun f' hf => ?_)
                  rcases Nat.lt_or_ge f' f with hh | hh
                  · exact d3 f' hh
                  · rw [show f' = f by omega]
                    exact fun z => absurd ((fa_le _ _).mpr z.2.2) c4
      iterate 4 refine hX0 _ _ _ _ ?_
      refine And.intro (fun c1 => ?_) (fun c1 => ?_)
      · iterate 2 refine hX0 _ _ _ _ ?_
        refine And.intro (fun c => absurd c (by decide)) (fun _ => ?_)
        iterate 3 refine hX0 _ _ _ _ ?_
        exfalso
        have e9 := c1
        rw [fa_le] at e9
        change (t 30).toInt ≤ _ at e9
        omega
      · iterate 2 refine hX0 _ _ _ _ ?_
        refine And.intro (fun c => absurd c (by decide)) (fun _ => ?_)
        iterate 2 refine hX0 _ _ _ _ ?_
        have kk := inner (t 31).toNatClampNeg 0 rfl (by omega) (fun f' hf => absurd hf (Nat.not_lt_zero _))
        rw [nI_0] at kk
        exact kk
  iterate 3 refine hX0 _ _ _ _ ?_
  refine zcast (X := X0) yt_0 ?_
  iterate 9 refine hX0 _ _ _ _ ?_
  refine r_in 0 ((t 29).toInt - 1) rfl (i64_m1 (t 29)) (fun c1 => ?_) (fun c2 => ?_)
  · refine hX0 _ _ _ _ ?_
    refine And.intro (fun c => absurd c (by decide)) (fun _ => ?_)
    iterate 5 refine hX0 _ _ _ _ ?_
    refine r_in (0) (100000) rfl rfl (fun c3 => ?_) (fun c4 => ?_)
    · refine hX0 _ _ _ _ ?_
      refine And.intro (fun _ => ?_) (fun c => absurd c (by decide))
      iterate 4 refine hX0 _ _ _ _ ?_
      refine And.intro (by rw [vp_in_iff]; omega) ?_
      iterate 4 refine hX0 _ _ _ _ ?_
      refine And.intro (by rw [vp_in_iff]; omega) ?_
      refine hX0 _ _ _ _ ?_
      refine And.intro (fun c5 => ?_) (fun c5 => ?_)
      · iterate 4 refine hX0 _ _ _ _ ?_
        have qS := c5
        iterate 4 refine hX0 _ _ _ _ ?_
        refine And.intro (fun c1 => ?_) (fun c1 => ?_)
        all_goals iterate 2 refine hX0 _ _ _ _ ?_
        · refine And.intro (fun _ => ?_) (fun c => absurd c (by decide))
          iterate 2 refine hX0 _ _ _ _ ?_
          exact h1 (by omega) qS
        · refine And.intro (fun _ => ?_) (fun c => absurd c (by decide))
          iterate 2 refine hX0 _ _ _ _ ?_
          refine And.intro (fun _ => ?_) (fun c => absurd c (by decide))
          iterate 2 refine hX0 _ _ _ _ ?_
          exact h1 (by omega) qS
      · iterate 5 refine hX0 _ _ _ _ ?_
        have kk := key (by omega) c5 G 0 none rfl (by omega) (fun g' f hf => absurd hf (Nat.not_lt_zero _))
        rw [nI_0] at kk
        exact kk
    · refine hX0 _ _ _ _ ?_
      refine And.intro (fun c => absurd c (by decide)) (fun _ => ?_)
      iterate 2 refine hX0 _ _ _ _ ?_
      exact h0 (by omega)
  · refine hX0 _ _ _ _ ?_
    refine And.intro (fun _ => ?_) (fun c => absurd c (by decide))
    iterate 2 refine hX0 _ _ _ _ ?_
    exact h0 (by omega)
