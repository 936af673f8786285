/-! LANDING OF BOTH -/

set_option maxRecDepth 100000 in
theorem x_land {d : Nat} {s : Nat → Int32} {a : Nat → Nat → Int32} {w : Bool} {Z : zH} {wi li co : Nat → Int32} {x : Int32} {Q : zQ} (hS : ISky (a 0) wi li co) (h2 : ¬ (0 ≤ x.toInt ∧ x.toInt ≤ 2399) → Q (some (.int (-1))) (HX s a w ++ Z)) (h1 : ∀ p h, p < 2400 → x = nI p → zland (zcalm wi li co) p h → Q (some (.int (nI h))) (HX s a w ++ Z)) (h0 : ∀ p, p < 2400 → x = nI p → znoland (zcalm wi li co) p → Q (some (.int (-1))) (HX s a w ++ Z)) : zG (d + 4) 102 [.ref 0, .int x] (HX s a w ++ Z) Q := by
  refine g_102 (Nat.le_of_ble_eq_true rfl) ?_
  intro X0 hX0
  iterate 2 refine hX0 _ _ _ _ ?_
  refine r_isHour (fun c1 => ?_) (fun c1 => ?_)
  · refine hX0 _ _ _ _ ?_
    refine And.intro (fun c => absurd c (by decide)) (fun _ => ?_)
    have hcx := cl_int x c1.1
    have ex := nI_cl x c1.1
    have hp : x.toNatClampNeg < 2400 := by omega
    generalize x.toNatClampNeg = p at *
    subst ex
    iterate 4 refine hX0 _ _ _ _ ?_
    refine x_firstLanding hS hp (fun h q => ?_) (fun q => ?_)
    · iterate 2 refine hX0 _ _ _ _ ?_
      exact h1 p h hp rfl q
    · iterate 2 refine hX0 _ _ _ _ ?_
      exact h0 p hp rfl q
  · refine hX0 _ _ _ _ ?_
    refine And.intro (fun _ => ?_) (fun c => absurd c (by decide))
    iterate 2 refine hX0 _ _ _ _ ?_
    exact h2 c1

set_option maxRecDepth 100000 in
theorem y_land {d : Nat} {s : Nat → Int32} {a : Nat → Nat → Int32} {w : Bool} {t : Nat → Int32} {b : Nat → Nat → Int32} {u : Nat → Int64} {c : Nat → Nat → Int64} {P : Nat → Int32} {x : Int32} {Q : zQ} (hS : ISky P (b 0) (b 1) (b 2)) (h2 : ¬ (0 ≤ x.toInt ∧ x.toInt ≤ 2399) → Q (some (.int (-1))) (HX s a w ++ HM (va_up t 0 0) b u c)) (h1 : ∀ p h, p < 2400 → x = nI p → zland (zcalm (b 0) (b 1) (b 2)) p h → Q (some (.int (nI h))) (HX s a w ++ HM (va_up t 0 0) b u c)) (h0 : ∀ p, p < 2400 → x = nI p → znoland (zcalm (b 0) (b 1) (b 2)) p → Q (some (.int (-1))) (HX s a w ++ HM (va_up t 0 0) b u c)) : zG (d + 3) 155 [.ref 56, .int x] (HX s a w ++ HM t b u c) Q := by
  refine g_155 (Nat.le_of_ble_eq_true rfl) ?_
  intro X0 hX0
  have key : ∀ (p : Nat), p < 2400 → x = nI p → ∀ (n h : Nat) (o3 o4 : Option Value), 2400 - h = n → p ≤ h → h ≤ 2400 → (∀ j, p ≤ j → j < h → j + 2 < 2400 → ¬ (zcalm (b 0) (b 1) (b 2) j ∧ zcalm (b 0) (b 1) (b 2) (j + 1) ∧ zcalm (b 0) (b 1) (b 2) (j + 2))) → X0 16 [some (.ref 56), some (.int x), some (.int (nI h)), o3, o4] [] (HX s a w ++ HM (va_up t 0 0) b u c) := by
    intro p hp ex n
    induction n with
    | zero =>
      intro h o3 o4 b1 b2 b3 b4
      have hI : (nI h).toInt = (h : Int) := nI_toInt (by omega)
      have hI2 : (nI h + 2).toInt = (h : Int) + 2 := by rw [i32_add (by rw [hI]; simp; omega), hI]; rfl
      iterate 5 refine hX0 _ _ _ _ ?_
      refine And.intro (fun c1 => ?_) (fun c1 => ?_)
      · iterate 2 refine hX0 _ _ _ _ ?_
        exact h0 p hp ex (fun j q1 q2 => b4 j q1 (by omega) q2)
      · exfalso
        rw [fa_le, hI2] at c1
        simp at c1
        omega
    | succ n ih =>
      intro h o3 o4 b1 b2 b3 b4
      have hI : (nI h).toInt = (h : Int) := nI_toInt (by omega)
      have hI2 : (nI h + 2).toInt = (h : Int) + 2 := by rw [i32_add (by rw [hI]; simp; omega), hI]; rfl
      have hI3 : (nI h + 3).toInt = (h : Int) + 3 := by rw [i32_add (by rw [hI]; simp; omega), hI]; rfl
      iterate 5 refine hX0 _ _ _ _ ?_
      refine And.intro (fun c1 => ?_) (fun c1 => ?_)
      · iterate 2 refine hX0 _ _ _ _ ?_
        rw [fa_le, hI2] at c1
        simp at c1
        exact h0 p hp ex (fun j q1 q2 => b4 j q1 (by omega) q2)
      · rw [fa_le, hI2] at c1
        simp at c1
        have inner : ∀ (m i : Nat) (is : Int32), 3 - i = m → i ≤ 3 → ((is = 1 ∧ ∀ j, j < i → zcalm (b 0) (b 1) (b 2) (h + j)) ∨ (is = 0 ∧ ∃ j, j < 3 ∧ ¬ zcalm (b 0) (b 1) (b 2) (h + j))) → X0 30 [some (.ref 56), some (.int x), some (.int (nI h)), some (.int is), some (.int (nI (h + i)))] [] (HX s a w ++ HM (va_up t 0 0) b u c) := by
          intro m
          induction m with
          | zero =>
            intro i is d1 d2 d3
            have hJ : (nI (h + i)).toInt = ((h + i : Nat) : Int) := nI_toInt (by omega)
            iterate 5 refine hX0 _ _ _ _ ?_
            refine And.intro (fun c2 => ?_) (fun c2 => ?_)
            · iterate 2 refine hX0 _ _ _ _ ?_
              refine And.intro (fun c3 => ?_) (fun c3 => ?_)
              · iterate 2 refine hX0 _ _ _ _ ?_
                rw [nI_1]
                refine ih (h + 1) _ _ (by omega) (by omega) (by omega) (fun j q1 q2 q3 => ?_)
                rcases Nat.lt_or_ge j h with q | q
                · exact b4 j q1 q q3
                · have ej : j = h := by omega
                  subst ej
                  rcases d3 with ⟨d3, -⟩ | ⟨-, jj, d4, d5⟩
                  · rw [c3] at d3
                    exact absurd d3 (by decide)
                  · rintro ⟨y1, y2, y3⟩
                    rcases (by omega : jj = 0 ∨ jj = 1 ∨ jj = 2) with rfl | rfl | rfl
                    · exact d5 y1
                    · exact d5 y2
                    · exact d5 y3
              · iterate 2 refine hX0 _ _ _ _ ?_
                rcases d3 with ⟨-, d4⟩ | ⟨d3, -⟩
                · exact h1 p h hp ex ⟨b2, by omega, ⟨d4 0 (by omega), d4 1 (by omega), d4 2 (by omega)⟩, fun j q1 q2 => b4 j q1 q2 (by omega)⟩
                · exact absurd d3 c3
            · exfalso
              rw [fa_le, hI3, hJ] at c2
              omega
          | succ m ih2 =>
            intro i is d1 d2 d3
            have hi3 : i < 3 := by omega
            have hJ : (nI (h + i)).toInt = ((h + i : Nat) : Int) := nI_toInt (by omega)
            have hcl : (nI (h + i)).toNatClampNeg = h + i := nI_clamp (by omega)
            have hbit := (hS (h + i) (by omega)).2.1
            iterate 5 refine hX0 _ _ _ _ ?_
            refine And.intro (fun c1 => ?_) (fun c1 => ?_)
            · exfalso
              rw [fa_le, hI3, hJ] at c1
              omega
            · iterate 2 refine hX0 _ _ _ _ ?_
              refine And.intro (fun c2 => ?_) (fun c2 => ?_)
              · iterate 4 refine hX0 _ _ _ _ ?_
                rw [nI_1, show h + i + 1 = h + (i + 1) by omega]
                refine ih2 (i + 1) 0 (by omega) (by omega) (Or.inr ⟨rfl, ?_⟩)
                rcases d3 with ⟨d3, -⟩ | ⟨-, d4⟩
                · rw [c2] at d3
                  exact absurd d3 (by decide)
                · exact d4
              · iterate 4 refine hX0 _ _ _ _ ?_
                refine And.intro (by exact vp_in_nI (by omega) (by omega)) ?_
                refine hX0 _ _ _ _ ?_
                refine And.intro (fun c3 => ?_) (fun c3 => ?_)
                · iterate 4 refine hX0 _ _ _ _ ?_
                  rw [nI_1, show h + i + 1 = h + (i + 1) by omega]
                  refine ih2 (i + 1) 0 (by omega) (by omega) (Or.inr ⟨rfl, ?_⟩)
                  rw [hcl] at c3
                  exact ⟨i, hi3, fun q => absurd (q.1.symm.trans c3) (by decide)⟩
                · iterate 4 refine hX0 _ _ _ _ ?_
                  refine And.intro (by exact vp_in_nI (by omega) (by omega)) ?_
                  iterate 2 refine hX0 _ _ _ _ ?_
                  refine And.intro (fun c4 => ?_) (fun c4 => ?_)
                  · iterate 4 refine hX0 _ _ _ _ ?_
                    rw [nI_1, show h + i + 1 = h + (i + 1) by omega]
                    refine ih2 (i + 1) 0 (by omega) (by omega) (Or.inr ⟨rfl, ?_⟩)
                    rw [hcl] at c4
                    refine ⟨i, hi3, fun q => ?_⟩
                    have q7 := q.2.1
                    rw [fa_lt] at c4
                    simp at c4
                    omega
                  · iterate 4 refine hX0 _ _ _ _ ?_
                    refine And.intro (by exact vp_in_nI (by omega) (by omega)) ?_
                    iterate 2 refine hX0 _ _ _ _ ?_
                    refine And.intro (fun c5 => ?_) (fun c5 => ?_)
                    · iterate 4 refine hX0 _ _ _ _ ?_
                      rw [nI_1, show h + i + 1 = h + (i + 1) by omega]
                      refine ih2 (i + 1) 0 (by omega) (by omega) (Or.inr ⟨rfl, ?_⟩)
                      rw [hcl] at c5
                      refine ⟨i, hi3, fun q => ?_⟩
                      have q7 := q.2.2
                      rw [fa_lt] at c5
                      simp at c5
                      omega
                    · iterate 5 refine hX0 _ _ _ _ ?_
                      rw [nI_1, show h + i + 1 = h + (i + 1) by omega]
                      refine ih2 (i + 1) 1 (by omega) (by omega) (Or.inl ⟨rfl, fun j q => ?_⟩)
                      rcases d3 with ⟨-, d4⟩ | ⟨d3, -⟩
                      · rcases Nat.lt_or_ge j i with q2 | q2
                        · exact d4 j q2
                        · rw [show j = i by omega]
                          rw [hcl] at c3 c4 c5
                          refine ⟨?_, ?_, ?_⟩
                          · rcases hbit with q5 | q5
                            · exact absurd q5 c3
                            · exact q5
                          · rw [fa_lt] at c4
                            simp at c4
                            omega
                          · rw [fa_lt] at c5
                            simp at c5
                            omega
                      · exact absurd d3 c2
        iterate 4 refine hX0 _ _ _ _ ?_
        exact inner 3 0 1 rfl (by omega) (Or.inl ⟨rfl, fun j q => by omega⟩)
  iterate 3 refine hX0 _ _ _ _ ?_
  refine zcast (X := X0) yt_0 ?_
  iterate 2 refine hX0 _ _ _ _ ?_
  refine r_isHourM (fun c1 => ?_) (fun c2 => ?_)
  · refine hX0 _ _ _ _ ?_
    refine And.intro (fun _ => ?_) (fun c => absurd c (by decide))
    iterate 2 refine hX0 _ _ _ _ ?_
    have hcx := cl_int x c1.1
    have ex := nI_cl x c1.1
    have kk := key x.toNatClampNeg (by omega) ex (2400 - x.toNatClampNeg) x.toNatClampNeg none none rfl (Nat.le_refl _) (by omega) (fun j q1 q2 => by omega)
    rw [← ex] at kk
    exact kk
  · refine hX0 _ _ _ _ ?_
    refine And.intro (fun c => absurd c (by decide)) (fun _ => ?_)
    iterate 2 refine hX0 _ _ _ _ ?_
    exact h2 c2
