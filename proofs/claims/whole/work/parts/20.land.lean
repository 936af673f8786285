/-! LANDING -/

set_option maxRecDepth 100000 in
theorem x_isCalm {d : Nat} {s : Nat → Int32} {a : Nat → Nat → Int32} {w : Bool} {Z : zH} {wi li co : Nat → Int32} {k : Nat} {Q : zQ} (hS : ISky (a 0) wi li co) (hk : k < 2400) (h1 : zcalm wi li co k → Q (some (.int 1)) (HX s a w ++ Z)) (h0 : ¬ zcalm wi li co k → Q (some (.int 0)) (HX s a w ++ Z)) : zG (d + 2) 65 [.ref 1, .int (nI k)] (HX s a w ++ Z) Q := by
  refine g_65 (Nat.le_of_ble_eq_true rfl) ?_
  intro X0 hX0
  iterate 3 refine hX0 _ _ _ _ ?_
  refine x_lightAt hS hk (fun c1 => ?_) (fun c2 => ?_)
  · refine hX0 _ _ _ _ ?_
    refine And.intro (fun c => absurd c (by decide)) (fun _ => ?_)
    iterate 3 refine hX0 _ _ _ _ ?_
    refine x_windAt hS hk ?_
    iterate 2 refine hX0 _ _ _ _ ?_
    refine And.intro (fun c4 => ?_) (fun c4 => ?_)
    · iterate 2 refine hX0 _ _ _ _ ?_
      refine And.intro (by first | exact Or.inl rfl | exact Or.inr rfl | rw [vp_in_iff]; first | omega | ((try simp only [fa_le, fa_lt, fa_eq, va_up] at c1 c4 ⊢) <;> (try simp [-Int32.toInt_sub, -Int32.toInt_add, -Int32.toInt_mul, -Int32.toInt_neg, -Int64.toInt_sub, -Int64.toInt_add] at c1 c4 ⊢) <;> omega)) ?_
      first | exact h1 ⟨c1, by first | omega | ((try simp only [fa_le, fa_lt, fa_eq, va_up] at c1 c4 ⊢) <;> (try simp [-Int32.toInt_sub, -Int32.toInt_add, -Int32.toInt_mul, -Int32.toInt_neg, -Int64.toInt_sub, -Int64.toInt_add] at c1 c4 ⊢) <;> omega), by first | omega | ((try simp only [fa_le, fa_lt, fa_eq, va_up] at c1 c4 ⊢) <;> (try simp [-Int32.toInt_sub, -Int32.toInt_add, -Int32.toInt_mul, -Int32.toInt_neg, -Int64.toInt_sub, -Int64.toInt_add] at c1 c4 ⊢) <;> omega)⟩ | exact h0 (by rintro ⟨y1, y2, y3⟩; first | first | omega | ((try simp only [fa_le, fa_lt, fa_eq, va_up] at c1 c4 ⊢) <;> (try simp [-Int32.toInt_sub, -Int32.toInt_add, -Int32.toInt_mul, -Int32.toInt_neg, -Int64.toInt_sub, -Int64.toInt_add] at c1 c4 ⊢) <;> omega) | (rw [c2] at y1; exact absurd y1 (by decide)))
    · iterate 3 refine hX0 _ _ _ _ ?_
      refine x_coldAt hS hk ?_
      iterate 2 refine hX0 _ _ _ _ ?_
      refine And.intro (fun c6 => ?_) (fun c6 => ?_)
      · iterate 2 refine hX0 _ _ _ _ ?_
        refine And.intro (by first | exact Or.inl rfl | exact Or.inr rfl | rw [vp_in_iff]; first | omega | ((try simp only [fa_le, fa_lt, fa_eq, va_up] at c1 c4 c6 ⊢) <;> (try simp [-Int32.toInt_sub, -Int32.toInt_add, -Int32.toInt_mul, -Int32.toInt_neg, -Int64.toInt_sub, -Int64.toInt_add] at c1 c4 c6 ⊢) <;> omega)) ?_
        first | exact h1 ⟨c1, by first | omega | ((try simp only [fa_le, fa_lt, fa_eq, va_up] at c1 c4 c6 ⊢) <;> (try simp [-Int32.toInt_sub, -Int32.toInt_add, -Int32.toInt_mul, -Int32.toInt_neg, -Int64.toInt_sub, -Int64.toInt_add] at c1 c4 c6 ⊢) <;> omega), by first | omega | ((try simp only [fa_le, fa_lt, fa_eq, va_up] at c1 c4 c6 ⊢) <;> (try simp [-Int32.toInt_sub, -Int32.toInt_add, -Int32.toInt_mul, -Int32.toInt_neg, -Int64.toInt_sub, -Int64.toInt_add] at c1 c4 c6 ⊢) <;> omega)⟩ | exact h0 (by rintro ⟨y1, y2, y3⟩; first | first | omega | ((try simp only [fa_le, fa_lt, fa_eq, va_up] at c1 c4 c6 ⊢) <;> (try simp [-Int32.toInt_sub, -Int32.toInt_add, -Int32.toInt_mul, -Int32.toInt_neg, -Int64.toInt_sub, -Int64.toInt_add] at c1 c4 c6 ⊢) <;> omega) | (rw [c2] at y1; exact absurd y1 (by decide)))
      · iterate 3 refine hX0 _ _ _ _ ?_
        refine And.intro (by first | exact Or.inl rfl | exact Or.inr rfl | rw [vp_in_iff]; first | omega | ((try simp only [fa_le, fa_lt, fa_eq, va_up] at c1 c4 c6 ⊢) <;> (try simp [-Int32.toInt_sub, -Int32.toInt_add, -Int32.toInt_mul, -Int32.toInt_neg, -Int64.toInt_sub, -Int64.toInt_add] at c1 c4 c6 ⊢) <;> omega)) ?_
        first | exact h1 ⟨c1, by first | omega | ((try simp only [fa_le, fa_lt, fa_eq, va_up] at c1 c4 c6 ⊢) <;> (try simp [-Int32.toInt_sub, -Int32.toInt_add, -Int32.toInt_mul, -Int32.toInt_neg, -Int64.toInt_sub, -Int64.toInt_add] at c1 c4 c6 ⊢) <;> omega), by first | omega | ((try simp only [fa_le, fa_lt, fa_eq, va_up] at c1 c4 c6 ⊢) <;> (try simp [-Int32.toInt_sub, -Int32.toInt_add, -Int32.toInt_mul, -Int32.toInt_neg, -Int64.toInt_sub, -Int64.toInt_add] at c1 c4 c6 ⊢) <;> omega)⟩ | exact h0 (by rintro ⟨y1, y2, y3⟩; first | first | omega | ((try simp only [fa_le, fa_lt, fa_eq, va_up] at c1 c4 c6 ⊢) <;> (try simp [-Int32.toInt_sub, -Int32.toInt_add, -Int32.toInt_mul, -Int32.toInt_neg, -Int64.toInt_sub, -Int64.toInt_add] at c1 c4 c6 ⊢) <;> omega) | (rw [c2] at y1; exact absurd y1 (by decide)))
  · refine hX0 _ _ _ _ ?_
    refine And.intro (fun _ => ?_) (fun c => absurd c (by decide))
    iterate 2 refine hX0 _ _ _ _ ?_
    refine And.intro (by first | exact Or.inl rfl | exact Or.inr rfl | rw [vp_in_iff]; first | omega | ((try simp only [fa_le, fa_lt, fa_eq, va_up] at c2 ⊢) <;> (try simp [-Int32.toInt_sub, -Int32.toInt_add, -Int32.toInt_mul, -Int32.toInt_neg, -Int64.toInt_sub, -Int64.toInt_add] at c2 ⊢) <;> omega)) ?_
    first | exact h1 ⟨c1, by first | omega | ((try simp only [fa_le, fa_lt, fa_eq, va_up] at c2 ⊢) <;> (try simp [-Int32.toInt_sub, -Int32.toInt_add, -Int32.toInt_mul, -Int32.toInt_neg, -Int64.toInt_sub, -Int64.toInt_add] at c2 ⊢) <;> omega), by first | omega | ((try simp only [fa_le, fa_lt, fa_eq, va_up] at c2 ⊢) <;> (try simp [-Int32.toInt_sub, -Int32.toInt_add, -Int32.toInt_mul, -Int32.toInt_neg, -Int64.toInt_sub, -Int64.toInt_add] at c2 ⊢) <;> omega)⟩ | exact h0 (by rintro ⟨y1, y2, y3⟩; first | first | omega | ((try simp only [fa_le, fa_lt, fa_eq, va_up] at c2 ⊢) <;> (try simp [-Int32.toInt_sub, -Int32.toInt_add, -Int32.toInt_mul, -Int32.toInt_neg, -Int64.toInt_sub, -Int64.toInt_add] at c2 ⊢) <;> omega) | (rw [c2] at y1; exact absurd y1 (by decide)))

set_option maxRecDepth 100000 in
theorem x_firstLanding {d : Nat} {s : Nat → Int32} {a : Nat → Nat → Int32} {w : Bool} {Z : zH} {wi li co : Nat → Int32} {p : Nat} {Q : zQ} (hS : ISky (a 0) wi li co) (hp : p < 2400) (h1 : ∀ h, zland (zcalm wi li co) p h → Q (some (.int (nI h))) (HX s a w ++ Z)) (h0 : znoland (zcalm wi li co) p → Q (some (.int (-1))) (HX s a w ++ Z)) : zG (d + 3) 66 [.ref 1, .int (nI p)] (HX s a w ++ Z) Q := by
  refine g_66 (Nat.le_of_ble_eq_true rfl) ?_
  intro X0 hX0
  have key : ∀ (n k c : Nat), 2400 - k = n → p + c ≤ k → k ≤ 2400 → c < 3 → (∀ j, k < j + c + 1 → j < k → zcalm wi li co j) → (p + c < k → ¬ zcalm wi li co (k - c - 1)) → (∀ j, p ≤ j → j + 2 < k → ¬ (zcalm wi li co j ∧ zcalm wi li co (j + 1) ∧ zcalm wi li co (j + 2))) → X0 4 [some (.ref 1), some (.int (nI p)), some (.int (nI c)), some (.int (nI k))] [] (HX s a w ++ Z) := by
    intro n
    induction n with
    | zero =>
      intro k c b1 b2 b3 b4 b5 b6 b7
      have hkI : (nI k).toInt = (k : Int) := nI_toInt (by omega)
      have hk0 : k = 2400 := by omega
      iterate 3 refine hX0 _ _ _ _ ?_
      refine And.intro (fun c1 => ?_) (fun c1 => ?_)
      · iterate 2 refine hX0 _ _ _ _ ?_
        exact h0 (fun j q1 q2 => b7 j q1 (by omega))
      · exfalso
        rw [fa_le] at c1
        simp at c1
        omega
    | succ n ih =>
      intro k c b1 b2 b3 b4 b5 b6 b7
      have hk : k < 2400 := by omega
      have hkI : (nI k).toInt = (k : Int) := nI_toInt (by omega)
      iterate 3 refine hX0 _ _ _ _ ?_
      refine And.intro (fun c1 => ?_) (fun c1 => ?_)
      · iterate 2 refine hX0 _ _ _ _ ?_
        exfalso
        first | omega | ((try simp only [fa_le, fa_lt, fa_eq, va_up] at c1 ⊢) <;> (try simp [-Int32.toInt_sub, -Int32.toInt_add, -Int32.toInt_mul, -Int32.toInt_neg, -Int64.toInt_sub, -Int64.toInt_add] at c1 ⊢) <;> omega)
      · iterate 3 refine hX0 _ _ _ _ ?_
        refine x_isCalm hS hk (fun c2 => ?_) (fun c3 => ?_)
        · refine hX0 _ _ _ _ ?_
          refine And.intro (fun c => absurd c (by decide)) (fun _ => ?_)
          iterate 8 refine hX0 _ _ _ _ ?_
          refine And.intro (fun c4 => ?_) (fun c4 => ?_)
          · iterate 2 refine hX0 _ _ _ _ ?_
            rw [nI_1, nI_1]
            refine ih (k + 1) (c + 1) (by omega) (by omega) (by omega) (by rw [nI_1] at c4; rw [fa_eq, nI_toInt (by omega)] at c4; simp at c4; omega) (fun j q1 q2 => ?_) (fun q => ?_) (fun j q1 q2 => ?_)
            · rcases Nat.lt_or_ge j k with q | q
              · exact b5 j (by omega) q
              · rw [show j = k by omega]; exact c2
            · rw [show k + 1 - (c + 1) - 1 = k - c - 1 by omega]; exact b6 (by omega)
            · rcases Nat.lt_or_ge (j + 2) k with q | q
              · exact b7 j q1 q
              · intro hh
                have ej : j + 2 = k := by omega
                rw [nI_1, fa_eq, nI_toInt (by omega)] at c4
                simp at c4
                rcases (by omega : c = 0 ∨ c = 1) with rfl | rfl
                · exact b6 (by omega) (by rw [show k - 0 - 1 = j + 1 by omega]; exact hh.2.1)
                · exact b6 (by omega) (by rw [show k - 1 - 1 = j by omega]; exact hh.1)
          · iterate 6 refine hX0 _ _ _ _ ?_
            have hc2 : c = 2 := by rw [nI_1, fa_eq, nI_toInt (by omega)] at c4; simp at c4; omega
            have e : nI k - 3 + 1 = nI (k - 2) := by
              rw [← Int32.toInt_inj, i32_add (by rw [i32_sub (by rw [hkI]; simp; omega), hkI]; simp; omega), i32_sub (by rw [hkI]; simp; omega), hkI, nI_toInt (by omega)]
              simp
              omega
            rw [e]
            refine h1 (k - 2) ⟨by omega, by omega, ⟨b5 _ (by omega) (by omega), b5 _ (by omega) (by omega), ?_⟩, fun j q1 q2 => b7 j q1 (by omega)⟩
            rw [show k - 2 + 2 = k by omega]
            exact c2
        · refine hX0 _ _ _ _ ?_
          refine And.intro (fun _ => ?_) (fun c => absurd c (by decide))
          iterate 5 refine hX0 _ _ _ _ ?_
          refine And.intro (fun _ => ?_) (fun c => absurd c (by decide))
          iterate 2 refine hX0 _ _ _ _ ?_
          rw [nI_1]
          have kk := ih (k + 1) 0 (by omega) (by omega) (by omega) (by omega) (fun j q1 q2 => by omega) (fun _ => by simpa using c3) (fun j q1 q2 => ?_)
          · rw [nI_0] at kk
            exact kk
          · rcases Nat.lt_or_ge (j + 2) k with q | q
            · exact b7 j q1 q
            · intro hh
              have ej : j + 2 = k := by omega
              rw [ej] at hh
              exact c3 hh.2.2
  iterate 4 refine hX0 _ _ _ _ ?_
  have kk := key (2400 - p) p 0 rfl (by omega) (by omega) (by omega) (fun j q1 q2 => by omega) (fun q => by omega) (fun j q1 q2 => by omega)
  rw [nI_0] at kk
  exact kk
