/-! THE REFERENCE AT A TOKEN -/

set_option maxRecDepth 100000 in
theorem y_word0 {d : Nat} {s : Nat → Int32} {a : Nat → Nat → Int32} {w : Bool} {t : Nat → Int32} {b : Nat → Nat → Int32} {u : Nat → Int64} {c : Nat → Nat → Int64} {Q : zQ} (h1 : (t 18 = 1 ∧ (u 1).toInt = 595572) → Q (some (.int 1)) (HX s a w ++ HM t b u c)) (h0 : ¬ (t 18 = 1 ∧ (u 1).toInt = 595572) → Q (some (.int 0)) (HX s a w ++ HM t b u c)) : zG (d + 1) 139 [.ref 56, .int 114, .int 101, .int 115, .int 116, .int 0, .int 0] (HX s a w ++ HM t b u c) Q := by
  refine g_139 (Nat.le_of_ble_eq_true rfl) ?_
  intro X0 hX0
  iterate 14 refine hX0 _ _ _ _ ?_
  refine And.intro (fun _ => ?_) (fun c => absurd c (by decide))
  iterate 11 refine hX0 _ _ _ _ ?_
  refine And.intro (fun _ => ?_) (fun c => absurd c (by decide))
  iterate 11 refine hX0 _ _ _ _ ?_
  refine And.intro (fun c => absurd c (by decide)) (fun _ => ?_)
  iterate 5 refine hX0 _ _ _ _ ?_
  refine And.intro (fun c => absurd c (by decide)) (fun _ => ?_)
  iterate 7 refine hX0 _ _ _ _ ?_
  refine And.intro (fun c1 => ?_) (fun c1 => ?_)
  · iterate 2 refine hX0 _ _ _ _ ?_
    refine And.intro (by first | exact Or.inl rfl | exact Or.inr rfl | rw [vp_in_iff]; first | omega | ((try simp only [fa_le, fa_lt, fa_eq, va_up] at c1 ⊢) <;> (try simp [-Int32.toInt_sub, -Int32.toInt_add, -Int32.toInt_mul, -Int32.toInt_neg, -Int64.toInt_sub, -Int64.toInt_add] at c1 ⊢) <;> omega)) ?_
    exact h0 (fun z => c1 z.1)
  · iterate 5 refine hX0 _ _ _ _ ?_
    refine And.intro (fun c2 => ?_) (fun c2 => ?_)
    · iterate 2 refine hX0 _ _ _ _ ?_
      refine And.intro (by first | exact Or.inl rfl | exact Or.inr rfl | rw [vp_in_iff]; first | omega | ((try simp only [fa_le, fa_lt, fa_eq, va_up] at c1 c2 ⊢) <;> (try simp [-Int32.toInt_sub, -Int32.toInt_add, -Int32.toInt_mul, -Int32.toInt_neg, -Int64.toInt_sub, -Int64.toInt_add] at c1 c2 ⊢) <;> omega)) ?_
      rw [lg_cmp_eq] at c2
      exact h0 (fun z => c2 (Int64.toInt_inj.mp (z.2.trans (by decide))))
    · iterate 3 refine hX0 _ _ _ _ ?_
      refine And.intro (by first | exact Or.inl rfl | exact Or.inr rfl | rw [vp_in_iff]; first | omega | ((try simp only [fa_le, fa_lt, fa_eq, va_up] at c1 c2 ⊢) <;> (try simp [-Int32.toInt_sub, -Int32.toInt_add, -Int32.toInt_mul, -Int32.toInt_neg, -Int64.toInt_sub, -Int64.toInt_add] at c1 c2 ⊢) <;> omega)) ?_
      rw [lg_cmp_eq] at c2
      exact h1 ⟨c1, by rw [c2]; decide⟩

set_option maxRecDepth 100000 in
theorem y_word1 {d : Nat} {s : Nat → Int32} {a : Nat → Nat → Int32} {w : Bool} {t : Nat → Int32} {b : Nat → Nat → Int32} {u : Nat → Int64} {c : Nat → Nat → Int64} {Q : zQ} (h1 : (t 18 = 1 ∧ (u 1).toInt = 114052) → Q (some (.int 1)) (HX s a w ++ HM t b u c)) (h0 : ¬ (t 18 = 1 ∧ (u 1).toInt = 114052) → Q (some (.int 0)) (HX s a w ++ HM t b u c)) : zG (d + 1) 139 [.ref 56, .int 99, .int 111, .int 108, .int 100, .int 0, .int 0] (HX s a w ++ HM t b u c) Q := by
  refine g_139 (Nat.le_of_ble_eq_true rfl) ?_
  intro X0 hX0
  iterate 14 refine hX0 _ _ _ _ ?_
  refine And.intro (fun _ => ?_) (fun c => absurd c (by decide))
  iterate 11 refine hX0 _ _ _ _ ?_
  refine And.intro (fun _ => ?_) (fun c => absurd c (by decide))
  iterate 11 refine hX0 _ _ _ _ ?_
  refine And.intro (fun c => absurd c (by decide)) (fun _ => ?_)
  iterate 5 refine hX0 _ _ _ _ ?_
  refine And.intro (fun c => absurd c (by decide)) (fun _ => ?_)
  iterate 7 refine hX0 _ _ _ _ ?_
  refine And.intro (fun c1 => ?_) (fun c1 => ?_)
  · iterate 2 refine hX0 _ _ _ _ ?_
    refine And.intro (by first | exact Or.inl rfl | exact Or.inr rfl | rw [vp_in_iff]; first | omega | ((try simp only [fa_le, fa_lt, fa_eq, va_up] at c1 ⊢) <;> (try simp [-Int32.toInt_sub, -Int32.toInt_add, -Int32.toInt_mul, -Int32.toInt_neg, -Int64.toInt_sub, -Int64.toInt_add] at c1 ⊢) <;> omega)) ?_
    exact h0 (fun z => c1 z.1)
  · iterate 5 refine hX0 _ _ _ _ ?_
    refine And.intro (fun c2 => ?_) (fun c2 => ?_)
    · iterate 2 refine hX0 _ _ _ _ ?_
      refine And.intro (by first | exact Or.inl rfl | exact Or.inr rfl | rw [vp_in_iff]; first | omega | ((try simp only [fa_le, fa_lt, fa_eq, va_up] at c1 c2 ⊢) <;> (try simp [-Int32.toInt_sub, -Int32.toInt_add, -Int32.toInt_mul, -Int32.toInt_neg, -Int64.toInt_sub, -Int64.toInt_add] at c1 c2 ⊢) <;> omega)) ?_
      rw [lg_cmp_eq] at c2
      exact h0 (fun z => c2 (Int64.toInt_inj.mp (z.2.trans (by decide))))
    · iterate 3 refine hX0 _ _ _ _ ?_
      refine And.intro (by first | exact Or.inl rfl | exact Or.inr rfl | rw [vp_in_iff]; first | omega | ((try simp only [fa_le, fa_lt, fa_eq, va_up] at c1 c2 ⊢) <;> (try simp [-Int32.toInt_sub, -Int32.toInt_add, -Int32.toInt_mul, -Int32.toInt_neg, -Int64.toInt_sub, -Int64.toInt_add] at c1 c2 ⊢) <;> omega)) ?_
      rw [lg_cmp_eq] at c2
      exact h1 ⟨c1, by rw [c2]; decide⟩

set_option maxRecDepth 100000 in
theorem y_word2 {d : Nat} {s : Nat → Int32} {a : Nat → Nat → Int32} {w : Bool} {t : Nat → Int32} {b : Nat → Nat → Int32} {u : Nat → Int64} {c : Nat → Nat → Int64} {Q : zQ} (h1 : (t 18 = 1 ∧ (u 1).toInt = 294) → Q (some (.int 1)) (HX s a w ++ HM t b u c)) (h0 : ¬ (t 18 = 1 ∧ (u 1).toInt = 294) → Q (some (.int 0)) (HX s a w ++ HM t b u c)) : zG (d + 1) 139 [.ref 56, .int 105, .int 102, .int 0, .int 0, .int 0, .int 0] (HX s a w ++ HM t b u c) Q := by
  refine g_139 (Nat.le_of_ble_eq_true rfl) ?_
  intro X0 hX0
  iterate 14 refine hX0 _ _ _ _ ?_
  refine And.intro (fun c => absurd c (by decide)) (fun _ => ?_)
  iterate 5 refine hX0 _ _ _ _ ?_
  refine And.intro (fun c => absurd c (by decide)) (fun _ => ?_)
  iterate 5 refine hX0 _ _ _ _ ?_
  refine And.intro (fun c => absurd c (by decide)) (fun _ => ?_)
  iterate 5 refine hX0 _ _ _ _ ?_
  refine And.intro (fun c => absurd c (by decide)) (fun _ => ?_)
  iterate 7 refine hX0 _ _ _ _ ?_
  refine And.intro (fun c1 => ?_) (fun c1 => ?_)
  · iterate 2 refine hX0 _ _ _ _ ?_
    refine And.intro (by first | exact Or.inl rfl | exact Or.inr rfl | rw [vp_in_iff]; first | omega | ((try simp only [fa_le, fa_lt, fa_eq, va_up] at c1 ⊢) <;> (try simp [-Int32.toInt_sub, -Int32.toInt_add, -Int32.toInt_mul, -Int32.toInt_neg, -Int64.toInt_sub, -Int64.toInt_add] at c1 ⊢) <;> omega)) ?_
    exact h0 (fun z => c1 z.1)
  · iterate 5 refine hX0 _ _ _ _ ?_
    refine And.intro (fun c2 => ?_) (fun c2 => ?_)
    · iterate 2 refine hX0 _ _ _ _ ?_
      refine And.intro (by first | exact Or.inl rfl | exact Or.inr rfl | rw [vp_in_iff]; first | omega | ((try simp only [fa_le, fa_lt, fa_eq, va_up] at c1 c2 ⊢) <;> (try simp [-Int32.toInt_sub, -Int32.toInt_add, -Int32.toInt_mul, -Int32.toInt_neg, -Int64.toInt_sub, -Int64.toInt_add] at c1 c2 ⊢) <;> omega)) ?_
      rw [lg_cmp_eq] at c2
      exact h0 (fun z => c2 (Int64.toInt_inj.mp (z.2.trans (by decide))))
    · iterate 3 refine hX0 _ _ _ _ ?_
      refine And.intro (by first | exact Or.inl rfl | exact Or.inr rfl | rw [vp_in_iff]; first | omega | ((try simp only [fa_le, fa_lt, fa_eq, va_up] at c1 c2 ⊢) <;> (try simp [-Int32.toInt_sub, -Int32.toInt_add, -Int32.toInt_mul, -Int32.toInt_neg, -Int64.toInt_sub, -Int64.toInt_add] at c1 c2 ⊢) <;> omega)) ?_
      rw [lg_cmp_eq] at c2
      exact h1 ⟨c1, by rw [c2]; decide⟩

set_option maxRecDepth 100000 in
theorem y_word3 {d : Nat} {s : Nat → Int32} {a : Nat → Nat → Int32} {w : Bool} {t : Nat → Int32} {b : Nat → Nat → Int32} {u : Nat → Int64} {c : Nat → Nat → Int64} {Q : zQ} (h1 : (t 18 = 1 ∧ (u 1).toInt = 605693422) → Q (some (.int 1)) (HX s a w ++ HM t b u c)) (h0 : ¬ (t 18 = 1 ∧ (u 1).toInt = 605693422) → Q (some (.int 0)) (HX s a w ++ HM t b u c)) : zG (d + 1) 139 [.ref 56, .int 114, .int 97, .int 116, .int 105, .int 111, .int 110] (HX s a w ++ HM t b u c) Q := by
  refine g_139 (Nat.le_of_ble_eq_true rfl) ?_
  intro X0 hX0
  iterate 14 refine hX0 _ _ _ _ ?_
  refine And.intro (fun _ => ?_) (fun c => absurd c (by decide))
  iterate 11 refine hX0 _ _ _ _ ?_
  refine And.intro (fun _ => ?_) (fun c => absurd c (by decide))
  iterate 11 refine hX0 _ _ _ _ ?_
  refine And.intro (fun _ => ?_) (fun c => absurd c (by decide))
  iterate 11 refine hX0 _ _ _ _ ?_
  refine And.intro (fun _ => ?_) (fun c => absurd c (by decide))
  iterate 13 refine hX0 _ _ _ _ ?_
  refine And.intro (fun c1 => ?_) (fun c1 => ?_)
  · iterate 2 refine hX0 _ _ _ _ ?_
    refine And.intro (by first | exact Or.inl rfl | exact Or.inr rfl | rw [vp_in_iff]; first | omega | ((try simp only [fa_le, fa_lt, fa_eq, va_up] at c1 ⊢) <;> (try simp [-Int32.toInt_sub, -Int32.toInt_add, -Int32.toInt_mul, -Int32.toInt_neg, -Int64.toInt_sub, -Int64.toInt_add] at c1 ⊢) <;> omega)) ?_
    exact h0 (fun z => c1 z.1)
  · iterate 5 refine hX0 _ _ _ _ ?_
    refine And.intro (fun c2 => ?_) (fun c2 => ?_)
    · iterate 2 refine hX0 _ _ _ _ ?_
      refine And.intro (by first | exact Or.inl rfl | exact Or.inr rfl | rw [vp_in_iff]; first | omega | ((try simp only [fa_le, fa_lt, fa_eq, va_up] at c1 c2 ⊢) <;> (try simp [-Int32.toInt_sub, -Int32.toInt_add, -Int32.toInt_mul, -Int32.toInt_neg, -Int64.toInt_sub, -Int64.toInt_add] at c1 c2 ⊢) <;> omega)) ?_
      rw [lg_cmp_eq] at c2
      exact h0 (fun z => c2 (Int64.toInt_inj.mp (z.2.trans (by decide))))
    · iterate 3 refine hX0 _ _ _ _ ?_
      refine And.intro (by first | exact Or.inl rfl | exact Or.inr rfl | rw [vp_in_iff]; first | omega | ((try simp only [fa_le, fa_lt, fa_eq, va_up] at c1 c2 ⊢) <;> (try simp [-Int32.toInt_sub, -Int32.toInt_add, -Int32.toInt_mul, -Int32.toInt_neg, -Int64.toInt_sub, -Int64.toInt_add] at c1 c2 ⊢) <;> omega)) ?_
      rw [lg_cmp_eq] at c2
      exact h1 ⟨c1, by rw [c2]; decide⟩

set_option maxRecDepth 100000 in
theorem y_word4 {d : Nat} {s : Nat → Int32} {a : Nat → Nat → Int32} {w : Bool} {t : Nat → Int32} {b : Nat → Nat → Int32} {u : Nat → Int64} {c : Nat → Nat → Int64} {Q : zQ} (h1 : (t 18 = 1 ∧ (u 1).toInt = 498) → Q (some (.int 1)) (HX s a w ++ HM t b u c)) (h0 : ¬ (t 18 = 1 ∧ (u 1).toInt = 498) → Q (some (.int 0)) (HX s a w ++ HM t b u c)) : zG (d + 1) 139 [.ref 56, .int 111, .int 114, .int 0, .int 0, .int 0, .int 0] (HX s a w ++ HM t b u c) Q := by
  refine g_139 (Nat.le_of_ble_eq_true rfl) ?_
  intro X0 hX0
  iterate 14 refine hX0 _ _ _ _ ?_
  refine And.intro (fun c => absurd c (by decide)) (fun _ => ?_)
  iterate 5 refine hX0 _ _ _ _ ?_
  refine And.intro (fun c => absurd c (by decide)) (fun _ => ?_)
  iterate 5 refine hX0 _ _ _ _ ?_
  refine And.intro (fun c => absurd c (by decide)) (fun _ => ?_)
  iterate 5 refine hX0 _ _ _ _ ?_
  refine And.intro (fun c => absurd c (by decide)) (fun _ => ?_)
  iterate 7 refine hX0 _ _ _ _ ?_
  refine And.intro (fun c1 => ?_) (fun c1 => ?_)
  · iterate 2 refine hX0 _ _ _ _ ?_
    refine And.intro (by first | exact Or.inl rfl | exact Or.inr rfl | rw [vp_in_iff]; first | omega | ((try simp only [fa_le, fa_lt, fa_eq, va_up] at c1 ⊢) <;> (try simp [-Int32.toInt_sub, -Int32.toInt_add, -Int32.toInt_mul, -Int32.toInt_neg, -Int64.toInt_sub, -Int64.toInt_add] at c1 ⊢) <;> omega)) ?_
    exact h0 (fun z => c1 z.1)
  · iterate 5 refine hX0 _ _ _ _ ?_
    refine And.intro (fun c2 => ?_) (fun c2 => ?_)
    · iterate 2 refine hX0 _ _ _ _ ?_
      refine And.intro (by first | exact Or.inl rfl | exact Or.inr rfl | rw [vp_in_iff]; first | omega | ((try simp only [fa_le, fa_lt, fa_eq, va_up] at c1 c2 ⊢) <;> (try simp [-Int32.toInt_sub, -Int32.toInt_add, -Int32.toInt_mul, -Int32.toInt_neg, -Int64.toInt_sub, -Int64.toInt_add] at c1 c2 ⊢) <;> omega)) ?_
      rw [lg_cmp_eq] at c2
      exact h0 (fun z => c2 (Int64.toInt_inj.mp (z.2.trans (by decide))))
    · iterate 3 refine hX0 _ _ _ _ ?_
      refine And.intro (by first | exact Or.inl rfl | exact Or.inr rfl | rw [vp_in_iff]; first | omega | ((try simp only [fa_le, fa_lt, fa_eq, va_up] at c1 c2 ⊢) <;> (try simp [-Int32.toInt_sub, -Int32.toInt_add, -Int32.toInt_mul, -Int32.toInt_neg, -Int64.toInt_sub, -Int64.toInt_add] at c1 c2 ⊢) <;> omega)) ?_
      rw [lg_cmp_eq] at c2
      exact h1 ⟨c1, by rw [c2]; decide⟩

set_option maxRecDepth 100000 in
theorem y_word5 {d : Nat} {s : Nat → Int32} {a : Nat → Nat → Int32} {w : Bool} {t : Nat → Int32} {b : Nat → Nat → Int32} {u : Nat → Int64} {c : Nat → Nat → Int64} {Q : zQ} (h1 : (t 18 = 1 ∧ (u 1).toInt = 1476) → Q (some (.int 1)) (HX s a w ++ HM t b u c)) (h0 : ¬ (t 18 = 1 ∧ (u 1).toInt = 1476) → Q (some (.int 0)) (HX s a w ++ HM t b u c)) : zG (d + 1) 139 [.ref 56, .int 97, .int 110, .int 100, .int 0, .int 0, .int 0] (HX s a w ++ HM t b u c) Q := by
  refine g_139 (Nat.le_of_ble_eq_true rfl) ?_
  intro X0 hX0
  iterate 14 refine hX0 _ _ _ _ ?_
  refine And.intro (fun _ => ?_) (fun c => absurd c (by decide))
  iterate 11 refine hX0 _ _ _ _ ?_
  refine And.intro (fun c => absurd c (by decide)) (fun _ => ?_)
  iterate 5 refine hX0 _ _ _ _ ?_
  refine And.intro (fun c => absurd c (by decide)) (fun _ => ?_)
  iterate 5 refine hX0 _ _ _ _ ?_
  refine And.intro (fun c => absurd c (by decide)) (fun _ => ?_)
  iterate 7 refine hX0 _ _ _ _ ?_
  refine And.intro (fun c1 => ?_) (fun c1 => ?_)
  · iterate 2 refine hX0 _ _ _ _ ?_
    refine And.intro (by first | exact Or.inl rfl | exact Or.inr rfl | rw [vp_in_iff]; first | omega | ((try simp only [fa_le, fa_lt, fa_eq, va_up] at c1 ⊢) <;> (try simp [-Int32.toInt_sub, -Int32.toInt_add, -Int32.toInt_mul, -Int32.toInt_neg, -Int64.toInt_sub, -Int64.toInt_add] at c1 ⊢) <;> omega)) ?_
    exact h0 (fun z => c1 z.1)
  · iterate 5 refine hX0 _ _ _ _ ?_
    refine And.intro (fun c2 => ?_) (fun c2 => ?_)
    · iterate 2 refine hX0 _ _ _ _ ?_
      refine And.intro (by first | exact Or.inl rfl | exact Or.inr rfl | rw [vp_in_iff]; first | omega | ((try simp only [fa_le, fa_lt, fa_eq, va_up] at c1 c2 ⊢) <;> (try simp [-Int32.toInt_sub, -Int32.toInt_add, -Int32.toInt_mul, -Int32.toInt_neg, -Int64.toInt_sub, -Int64.toInt_add] at c1 c2 ⊢) <;> omega)) ?_
      rw [lg_cmp_eq] at c2
      exact h0 (fun z => c2 (Int64.toInt_inj.mp (z.2.trans (by decide))))
    · iterate 3 refine hX0 _ _ _ _ ?_
      refine And.intro (by first | exact Or.inl rfl | exact Or.inr rfl | rw [vp_in_iff]; first | omega | ((try simp only [fa_le, fa_lt, fa_eq, va_up] at c1 c2 ⊢) <;> (try simp [-Int32.toInt_sub, -Int32.toInt_add, -Int32.toInt_mul, -Int32.toInt_neg, -Int64.toInt_sub, -Int64.toInt_add] at c1 c2 ⊢) <;> omega)) ?_
      rw [lg_cmp_eq] at c2
      exact h1 ⟨c1, by rw [c2]; decide⟩

set_option maxRecDepth 100000 in
theorem y_word6 {d : Nat} {s : Nat → Int32} {a : Nat → Nat → Int32} {w : Bool} {t : Nat → Int32} {b : Nat → Nat → Int32} {u : Nat → Int64} {c : Nat → Nat → Int64} {Q : zQ} (h1 : (t 18 = 1 ∧ (u 1).toInt = 763332) → Q (some (.int 1)) (HX s a w ++ HM t b u c)) (h0 : ¬ (t 18 = 1 ∧ (u 1).toInt = 763332) → Q (some (.int 0)) (HX s a w ++ HM t b u c)) : zG (d + 1) 139 [.ref 56, .int 119, .int 105, .int 110, .int 100, .int 0, .int 0] (HX s a w ++ HM t b u c) Q := by
  refine g_139 (Nat.le_of_ble_eq_true rfl) ?_
  intro X0 hX0
  iterate 14 refine hX0 _ _ _ _ ?_
  refine And.intro (fun _ => ?_) (fun c => absurd c (by decide))
  iterate 11 refine hX0 _ _ _ _ ?_
  refine And.intro (fun _ => ?_) (fun c => absurd c (by decide))
  iterate 11 refine hX0 _ _ _ _ ?_
  refine And.intro (fun c => absurd c (by decide)) (fun _ => ?_)
  iterate 5 refine hX0 _ _ _ _ ?_
  refine And.intro (fun c => absurd c (by decide)) (fun _ => ?_)
  iterate 7 refine hX0 _ _ _ _ ?_
  refine And.intro (fun c1 => ?_) (fun c1 => ?_)
  · iterate 2 refine hX0 _ _ _ _ ?_
    refine And.intro (by first | exact Or.inl rfl | exact Or.inr rfl | rw [vp_in_iff]; first | omega | ((try simp only [fa_le, fa_lt, fa_eq, va_up] at c1 ⊢) <;> (try simp [-Int32.toInt_sub, -Int32.toInt_add, -Int32.toInt_mul, -Int32.toInt_neg, -Int64.toInt_sub, -Int64.toInt_add] at c1 ⊢) <;> omega)) ?_
    exact h0 (fun z => c1 z.1)
  · iterate 5 refine hX0 _ _ _ _ ?_
    refine And.intro (fun c2 => ?_) (fun c2 => ?_)
    · iterate 2 refine hX0 _ _ _ _ ?_
      refine And.intro (by first | exact Or.inl rfl | exact Or.inr rfl | rw [vp_in_iff]; first | omega | ((try simp only [fa_le, fa_lt, fa_eq, va_up] at c1 c2 ⊢) <;> (try simp [-Int32.toInt_sub, -Int32.toInt_add, -Int32.toInt_mul, -Int32.toInt_neg, -Int64.toInt_sub, -Int64.toInt_add] at c1 c2 ⊢) <;> omega)) ?_
      rw [lg_cmp_eq] at c2
      exact h0 (fun z => c2 (Int64.toInt_inj.mp (z.2.trans (by decide))))
    · iterate 3 refine hX0 _ _ _ _ ?_
      refine And.intro (by first | exact Or.inl rfl | exact Or.inr rfl | rw [vp_in_iff]; first | omega | ((try simp only [fa_le, fa_lt, fa_eq, va_up] at c1 c2 ⊢) <;> (try simp [-Int32.toInt_sub, -Int32.toInt_add, -Int32.toInt_mul, -Int32.toInt_neg, -Int64.toInt_sub, -Int64.toInt_add] at c1 c2 ⊢) <;> omega)) ?_
      rw [lg_cmp_eq] at c2
      exact h1 ⟨c1, by rw [c2]; decide⟩

set_option maxRecDepth 100000 in
theorem y_word7 {d : Nat} {s : Nat → Int32} {a : Nat → Nat → Int32} {w : Bool} {t : Nat → Int32} {b : Nat → Nat → Int32} {u : Nat → Int64} {c : Nat → Nat → Int64} {Q : zQ} (h1 : (t 18 = 1 ∧ (u 1).toInt = 278194) → Q (some (.int 1)) (HX s a w ++ HM t b u c)) (h0 : ¬ (t 18 = 1 ∧ (u 1).toInt = 278194) → Q (some (.int 0)) (HX s a w ++ HM t b u c)) : zG (d + 1) 139 [.ref 56, .int 104, .int 111, .int 117, .int 114, .int 0, .int 0] (HX s a w ++ HM t b u c) Q := by
  refine g_139 (Nat.le_of_ble_eq_true rfl) ?_
  intro X0 hX0
  iterate 14 refine hX0 _ _ _ _ ?_
  refine And.intro (fun _ => ?_) (fun c => absurd c (by decide))
  iterate 11 refine hX0 _ _ _ _ ?_
  refine And.intro (fun _ => ?_) (fun c => absurd c (by decide))
  iterate 11 refine hX0 _ _ _ _ ?_
  refine And.intro (fun c => absurd c (by decide)) (fun _ => ?_)
  iterate 5 refine hX0 _ _ _ _ ?_
  refine And.intro (fun c => absurd c (by decide)) (fun _ => ?_)
  iterate 7 refine hX0 _ _ _ _ ?_
  refine And.intro (fun c1 => ?_) (fun c1 => ?_)
  · iterate 2 refine hX0 _ _ _ _ ?_
    refine And.intro (by first | exact Or.inl rfl | exact Or.inr rfl | rw [vp_in_iff]; first | omega | ((try simp only [fa_le, fa_lt, fa_eq, va_up] at c1 ⊢) <;> (try simp [-Int32.toInt_sub, -Int32.toInt_add, -Int32.toInt_mul, -Int32.toInt_neg, -Int64.toInt_sub, -Int64.toInt_add] at c1 ⊢) <;> omega)) ?_
    exact h0 (fun z => c1 z.1)
  · iterate 5 refine hX0 _ _ _ _ ?_
    refine And.intro (fun c2 => ?_) (fun c2 => ?_)
    · iterate 2 refine hX0 _ _ _ _ ?_
      refine And.intro (by first | exact Or.inl rfl | exact Or.inr rfl | rw [vp_in_iff]; first | omega | ((try simp only [fa_le, fa_lt, fa_eq, va_up] at c1 c2 ⊢) <;> (try simp [-Int32.toInt_sub, -Int32.toInt_add, -Int32.toInt_mul, -Int32.toInt_neg, -Int64.toInt_sub, -Int64.toInt_add] at c1 c2 ⊢) <;> omega)) ?_
      rw [lg_cmp_eq] at c2
      exact h0 (fun z => c2 (Int64.toInt_inj.mp (z.2.trans (by decide))))
    · iterate 3 refine hX0 _ _ _ _ ?_
      refine And.intro (by first | exact Or.inl rfl | exact Or.inr rfl | rw [vp_in_iff]; first | omega | ((try simp only [fa_le, fa_lt, fa_eq, va_up] at c1 c2 ⊢) <;> (try simp [-Int32.toInt_sub, -Int32.toInt_add, -Int32.toInt_mul, -Int32.toInt_neg, -Int64.toInt_sub, -Int64.toInt_add] at c1 c2 ⊢) <;> omega)) ?_
      rw [lg_cmp_eq] at c2
      exact h1 ⟨c1, by rw [c2]; decide⟩

set_option maxRecDepth 100000 in
theorem y_sign {d : Nat} {s : Nat → Int32} {a : Nat → Nat → Int32} {w : Bool} {t : Nat → Int32} {b : Nat → Nat → Int32} {u : Nat → Int64} {c : Nat → Nat → Int64} {x : Int32} {A : Int} {Q : zQ} (hx : x.toInt = A) (h1 : (t 18 = 3 ∧ (u 1).toInt = A) → Q (some (.int 1)) (HX s a w ++ HM t b u c)) (h0 : ¬ (t 18 = 3 ∧ (u 1).toInt = A) → Q (some (.int 0)) (HX s a w ++ HM t b u c)) : zG (d + 1) 140 [.ref 56, .int x] (HX s a w ++ HM t b u c) Q := by
  refine g_140 (Nat.le_of_ble_eq_true rfl) ?_
  intro X0 hX0
  have ex := i64_of x
  iterate 4 refine hX0 _ _ _ _ ?_
  refine And.intro (fun c1 => ?_) (fun c1 => ?_)
  · iterate 2 refine hX0 _ _ _ _ ?_
    exact And.intro (Or.inl rfl) (h0 (fun z => c1 z.1))
  · iterate 6 refine hX0 _ _ _ _ ?_
    refine And.intro (fun c2 => ?_) (fun c2 => ?_)
    · rw [lg_cmp_eq] at c2
      iterate 2 refine hX0 _ _ _ _ ?_
      exact And.intro (Or.inl rfl) (h0 (fun z => c2 (Int64.toInt_inj.mp (by rw [z.2, ex, hx]))))
    · rw [lg_cmp_eq] at c2
      iterate 3 refine hX0 _ _ _ _ ?_
      exact And.intro (Or.inr rfl) (h1 ⟨c1, by rw [c2, ex, hx]⟩)
/-- where the reference stands: at token k -/
def zAk (st en : Nat → Nat) (T : Nat → Int32) (n N : Nat) (t : Nat → Int32) (u : Nat → Int64) (k : Nat) : Prop := t 16 = nI (if k < N then st k else n) ∧ t 17 = nI (if k < N then en k else n) ∧ zRt (t 18) (u 1) (T k)
set_option maxRecDepth 100000 in
theorem y_nx {d : Nat} {s : Nat → Int32} {a : Nat → Nat → Int32} {w : Bool} {t : Nat → Int32} {b : Nat → Nat → Int32} {u : Nat → Int64} {c : Nat → Nat → Int64} {f : Nat → Int32} {n N k : Nat} {st en : Nat → Nat} {tk pl : Nat → Int32} {Q : zQ} (ht : zTp f (b 29)) (hn : t 15 = nI n) (hn4 : n ≤ 400) (hs : zSpl f (b 29) n N st en tk pl) (hk : k ≤ N) (hto : t 17 = nI (zpv en k)) (h0 : ∀ (t' : Nat → Int32) (u' : Nat → Int64), zSm [16, 17, 18] t t' → zSm [1] u u' → zAk st en (zTt tk N) n N t' u' k → Q none (HX s a w ++ HM t' b u' c)) : zG (d + 2) 138 [.ref 56] (HX s a w ++ HM t b u c) Q := by
  obtain ⟨q1, q2, q3, q4, q5⟩ := hs
  have hpv : k < N → zpv en k ≤ st k ∧ (∀ i, zpv en k ≤ i → i < st k → b 29 i = 32) ∧ ¬ b 29 (st k) = 32 ∧ zEn (b 29) n (st k) (en k) := q2 k
  refine y_tok (f := f) (n := n) (p0 := zpv en k) (q := if k < N then st k else n) (e := if k < N then en k else n) (v := zTt tk N k) ht hn hn4 hto ?_ ?_ ?_ ?_ (fun t' u' p1 p2 p3 p4 p5 => h0 t' u' p1 p2 ⟨p3, p4, p5⟩)
  · by_cases h : k < N
    · rw [if_pos h]
      have := hpv h
      exact ⟨this.1, by have h2 := this.2.2.2; have h3 := h2.1; have h4 := h2.2.1; omega⟩
    · rw [if_neg h]
      have e : k = N := by omega
      rw [e]
      exact ⟨q3, Nat.le_refl _⟩
  · intro i h1 h2
    by_cases h : k < N
    · rw [if_pos h] at h2
      exact (hpv h).2.1 i h1 h2
    · rw [if_neg h] at h2
      have e : k = N := by omega
      rw [e] at h1
      exact q4 i h1 h2
  · intro e
    by_cases h : k < N
    · exfalso
      rw [if_pos h] at e
      have h1 := (hpv h).2.2.2
      have h2 := h1.1
      have h3 := h1.2.1
      omega
    · rw [if_neg h]
      unfold zTt
      rw [if_neg h]
      exact ⟨rfl, rfl⟩
  · intro e
    by_cases h : k < N
    · rw [if_pos h, if_pos h]
      unfold zTt
      rw [if_pos h]
      exact ⟨(hpv h).2.2.1, (hpv h).2.2.2, (q5 k h).2⟩
    · exfalso
      rw [if_neg h] at e
      omega
set_option maxRecDepth 100000 in
theorem y_mustBad {d : Nat} {s : Nat → Int32} {a : Nat → Nat → Int32} {w : Bool} {t : Nat → Int32} {b : Nat → Nat → Int32} {u : Nat → Int64} {c : Nat → Nat → Int64} {x : Int32} {Q : zQ} (hb : t 20 = 1) (h0 : Q none (HX s a w ++ HM t b u c)) : zG (d + 3) 141 [.ref 56, .int x] (HX s a w ++ HM t b u c) Q := by
  refine g_141 (Nat.le_of_ble_eq_true rfl) ?_
  intro X0 hX0
  iterate 3 refine hX0 _ _ _ _ ?_
  rw [hb]
  refine And.intro (fun _ => ?_) (fun c => absurd c (by decide))
  iterate 3 refine hX0 _ _ _ _ ?_
  rw [hb]
  refine And.intro (fun _ => ?_) (fun c => absurd c (by decide))
  refine hX0 _ _ _ _ ?_
  exact h0
set_option maxRecDepth 100000 in
theorem y_mustNo {d : Nat} {s : Nat → Int32} {a : Nat → Nat → Int32} {w : Bool} {t : Nat → Int32} {b : Nat → Nat → Int32} {u : Nat → Int64} {c : Nat → Nat → Int64} {Q : zQ} (hb : t 20 = 0) (h0 : Q none (HX s a w ++ HM (va_up (va_up t 20 1) 19 (t 16)) b u c)) : zG (d + 3) 141 [.ref 56, .int 0] (HX s a w ++ HM t b u c) Q := by
  refine g_141 (Nat.le_of_ble_eq_true rfl) ?_
  intro X0 hX0
  iterate 3 refine hX0 _ _ _ _ ?_
  rw [hb]
  refine And.intro (fun c => absurd rfl c) (fun _ => ?_)
  iterate 2 refine hX0 _ _ _ _ ?_
  refine And.intro (fun c => absurd rfl c) (fun _ => ?_)
  iterate 3 refine hX0 _ _ _ _ ?_
  refine And.intro (Or.inr rfl) ?_
  refine zcast (X := X0) yt_20 ?_
  iterate 4 refine hX0 _ _ _ _ ?_
  refine zcast (X := X0) yt_19 ?_
  iterate 3 refine hX0 _ _ _ _ ?_
  refine And.intro (fun _ => ?_) (fun c => absurd (show (1 : Int32) = 0 from c) (by decide))
  refine hX0 _ _ _ _ ?_
  exact h0
set_option maxRecDepth 100000 in
theorem y_mustOk {d : Nat} {s : Nat → Int32} {a : Nat → Nat → Int32} {w : Bool} {t : Nat → Int32} {b : Nat → Nat → Int32} {u : Nat → Int64} {c : Nat → Nat → Int64} {f : Nat → Int32} {n N k : Nat} {st en : Nat → Nat} {tk pl : Nat → Int32} {Q : zQ} (ht : zTp f (b 29)) (hn : t 15 = nI n) (hn4 : n ≤ 400) (hs : zSpl f (b 29) n N st en tk pl) (hk : k < N) (hat : t 17 = nI (if k < N then en k else n)) (hb : t 20 = 0) (h0 : ∀ (t' : Nat → Int32) (u' : Nat → Int64), zSm [16, 17, 18] t t' → zSm [1] u u' → zAk st en (zTt tk N) n N t' u' (k + 1) → Q none (HX s a w ++ HM t' b u' c)) : zG (d + 3) 141 [.ref 56, .int 1] (HX s a w ++ HM t b u c) Q := by
  refine g_141 (Nat.le_of_ble_eq_true rfl) ?_
  intro X0 hX0
  iterate 3 refine hX0 _ _ _ _ ?_
  rw [hb]
  refine And.intro (fun c => absurd rfl c) (fun _ => ?_)
  iterate 2 refine hX0 _ _ _ _ ?_
  refine And.intro (fun _ => ?_) (fun c => absurd c (by decide))
  iterate 3 refine hX0 _ _ _ _ ?_
  rw [hb]
  refine And.intro (fun c => absurd rfl c) (fun _ => ?_)
  iterate 2 refine hX0 _ _ _ _ ?_
  refine y_nx (k := k + 1) ht hn hn4 hs (by omega) (by rw [hat, if_pos hk]; rfl) (fun t' u' p1 p2 p3 => ?_)
  refine hX0 _ _ _ _ ?_
  exact h0 t' u' p1 p2 p3

theorem num_iff {so : Int32} {wo : Int64} {v : Int32} {m : Int} (h : zRt so wo v) (hm : m ≤ 1000) : (so = 2 ∧ wo.toInt ≤ m) ↔ zRg v m := by
  obtain ⟨-, -, -, h4, h5⟩ := h
  unfold zRg
  constructor
  · rintro ⟨h1, h2⟩
    have h6 := h4.mp h1
    have h7 := h5 h1
    refine ⟨h6, ?_⟩
    rcases Int.lt_or_le 1000 v.toInt with z | z
    · have := h7.2 z
      omega
    · have := h7.1 z
      omega
  · rintro ⟨h1, h2⟩
    have h6 := h4.mpr h1
    have h7 := (h5 h6).1 (by omega)
    exact ⟨h6, by omega⟩
theorem num_v {so : Int32} {wo : Int64} {v : Int32} {m : Int} (h : zRt so wo v) (hm : m ≤ 1000) (hr : zRg v m) : wo.toInt32 = v := by
  have h1 := (num_iff h hm).mpr hr
  obtain ⟨-, -, -, h4, h5⟩ := h
  have h7 := (h5 h1.1).1 (by have := hr.2; omega)
  rw [fa_eq, l2i_i (by have := hr.1; have := hr.2; omega), h7]
set_option maxRecDepth 100000 in
theorem y_numBad {d : Nat} {s : Nat → Int32} {a : Nat → Nat → Int32} {w : Bool} {t : Nat → Int32} {b : Nat → Nat → Int32} {u : Nat → Int64} {c : Nat → Nat → Int64} {x : Int64} {Q : zQ} (hb : t 20 = 1) (h0 : ∀ v : Int32, Q (some (.int v)) (HX s a w ++ HM t b u c)) : zG (d + 4) 142 [.ref 56, .long x] (HX s a w ++ HM t b u c) Q := by
  refine g_142 (Nat.le_of_ble_eq_true rfl) ?_
  intro X0 hX0
  have fin : ∀ (y : Int32), X0 29 [some (.ref 56), some (.long x), none, some (.int (u 1).toInt32)] [.int y, .ref 56] (HX s a w ++ HM t b u c) := by
    intro y
    refine hX0 _ _ _ _ ?_
    refine y_mustBad hb ?_
    iterate 2 refine hX0 _ _ _ _ ?_
    exact h0 _
  iterate 9 refine hX0 _ _ _ _ ?_
  refine And.intro (fun c1 => ?_) (fun c1 => ?_)
  · refine hX0 _ _ _ _ ?_
    exact fin 0
  · iterate 5 refine hX0 _ _ _ _ ?_
    refine And.intro (fun c2 => ?_) (fun c2 => ?_)
    · refine hX0 _ _ _ _ ?_
      exact fin 0
    · iterate 2 refine hX0 _ _ _ _ ?_
      exact fin 1
set_option maxRecDepth 100000 in
theorem y_num {d : Nat} {s : Nat → Int32} {a : Nat → Nat → Int32} {w : Bool} {t : Nat → Int32} {b : Nat → Nat → Int32} {u : Nat → Int64} {c : Nat → Nat → Int64} {f : Nat → Int32} {n N k : Nat} {st en : Nat → Nat} {tk pl : Nat → Int32} {x : Int64} {m : Int} {Q : zQ} (hx : x.toInt = m) (hm : m ≤ 1000) (ht : zTp f (b 29)) (hn : t 15 = nI n) (hn4 : n ≤ 400) (hs : zSpl f (b 29) n N st en tk pl) (hat : zAk st en (zTt tk N) n N t u k) (hb : t 20 = 0) (h1 : ∀ (t' : Nat → Int32) (u' : Nat → Int64), zRg (zTt tk N k) m → k < N → zSm [16, 17, 18] t t' → zSm [1] u u' → zAk st en (zTt tk N) n N t' u' (k + 1) → Q (some (.int (zTt tk N k))) (HX s a w ++ HM t' b u' c)) (h0 : ∀ v : Int32, ¬ zRg (zTt tk N k) m → Q (some (.int v)) (HX s a w ++ HM (va_up (va_up t 20 1) 19 (t 16)) b u c)) : zG (d + 4) 142 [.ref 56, .long x] (HX s a w ++ HM t b u c) Q := by
  refine g_142 (Nat.le_of_ble_eq_true rfl) ?_
  intro X0 hX0
  have hi := num_iff hat.2.2 hm
  have no : ¬ zRg (zTt tk N k) m → X0 29 [some (.ref 56), some (.long x), none, some (.int (u 1).toInt32)] [.int 0, .ref 56] (HX s a w ++ HM t b u c) := by
    intro y
    refine hX0 _ _ _ _ ?_
    refine y_mustNo hb ?_
    iterate 2 refine hX0 _ _ _ _ ?_
    exact h0 _ y
  iterate 9 refine hX0 _ _ _ _ ?_
  refine And.intro (fun c1 => ?_) (fun c1 => ?_)
  · refine hX0 _ _ _ _ ?_
    exact no (fun z => c1 (hi.mpr z).1)
  · iterate 5 refine hX0 _ _ _ _ ?_
    refine And.intro (fun c2 => ?_) (fun c2 => ?_)
    · rw [lg_cmp_gt, fa_ltL, hx] at c2
      refine hX0 _ _ _ _ ?_
      exact no (fun z => by have := (hi.mpr z).2; omega)
    · rw [lg_cmp_gt, fa_ltL, hx] at c2
      have hr : zRg (zTt tk N k) m := hi.mp ⟨c1, by omega⟩
      have hk := zTt_rg hr
      have ev := num_v hat.2.2 hm hr
      iterate 2 refine hX0 _ _ _ _ ?_
      rw [ev]
      refine hX0 _ _ _ _ ?_
      refine y_mustOk (k := k) ht hn hn4 hs hk hat.2.1 hb (fun t' u' p1 p2 p3 => ?_)
      iterate 2 refine hX0 _ _ _ _ ?_
      exact h1 t' u' hr hk p1 p2 p3
