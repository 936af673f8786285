/-! THE WEATHER, THE TAPE, BOXES: with loops -/
theorem vu_s {α : Type} (f : Nat → α) (k : Nat) (v : α) : va_up f k v k = v := by simp [va_up]
/-- v in the places p .. k - 1 -/
def zfill (f : Nat → Int32) (p k : Nat) (v : Int32) : Nat → Int32 := fun j => if p ≤ j ∧ j < k then v else f j
theorem zfill_0 (f : Nat → Int32) (p : Nat) (v : Int32) : zfill f p p v = f := by
  funext j
  simp only [zfill]
  rw [if_neg (by omega)]
theorem zfill_s (f : Nat → Int32) {p k : Nat} (v : Int32) (h : p ≤ k) (hk : k < 2 ^ 31) : upd (zfill f p k v) (nI k).toNatClampNeg v = zfill f p (k + 1) v := by
  rw [nI_clamp hk]
  funext j
  simp only [upd, zfill]
  by_cases hj : j = k
  · rw [if_pos hj, if_pos (by omega)]
  · rw [if_neg hj]
    by_cases h1 : p ≤ j ∧ j < k
    · rw [if_pos h1, if_pos (by omega)]
    · rw [if_neg h1, if_neg (by omega)]
theorem zup_0 (a : Nat → Nat → Int32) (k : Nat) : va_up a k (a k) = a := by
  funext j
  simp only [va_up]
  split
  · next h => rw [h]
  · rfl
/-- wind, light and cold in one number -/
def zpk (wi li co : Int32) : Int32 := ((co <<< ((7 : Int32) &&& 31)) ||| (if li = 0 then 0 else 64)) ||| wi
theorem nI_lit (k : Nat) (hk : k < 2 ^ 31) : (nI k).toInt = (k : Int) := nI_toInt hk

theorem x_cover {d : Nat} {s : Nat → Int32} {a : Nat → Nat → Int32} {w : Bool} {Z : zH} {p q : Nat} {wi li co : Int32} {Q : zQ} (hpq : p ≤ q) (hq : q < 2400) (h0 : Q none (HX s (va_up a 0 (zfill (a 0) p (q + 1) (zpk wi li co))) w ++ Z)) : zG (d + 1) 64 [.ref 1, .int (nI p), .int (nI q), .int wi, .int li, .int co] (HX s a w ++ Z) Q := by
  refine g_64 (Nat.le_of_ble_eq_true rfl) ?_
  intro X0 hX0
  have hQ : ∀ {k : Nat} (a1 : Nat → Nat → Int32), k = q + 1 → a1 = va_up a 0 (zfill (a 0) p k (zpk wi li co)) → Q none (HX s a1 w ++ Z) := by
    intro k a1 e1 e2
    subst e1
    rw [e2]
    exact h0
  have key : ∀ (n k : Nat) (a1 : Nat → Nat → Int32) (one : Int32), q + 1 - k = n → p ≤ k → k ≤ q + 1 → a1 = va_up a 0 (zfill (a 0) p k one) → one = zpk wi li co → X0 24 [some (.ref 1), some (.int (nI p)), some (.int (nI q)), some (.int wi), some (.int li), some (.int co), some (.int one), some (.int (nI k))] [] (HX s a1 w ++ Z) := by
    intro n
    induction n with
    | zero =>
      intro k a1 one h1 h2 h3 h4 h5
      iterate 3 refine hX0 _ _ _ _ ?_
      refine And.intro (fun c1 => ?_) (fun c1 => ?_)
      · refine hX0 _ _ _ _ ?_
        exact hQ (k := k) a1 (by clear hX0 hQ; simp only [fa_lt, fa_le] at *; rw [nI_lit _ (by omega), nI_lit _ (by omega)] at *; omega) (by rw [← h5]; exact h4)
      · iterate 5 refine hX0 _ _ _ _ ?_
        refine And.intro (by exact vp_in_nI (by simp only [fa_lt, fa_le] at *; rw [nI_lit _ (by omega), nI_lit _ (by omega)] at *; omega) (by omega)) ?_
        refine zcast (X := X0) xa_0 ?_
        iterate 2 refine hX0 _ _ _ _ ?_
        exfalso
        simp only [fa_lt, fa_le] at *
        rw [nI_lit _ (by omega), nI_lit _ (by omega)] at *
        omega
    | succ n ih =>
      intro k a1 one h1 h2 h3 h4 h5
      iterate 3 refine hX0 _ _ _ _ ?_
      refine And.intro (fun c1 => ?_) (fun c1 => ?_)
      · refine hX0 _ _ _ _ ?_
        exact hQ (k := k) a1 (by clear hX0 hQ; simp only [fa_lt, fa_le] at *; rw [nI_lit _ (by omega), nI_lit _ (by omega)] at *; omega) (by rw [← h5]; exact h4)
      · iterate 5 refine hX0 _ _ _ _ ?_
        refine And.intro (by exact vp_in_nI (by omega) (by omega)) ?_
        refine zcast (X := X0) xa_0 ?_
        iterate 2 refine hX0 _ _ _ _ ?_
        rw [nI_1]
        exact ih (k + 1) _ one (by omega) (by omega) (by omega) (by rw [h4, bx_uu, vu_s, zfill_s _ _ h2 (by omega)]) h5
  iterate 5 refine hX0 _ _ _ _ ?_
  refine And.intro (fun c1 => ?_) (fun c1 => ?_)
  · iterate 7 refine hX0 _ _ _ _ ?_
    refine key (q + 1 - p) p a _ rfl (Nat.le_refl _) (by omega) (by rw [zfill_0, zup_0]) (by simp [zpk, c1])
  · iterate 8 refine hX0 _ _ _ _ ?_
    refine key (q + 1 - p) p a _ rfl (Nat.le_refl _) (by omega) (by rw [zfill_0, zup_0]) (by simp [zpk, c1])
