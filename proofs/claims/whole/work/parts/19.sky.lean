/-! THE SKY: what the packed number holds; landing -/
set_option maxRecDepth 100000 in
theorem zpk_dec : ∀ (c : Fin 111) (l : Fin 2) (w : Fin 61), zpk (nI w.val) (nI l.val) (nI c.val - 90) &&& 63 = nI w.val ∧ (zpk (nI w.val) (nI l.val) (nI c.val - 90) &&& 64 = 0 ↔ nI l.val = 0) ∧ zpk (nI w.val) (nI l.val) (nI c.val - 90) >>> ((7 : Int32) &&& 31) = nI c.val - 90 := by decide +kernel
theorem zpk_at {wi li co : Int32} (hw : 0 ≤ wi.toInt ∧ wi.toInt ≤ 60) (hl : li = 0 ∨ li = 1) (hc : -90 ≤ co.toInt ∧ co.toInt ≤ 20) : zpk wi li co &&& 63 = wi ∧ (zpk wi li co &&& 64 = 0 ↔ li = 0) ∧ zpk wi li co >>> ((7 : Int32) &&& 31) = co := by
  have e1 := nI_cl wi hw.1
  have c1 := cl_int wi hw.1
  have e2 : co = nI (co.toInt + 90).toNat - 90 := by
    rw [← Int32.toInt_inj, i32_sub (by rw [nI_toInt (by omega)]; simp; omega), nI_toInt (by omega)]
    simp
    omega
  have e3 : ∃ l : Fin 2, li = nI l.val := by
    rcases hl with rfl | rfl
    · exact ⟨0, rfl⟩
    · exact ⟨1, rfl⟩
  obtain ⟨l, rfl⟩ := e3
  have := zpk_dec ⟨(co.toInt + 90).toNat, by omega⟩ l ⟨wi.toNatClampNeg, by omega⟩
  simp only [← e1, ← e2] at this
  exact this
def ISky (p wi li co : Nat → Int32) : Prop := ∀ h, h < 2400 → (0 ≤ (wi h).toInt ∧ (wi h).toInt ≤ 60) ∧ (li h = 0 ∨ li h = 1) ∧ (-90 ≤ (co h).toInt ∧ (co h).toInt ≤ 20) ∧ p h = zpk (wi h) (li h) (co h)

def zcalm (wi li co : Nat → Int32) (k : Nat) : Prop := li k = 1 ∧ (wi k).toInt ≤ 15 ∧ -50 ≤ (co k).toInt
/-- the first landing from p on -/
def zland (C : Nat → Prop) (p h : Nat) : Prop := p ≤ h ∧ h + 2 < 2400 ∧ (C h ∧ C (h + 1) ∧ C (h + 2)) ∧ ∀ j, p ≤ j → j < h → ¬ (C j ∧ C (j + 1) ∧ C (j + 2))
def znoland (C : Nat → Prop) (p : Nat) : Prop := ∀ j, p ≤ j → j + 2 < 2400 → ¬ (C j ∧ C (j + 1) ∧ C (j + 2))
theorem zland_one {C : Nat → Prop} {p h h' : Nat} (h1 : zland C p h) (h2 : zland C p h') : h = h' := by
  obtain ⟨a1, a2, a3, a4⟩ := h1
  obtain ⟨b1, b2, b3, b4⟩ := h2
  rcases Nat.lt_trichotomy h h' with q | q | q
  · exact absurd a3 (b4 h a1 q)
  · exact q
  · exact absurd b3 (a4 h' b1 q)
theorem zland_no {C : Nat → Prop} {p h : Nat} (h1 : zland C p h) (h2 : znoland C p) : False := h2 h h1.1 h1.2.1 h1.2.2.1

set_option maxRecDepth 100000 in
theorem x_windAt {d : Nat} {s : Nat → Int32} {a : Nat → Nat → Int32} {w : Bool} {Z : zH} {wi li co : Nat → Int32} {k : Nat} {Q : zQ} (hS : ISky (a 0) wi li co) (hk : k < 2400) (h0 : Q (some (.int (wi k))) (HX s a w ++ Z)) : zG (d + 1) 21 [.ref 1, .int (nI k)] (HX s a w ++ Z) Q := by
  refine g_21 (Nat.le_of_ble_eq_true rfl) ?_
  intro X0 hX0
  obtain ⟨q1, q2, q3, q4⟩ := hS k hk
  obtain ⟨z1, z2, z3⟩ := zpk_at q1 q2 q3
  rw [← q4] at z1 z2 z3
  rw [← nI_clamp (show k < 2 ^ 31 by omega)] at z1 z2 z3
  iterate 4 refine hX0 _ _ _ _ ?_
  refine And.intro (by exact vp_in_nI (by omega) (by omega)) ?_
  iterate 3 refine hX0 _ _ _ _ ?_
  rw [z1]
  rw [nI_clamp (show k < 2 ^ 31 by omega)]
  exact h0

set_option maxRecDepth 100000 in
theorem x_coldAt {d : Nat} {s : Nat → Int32} {a : Nat → Nat → Int32} {w : Bool} {Z : zH} {wi li co : Nat → Int32} {k : Nat} {Q : zQ} (hS : ISky (a 0) wi li co) (hk : k < 2400) (h0 : Q (some (.int (co k))) (HX s a w ++ Z)) : zG (d + 1) 9 [.ref 1, .int (nI k)] (HX s a w ++ Z) Q := by
  refine g_9 (Nat.le_of_ble_eq_true rfl) ?_
  intro X0 hX0
  obtain ⟨q1, q2, q3, q4⟩ := hS k hk
  obtain ⟨z1, z2, z3⟩ := zpk_at q1 q2 q3
  rw [← q4] at z1 z2 z3
  rw [← nI_clamp (show k < 2 ^ 31 by omega)] at z1 z2 z3
  iterate 4 refine hX0 _ _ _ _ ?_
  refine And.intro (by exact vp_in_nI (by omega) (by omega)) ?_
  iterate 3 refine hX0 _ _ _ _ ?_
  rw [z3]
  rw [nI_clamp (show k < 2 ^ 31 by omega)]
  exact h0

set_option maxRecDepth 100000 in
theorem x_lightAt {d : Nat} {s : Nat → Int32} {a : Nat → Nat → Int32} {w : Bool} {Z : zH} {wi li co : Nat → Int32} {k : Nat} {Q : zQ} (hS : ISky (a 0) wi li co) (hk : k < 2400) (h1 : li k = 1 → Q (some (.int 1)) (HX s a w ++ Z)) (h0 : li k = 0 → Q (some (.int 0)) (HX s a w ++ Z)) : zG (d + 1) 8 [.ref 1, .int (nI k)] (HX s a w ++ Z) Q := by
  refine g_8 (Nat.le_of_ble_eq_true rfl) ?_
  intro X0 hX0
  obtain ⟨q1, q2, q3, q4⟩ := hS k hk
  obtain ⟨z1, z2, z3⟩ := zpk_at q1 q2 q3
  rw [← q4] at z1 z2 z3
  rw [← nI_clamp (show k < 2 ^ 31 by omega)] at z1 z2 z3
  iterate 4 refine hX0 _ _ _ _ ?_
  refine And.intro (by exact vp_in_nI (by omega) (by omega)) ?_
  iterate 3 refine hX0 _ _ _ _ ?_
  refine And.intro (fun c1 => ?_) (fun c1 => ?_)
  · iterate 2 refine hX0 _ _ _ _ ?_
    refine And.intro (by first | exact Or.inl rfl | exact Or.inr rfl | exact vp_in_nI (by omega) (by omega)) ?_
    rw [nI_clamp (show k < 2 ^ 31 by omega)] at z2
    first | exact h0 (by rw [nI_clamp (show k < 2 ^ 31 by omega)] at c1; exact z2.mp c1) | exact h1 (by rw [nI_clamp (show k < 2 ^ 31 by omega)] at c1; rcases q2 with q | q; exact absurd (z2.mpr q) c1; exact q)
  · iterate 3 refine hX0 _ _ _ _ ?_
    refine And.intro (by first | exact Or.inl rfl | exact Or.inr rfl | exact vp_in_nI (by omega) (by omega)) ?_
    rw [nI_clamp (show k < 2 ^ 31 by omega)] at z2
    first | exact h0 (by rw [nI_clamp (show k < 2 ^ 31 by omega)] at c1; exact z2.mp c1) | exact h1 (by rw [nI_clamp (show k < 2 ^ 31 by omega)] at c1; rcases q2 with q | q; exact absurd (z2.mpr q) c1; exact q)
