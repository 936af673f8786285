/-! TAKING A BOX -/
/-- how many lie above the uppermost of a kind, from the j-th on; 12 if there is none -/
def zfa (f : Nat → Int32) (top : Nat) (kind : Int32) : Nat → Nat → Nat
  | 0, _ => 12
  | n + 1, j => if f (top - j) = kind then j else zfa f top kind n (j + 1)
theorem ixA {st H j : Nat} (hj : j < H) : nI st * 12 + nI H - 1 - nI j = nI (st * 12 + H - 1 - j) := by
  show nI st * nI 12 + nI H - nI 1 - nI j = _
  rw [pk_mul, nI_add, pk_sub (by omega), pk_sub (by omega)]
theorem zfa_lt (f : Nat → Int32) (top : Nat) (kind : Int32) : ∀ n j, zfa f top kind n j = 12 ∨ (zfa f top kind n j < n + j ∧ f (top - zfa f top kind n j) = kind)
  | 0, j => Or.inl rfl
  | n + 1, j => by
    unfold zfa
    split
    · next h => exact Or.inr ⟨by omega, h⟩
    · rcases zfa_lt f top kind n (j + 1) with h | h
      · exact Or.inl h
      · exact Or.inr ⟨by omega, h.2⟩

set_option maxRecDepth 100000 in
theorem x_above {d : Nat} {s : Nat → Int32} {a : Nat → Nat → Int32} {w : Bool} {Z : zH} {st H : Nat} {kind : Int32} {Q : zQ} (hst : st < 6) (hH : a 12 st = nI H) (hH2 : H ≤ 12) (h0 : Q (some (.int (nI (zfa (a 11) (st * 12 + H - 1) kind H 0)))) (HX s a w ++ Z)) : zG (d + 1) 69 [.ref 14, .int (nI st), .int kind] (HX s a w ++ Z) Q := by
  refine g_69 (Nat.le_of_ble_eq_true rfl) ?_
  intro X0 hX0
  have e0 : a 12 (nI st).toNatClampNeg = nI H := by rw [nI_clamp (by omega)]; exact hH
  have hHI : (nI H).toInt = (H : Int) := nI_toInt (by omega)
  have key : ∀ (n j : Nat), H - j = n → j ≤ H → zfa (a 11) (st * 12 + H - 1) kind n j = zfa (a 11) (st * 12 + H - 1) kind H 0 → X0 10 [some (.ref 14), some (.int (nI st)), some (.int kind), some (.int (nI H)), some (.int (nI j))] [] (HX s a w ++ Z) := by
    intro n
    induction n with
    | zero =>
      intro j q1 q2 q3
      have hJ : (nI j).toInt = (j : Int) := nI_toInt (by omega)
      iterate 3 refine hX0 _ _ _ _ ?_
      refine And.intro (fun c1 => ?_) (fun c1 => ?_)
      · iterate 2 refine hX0 _ _ _ _ ?_
        rw [← q3] at h0
        exact h0
      · exfalso
        rw [fa_le] at c1
        omega
    | succ n ih =>
      intro j q1 q2 q3
      have hJ : (nI j).toInt = (j : Int) := nI_toInt (by omega)
      iterate 3 refine hX0 _ _ _ _ ?_
      refine And.intro (fun c1 => ?_) (fun c1 => ?_)
      · iterate 2 refine hX0 _ _ _ _ ?_
        exfalso
        rw [fa_le] at c1
        omega
      · iterate 12 refine hX0 _ _ _ _ ?_
        refine And.intro (by rw [ixA (by omega)]; exact vp_in_nI (by omega) (by omega)) ?_
        iterate 2 refine hX0 _ _ _ _ ?_
        refine And.intro (fun c2 => ?_) (fun c2 => ?_)
        · iterate 2 refine hX0 _ _ _ _ ?_
          rw [nI_1]
          rw [ixA (by omega), nI_clamp (by omega)] at c2
          refine ih (j + 1) (by omega) (by omega) ?_
          rw [← q3]
          conv => rhs; unfold zfa
          rw [if_neg c2]
        · iterate 2 refine hX0 _ _ _ _ ?_
          rw [ixA (by omega), nI_clamp (by omega)] at c2
          have e5 : zfa (a 11) (st * 12 + H - 1) kind (n + 1) j = j := by unfold zfa; rw [if_pos c2]
          rw [← q3, e5] at h0
          exact h0
  iterate 4 refine hX0 _ _ _ _ ?_
  refine And.intro (by exact vp_in_nI (by omega) (by omega)) ?_
  iterate 3 refine hX0 _ _ _ _ ?_
  have kk := key H 0 rfl (by omega) rfl
  rw [nI_0, ← e0] at kk
  exact kk

theorem ixB {st k : Nat} : (12 : Int32) * nI st + nI k = nI (st * 12 + k) := by
  show nI 12 * nI st + nI k = _
  rw [pk_mul, nI_add, Nat.mul_comm]
set_option maxRecDepth 100000 in
theorem y_above {d : Nat} {s : Nat → Int32} {a : Nat → Nat → Int32} {w : Bool} {t : Nat → Int32} {b : Nat → Nat → Int32} {u : Nat → Int64} {c : Nat → Nat → Int64} {st H : Nat} {kind : Int32} {Q : zQ} (hst : st < 6) (hH : b 18 st = nI H) (hH2 : H ≤ 12) (h0 : Q (some (.int (if zfa (b 17) (st * 12 + H - 1) kind H 0 = 12 then -1 else nI (zfa (b 17) (st * 12 + H - 1) kind H 0)))) (HX s a w ++ HM t b u c)) : zG (d + 1) 123 [.ref 56, .int (nI st), .int kind] (HX s a w ++ HM t b u c) Q := by
  refine g_123 (Nat.le_of_ble_eq_true rfl) ?_
  intro X0 hX0
  have e0 : b 18 (nI st).toNatClampNeg = nI H := by rw [nI_clamp (by omega)]; exact hH
  have hHI : (nI H).toInt = (H : Int) := nI_toInt (by omega)
  have key : ∀ (n : Nat), n ≤ H → zfa (b 17) (st * 12 + H - 1) kind n (H - n) = zfa (b 17) (st * 12 + H - 1) kind H 0 → X0 9 [some (.ref 56), some (.int (nI st)), some (.int kind), some (.int (nI n - 1))] [] (HX s a w ++ HM t b u c) := by
    intro n
    induction n with
    | zero =>
      intro q1 q2
      have eR : zfa (b 17) (st * 12 + H - 1) kind H 0 = 12 := by rw [← q2]; rfl
      rw [if_pos eR] at h0
      iterate 2 refine hX0 _ _ _ _ ?_
      refine And.intro (fun c1 => ?_) (fun c1 => absurd (by decide) c1)
      iterate 2 refine hX0 _ _ _ _ ?_
      refine And.intro (fun c2 => absurd c2 (by decide)) (fun c2 => ?_)
      iterate 3 refine hX0 _ _ _ _ ?_
      exact h0
    | succ n ih =>
      intro q1 q2
      have eN : nI (n + 1) - 1 = nI n := nI_pred n
      have hN : (nI n).toInt = (n : Int) := nI_toInt (by omega)
      rw [eN]
      have hlt := zfa_lt (b 17) (st * 12 + H - 1) kind H 0
      iterate 2 refine hX0 _ _ _ _ ?_
      refine And.intro (fun c1 => ?_) (fun c1 => ?_)
      · iterate 2 refine hX0 _ _ _ _ ?_
        refine And.intro (fun c2 => ?_) (fun c2 => ?_)
        · iterate 4 refine hX0 _ _ _ _ ?_
          refine And.intro (by first | exact vp_in_nI (by omega) (by omega) | (rw [ixB]; exact vp_in_nI (by omega) (by omega))) ?_
          iterate 5 refine hX0 _ _ _ _ ?_
          first | (exfalso; (try simp only [fa_le, fa_lt] at c1 c2); (try simp at c1 c2); omega) | (rw [ixB, nI_clamp (by omega)] at c2; have e5 : zfa (b 17) (st * 12 + H - 1) kind (n + 1) (H - (n + 1)) = H - (n + 1) := (by unfold zfa; rw [show st * 12 + H - 1 - (H - (n + 1)) = st * 12 + n by omega, if_pos c2]); have e6 : zfa (b 17) (st * 12 + H - 1) kind H 0 = H - (n + 1) := (by rw [← q2, e5]); rw [e0]; rw [e6, if_neg (by omega)] at h0; have e7 : nI H - 1 - nI n = nI (H - (n + 1)) := (by show nI H - nI 1 - nI n = _; rw [pk_sub (by omega), pk_sub (by omega)]; congr 1; omega); rw [e7]; exact h0)
        · iterate 3 refine hX0 _ _ _ _ ?_
          first | (exfalso; (try simp only [fa_le, fa_lt] at c1 c2); (try simp at c1 c2); omega) | (rw [ixB, nI_clamp (by omega)] at c2; have e5 : zfa (b 17) (st * 12 + H - 1) kind (n + 1) (H - (n + 1)) = H - (n + 1) := (by unfold zfa; rw [show st * 12 + H - 1 - (H - (n + 1)) = st * 12 + n by omega, if_pos c2]); have e6 : zfa (b 17) (st * 12 + H - 1) kind H 0 = H - (n + 1) := (by rw [← q2, e5]); rw [e0]; rw [e6, if_neg (by omega)] at h0; have e7 : nI H - 1 - nI n = nI (H - (n + 1)) := (by show nI H - nI 1 - nI n = _; rw [pk_sub (by omega), pk_sub (by omega)]; congr 1; omega); rw [e7]; exact h0)
      · iterate 8 refine hX0 _ _ _ _ ?_
        refine And.intro (by first | exact vp_in_nI (by omega) (by omega) | (rw [ixB]; exact vp_in_nI (by omega) (by omega))) ?_
        iterate 2 refine hX0 _ _ _ _ ?_
        refine And.intro (fun c3 => ?_) (fun c3 => ?_)
        · iterate 2 refine hX0 _ _ _ _ ?_
          refine And.intro (fun c4 => ?_) (fun c4 => ?_)
          · iterate 4 refine hX0 _ _ _ _ ?_
            refine And.intro (by first | exact vp_in_nI (by omega) (by omega) | (rw [ixB]; exact vp_in_nI (by omega) (by omega))) ?_
            iterate 5 refine hX0 _ _ _ _ ?_
            first | (exfalso; (try simp only [fa_le, fa_lt] at c1 c3 c4); (try simp at c1 c3 c4); omega) | (rw [ixB, nI_clamp (by omega)] at c3; have e5 : zfa (b 17) (st * 12 + H - 1) kind (n + 1) (H - (n + 1)) = H - (n + 1) := (by unfold zfa; rw [show st * 12 + H - 1 - (H - (n + 1)) = st * 12 + n by omega, if_pos c3]); have e6 : zfa (b 17) (st * 12 + H - 1) kind H 0 = H - (n + 1) := (by rw [← q2, e5]); rw [e0]; rw [e6, if_neg (by omega)] at h0; have e7 : nI H - 1 - nI n = nI (H - (n + 1)) := (by show nI H - nI 1 - nI n = _; rw [pk_sub (by omega), pk_sub (by omega)]; congr 1; omega); rw [e7]; exact h0)
          · iterate 3 refine hX0 _ _ _ _ ?_
            first | (exfalso; (try simp only [fa_le, fa_lt] at c1 c3 c4); (try simp at c1 c3 c4); omega) | (rw [ixB, nI_clamp (by omega)] at c3; have e5 : zfa (b 17) (st * 12 + H - 1) kind (n + 1) (H - (n + 1)) = H - (n + 1) := (by unfold zfa; rw [show st * 12 + H - 1 - (H - (n + 1)) = st * 12 + n by omega, if_pos c3]); have e6 : zfa (b 17) (st * 12 + H - 1) kind H 0 = H - (n + 1) := (by rw [← q2, e5]); rw [e0]; rw [e6, if_neg (by omega)] at h0; have e7 : nI H - 1 - nI n = nI (H - (n + 1)) := (by show nI H - nI 1 - nI n = _; rw [pk_sub (by omega), pk_sub (by omega)]; congr 1; omega); rw [e7]; exact h0)
        · iterate 2 refine hX0 _ _ _ _ ?_
          rw [show nI n + -1 = nI n - 1 from Int32.sub_eq_add_neg .. |>.symm]
          rw [ixB, nI_clamp (by omega)] at c3
          refine ih (by omega) ?_
          rw [← q2]
          conv => rhs; unfold zfa
          rw [show st * 12 + H - 1 - (H - (n + 1)) = st * 12 + n by omega, if_neg c3, show H - (n + 1) + 1 = H - n by omega]
  iterate 4 refine hX0 _ _ _ _ ?_
  refine And.intro (by exact vp_in_nI (by omega) (by omega)) ?_
  iterate 3 refine hX0 _ _ _ _ ?_
  have kk := key H (Nat.le_refl _) (by rw [Nat.sub_self])
  rw [← e0] at kk
  exact kk
