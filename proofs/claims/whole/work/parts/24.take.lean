/-! TAKE OF BOTH -/

set_option maxRecDepth 100000 in
theorem x_take {d : Nat} {s : Nat → Int32} {a : Nat → Nat → Int32} {w : Bool} {Z : zH} {kind : Int32} {Q : zQ} (hh : ∀ j, j < 6 → 0 ≤ (a 12 j).toInt ∧ (a 12 j).toInt ≤ 12) (h0 : ¬ (0 ≤ kind.toInt ∧ kind.toInt ≤ 9) → Q (some (.int (-1))) (HX (va_up s 2 (-1)) a w ++ Z)) (h1 : (0 ≤ kind.toInt ∧ kind.toInt ≤ 9) → (zbest (zabs (a 11) (a 12) kind) 6).1 = none → Q (some (.int (-3))) (HX (va_up s 2 (-3)) a w ++ Z)) (h2 : ∀ j, (0 ≤ kind.toInt ∧ kind.toInt ≤ 9) → (zbest (zabs (a 11) (a 12) kind) 6).1 = some j → Q (some (.int (nI j))) (HX (va_up (va_up (va_up s 7 (s 7 - 1)) 8 (s 8 + nI (zabs (a 11) (a 12) kind j))) 2 (zcode (nI j))) (va_up (va_up a 11 (zsh (a 11) (j * 12 + ((a 12 j).toNatClampNeg - 1 - zabs (a 11) (a 12) kind j)) (zabs (a 11) (a 12) kind j))) 12 (upd (a 12) j (nI ((a 12 j).toNatClampNeg - 1)))) w ++ Z)) : zG (d + 3) 85 [.ref 0, .int kind] (HX s a w ++ Z) Q := by
  refine g_85 (Nat.le_of_ble_eq_true rfl) ?_
  intro X0 hX0
  iterate 5 refine hX0 _ _ _ _ ?_
  refine x_takeOne hh (fun c1 => ?_) (fun c1 c2 => ?_) (fun j c1 c2 => ?_)
  · refine hX0 _ _ _ _ ?_
    refine r_answered ?_
    refine hX0 _ _ _ _ ?_
    exact h0 c1
  · refine hX0 _ _ _ _ ?_
    refine r_answered ?_
    refine hX0 _ _ _ _ ?_
    exact h1 c1 c2
  · refine hX0 _ _ _ _ ?_
    refine r_answered ?_
    refine hX0 _ _ _ _ ?_
    exact h2 j c1 c2

set_option maxRecDepth 100000 in
theorem y_take {d : Nat} {s : Nat → Int32} {a : Nat → Nat → Int32} {w : Bool} {t : Nat → Int32} {b : Nat → Nat → Int32} {u : Nat → Int64} {c : Nat → Nat → Int64} {kind : Int32} {Q : zQ} (hh : ∀ j, j < 6 → 0 ≤ (b 18 j).toInt ∧ (b 18 j).toInt ≤ 12) (h0 : ¬ (0 ≤ kind.toInt ∧ kind.toInt ≤ 9) → Q (some (.int (-1))) (HX s a w ++ HM (va_up (va_up t 0 0) 1 (-1)) b u c)) (h1 : (0 ≤ kind.toInt ∧ kind.toInt ≤ 9) → (zbest (zabs (b 17) (b 18) kind) 6).1 = none → Q (some (.int (-3))) (HX s a w ++ HM (va_up (va_up t 0 0) 1 (-3)) b u c)) (h2 : ∀ j, (0 ≤ kind.toInt ∧ kind.toInt ≤ 9) → (zbest (zabs (b 17) (b 18) kind) 6).1 = some j → Q (some (.int (nI j))) (HX s a w ++ HM (va_up (va_up (va_up t 0 0) 10 (t 10 + nI (zabs (b 17) (b 18) kind j))) 1 (zcode (nI j))) (va_up (va_up b 18 (upd (b 18) j (nI ((b 18 j).toNatClampNeg - 1)))) 17 (zsh (b 17) (j * 12 + ((b 18 j).toNatClampNeg - 1 - zabs (b 17) (b 18) kind j)) (zabs (b 17) (b 18) kind j))) u c)) : zG (d + 2) 124 [.ref 56, .int kind] (HX s a w ++ HM t b u c) Q := by
  refine g_124 (Nat.le_of_ble_eq_true rfl) ?_
  intro X0 hX0
  have hH : ∀ k, k < 6 → b 18 k = nI (b 18 k).toNatClampNeg := fun k hk => nI_cl _ (hh k hk).1
  have hH2 : ∀ k, k < 6 → (b 18 k).toNatClampNeg ≤ 12 := fun k hk => by
    have h5 := hh k hk
    have h6 := cl_int (b 18 k) h5.1
    omega
  have hlt : ∀ k, zabs (b 17) (b 18) kind k < 12 → zabs (b 17) (b 18) kind k < (b 18 k).toNatClampNeg := fun k hk => by
    rcases zfa_lt (b 17) (k * 12 + (b 18 k).toNatClampNeg - 1) kind (b 18 k).toNatClampNeg 0 with h7 | h7
    · exact absurd (show zabs (b 17) (b 18) kind k = 12 from h7) (by omega)
    · exact h7.1
  have hA : ∀ k, k < 6 → zabs (b 17) (b 18) kind k ≤ 12 := fun k hk => by
    rcases zfa_lt (b 17) (k * 12 + (b 18 k).toNatClampNeg - 1) kind (b 18 k).toNatClampNeg 0 with h7 | h7
    · exact Nat.le_of_eq h7
    · have h8 := hH2 k hk
      have h9 : zabs (b 17) (b 18) kind k < (b 18 k).toNatClampNeg + 0 := h7.1
      omega
  have last : (0 ≤ kind.toInt ∧ kind.toInt ≤ 9) → ∀ j, (zbest (zabs (b 17) (b 18) kind) 6).1 = some j → ∀ o4 : Option Value, ∀ o3 : Option Value, X0 84 [some (.ref 56), some (.int kind), some (.int (nI j)), o3, o4] [] (HX s a w ++ HM (va_up t 0 0) b u c) := by
    intro hk9 j hbe o4 o3
    obtain ⟨hj, hf, h12⟩ := (zbest_p (zabs (b 17) (b 18) kind) 6).2.2 j hbe
    have hltj := hlt j h12
    have hHj := hH2 j hj
    have hcl : (nI j).toNatClampNeg = j := nI_clamp (by omega)
    have eD : b 18 j - 1 = nI ((b 18 j).toNatClampNeg - 1) := by
      conv => lhs; rw [hH j hj]
      show nI _ - nI 1 = _
      rw [pk_sub (by omega)]
    have eM : ∀ f : Nat → Int32, va_up (va_up b 18 (upd (b 18) j (nI ((b 18 j).toNatClampNeg - 1)))) 17 f 18 (nI j).toNatClampNeg = nI ((b 18 j).toNatClampNeg - 1) := by
      intro f
      rw [hcl]
      show upd (b 18) j (nI ((b 18 j).toNatClampNeg - 1)) j = _
      rw [pk_us]
    have hLI : (nI ((b 18 j).toNatClampNeg - 1)).toInt = (((b 18 j).toNatClampNeg - 1 : Nat) : Int) := nI_toInt (by omega)
    have key2 : ∀ (n : Nat) (f : Nat → Int32), n ≤ zabs (b 17) (b 18) kind j → zsh f (j * 12 + ((b 18 j).toNatClampNeg - 1 - n)) n = zsh (b 17) (j * 12 + ((b 18 j).toNatClampNeg - 1 - zabs (b 17) (b 18) kind j)) (zabs (b 17) (b 18) kind j) → X0 121 [some (.ref 56), some (.int kind), some (.int (nI j)), some (.int (nI (zabs (b 17) (b 18) kind j))), some (.int (nI ((b 18 j).toNatClampNeg - 1 - n)))] [] (HX s a w ++ HM (va_up (va_up t 0 0) 10 (t 10 + nI (zabs (b 17) (b 18) kind j))) (va_up (va_up b 18 (upd (b 18) j (nI ((b 18 j).toNatClampNeg - 1)))) 17 f) u c) := by
      intro n
      induction n with
      | zero =>
        intro f q1 q2
        have hJ : (nI ((b 18 j).toNatClampNeg - 1 - 0)).toInt = (((b 18 j).toNatClampNeg - 1 - 0 : Nat) : Int) := nI_toInt (by omega)
        have ef : f = zsh (b 17) (j * 12 + ((b 18 j).toNatClampNeg - 1 - zabs (b 17) (b 18) kind j)) (zabs (b 17) (b 18) kind j) := q2
        iterate 5 refine hX0 _ _ _ _ ?_
        refine And.intro (by first | exact vp_in_nI (by omega) (by omega) | (rw [ixB]; exact vp_in_nI (by omega) (by omega)) | (rw [ixB, nI_1]; exact vp_in_nI (by omega) (by omega))) ?_
        refine hX0 _ _ _ _ ?_
        refine And.intro (fun c1 => ?_) (fun c1 => ?_)
        · iterate 3 refine hX0 _ _ _ _ ?_
          refine r_told ?_
          refine hX0 _ _ _ _ ?_
          rw [ef]
          exact h2 j hk9 hbe
        · exfalso
          have e9 := c1
          rw [eM, fa_le] at e9
          omega
      | succ n ih =>
        intro f q1 q2
        have hJ : (nI ((b 18 j).toNatClampNeg - 1 - (n + 1))).toInt = (((b 18 j).toNatClampNeg - 1 - (n + 1) : Nat) : Int) := nI_toInt (by omega)
        iterate 5 refine hX0 _ _ _ _ ?_
        refine And.intro (by first | exact vp_in_nI (by omega) (by omega) | (rw [ixB]; exact vp_in_nI (by omega) (by omega)) | (rw [ixB, nI_1]; exact vp_in_nI (by omega) (by omega))) ?_
        refine hX0 _ _ _ _ ?_
        refine And.intro (fun c1 => ?_) (fun c1 => ?_)
        · exfalso
          have e9 := c1
          rw [eM, fa_le] at e9
          omega
        · iterate 17 refine hX0 _ _ _ _ ?_
          refine And.intro (by first | exact vp_in_nI (by omega) (by omega) | (rw [ixB]; exact vp_in_nI (by omega) (by omega)) | (rw [ixB, nI_1]; exact vp_in_nI (by omega) (by omega))) ?_
          refine hX0 _ _ _ _ ?_
          refine And.intro (by first | exact vp_in_nI (by omega) (by omega) | (rw [ixB]; exact vp_in_nI (by omega) (by omega)) | (rw [ixB, nI_1]; exact vp_in_nI (by omega) (by omega))) ?_
          refine zcast (X := X0) yb_17 ?_
          iterate 2 refine hX0 _ _ _ _ ?_
          rw [bx_uu, ixB, nI_1, nI_1, nI_clamp (by omega), nI_clamp (by omega), vu_s]
          rw [show (b 18 j).toNatClampNeg - 1 - (n + 1) + 1 = (b 18 j).toNatClampNeg - 1 - n by omega]
          refine ih _ (by omega) ?_
          rw [← q2]
          conv => rhs; unfold zsh
          rw [show j * 12 + ((b 18 j).toNatClampNeg - 1 - (n + 1)) + 1 = j * 12 + ((b 18 j).toNatClampNeg - 1 - n) by omega]
    iterate 4 refine hX0 _ _ _ _ ?_
    refine y_above hj (hH j hj) (hH2 j hj) ?_
    iterate 7 refine hX0 _ _ _ _ ?_
    refine zcast (X := X0) yt_10 ?_
    iterate 5 refine hX0 _ _ _ _ ?_
    refine And.intro (by exact vp_in_nI (by omega) (by omega)) ?_
    iterate 3 refine hX0 _ _ _ _ ?_
    refine And.intro (by exact vp_in_nI (by omega) (by omega)) ?_
    refine zcast (X := X0) yb_18 ?_
    iterate 4 refine hX0 _ _ _ _ ?_
    refine And.intro (by exact vp_in_nI (by omega) (by omega)) ?_
    iterate 3 refine hX0 _ _ _ _ ?_
    have e5 : (if zfa (b 17) (j * 12 + (b 18 j).toNatClampNeg - 1) kind (b 18 j).toNatClampNeg 0 = 12 then (-1 : Int32) else nI (zfa (b 17) (j * 12 + (b 18 j).toNatClampNeg - 1) kind (b 18 j).toNatClampNeg 0)) = nI (zabs (b 17) (b 18) kind j) := if_neg (show ¬ zabs (b 17) (b 18) kind j = 12 by omega)
    have kk := key2 (zabs (b 17) (b 18) kind j) (b 17) (Nat.le_refl _) rfl
    have eU : va_up (va_up b 18 (upd (b 18) j (nI ((b 18 j).toNatClampNeg - 1)))) 17 (b 17) = (va_up b 18 (upd (b 18) j (nI ((b 18 j).toNatClampNeg - 1)))) := by
      funext q
      simp only [va_up]
      by_cases h3 : q = 17 <;> simp [h3]
    rw [eU] at kk
    have eI : nI ((b 18 j).toNatClampNeg - 1) - nI (zabs (b 17) (b 18) kind j) = nI ((b 18 j).toNatClampNeg - 1 - zabs (b 17) (b 18) kind j) := pk_sub (by omega)
    rw [← eI] at kk
    have eR : (va_up b 18 (upd (b 18) j (nI ((b 18 j).toNatClampNeg - 1)))) 18 j = nI ((b 18 j).toNatClampNeg - 1) := by
      show upd (b 18) j (nI ((b 18 j).toNatClampNeg - 1)) j = _
      rw [pk_us]
    rw [e5, hcl, eD, eR]
    exact kk
  have key : (0 ≤ kind.toInt ∧ kind.toInt ≤ 9) → ∀ (n k : Nat) (o4 : Option Value), 6 - k = n → k ≤ 6 → X0 27 [some (.ref 56), some (.int kind), some (.int (zfr (zbest (zabs (b 17) (b 18) kind) k).1)), some (.int (nI k)), o4] [] (HX s a w ++ HM (va_up t 0 0) b u c) := by
    intro hk9 n
    induction n with
    | zero =>
      intro k o4 q1 q2
      have hk6 : k = 6 := by omega
      subst hk6
      iterate 3 refine hX0 _ _ _ _ ?_
      refine And.intro (fun c1 => ?_) (fun c1 => absurd (by decide) c1)
      cases hbe : (zbest (zabs (b 17) (b 18) kind) 6).1 with
      | none =>
        iterate 2 refine hX0 _ _ _ _ ?_
        refine And.intro (fun c2 => absurd c2 (by decide)) (fun c2 => ?_)
        iterate 3 refine hX0 _ _ _ _ ?_
        refine r_told ?_
        refine hX0 _ _ _ _ ?_
        exact h1 hk9 hbe
      | some j =>
        have hj := ((zbest_p (zabs (b 17) (b 18) kind) 6).2.2 j hbe).1
        iterate 2 refine hX0 _ _ _ _ ?_
        refine And.intro (fun c2 => ?_) (fun c2 => ?_)
        · exact last hk9 j hbe _ _
        · exfalso
          have c3 : ¬ 0 ≤ nI j := c2
          exact c3 (nI_pos' (by omega))
    | succ n ih =>
      intro k o4 q1 q2
      have hk : k < 6 := by omega
      have hkI : (nI k).toInt = (k : Int) := nI_toInt (by omega)
      have hb := zbest_p (zabs (b 17) (b 18) kind) k
      iterate 3 refine hX0 _ _ _ _ ?_
      refine And.intro (fun c1 => ?_) (fun c1 => ?_)
      · exfalso
        rw [fa_le] at c1
        simp at c1
        omega
      · iterate 4 refine hX0 _ _ _ _ ?_
        refine y_above hk (hH k hk) (hH2 k hk) ?_
        have hAk := hA k hk
        by_cases h12 : zabs (b 17) (b 18) kind k = 12
        · rw [if_pos (show zfa (b 17) (k * 12 + (b 18 k).toNatClampNeg - 1) kind (b 18 k).toNatClampNeg 0 = 12 from h12)]
          iterate 3 refine hX0 _ _ _ _ ?_
          refine And.intro (fun c2 => ?_) (fun c2 => absurd (by decide) c2)
          iterate 4 refine hX0 _ _ _ _ ?_
          rw [nI_1]
          have kk := ih (k + 1) (some (.int (-1))) (by omega) (by omega)
          unfold zbest at kk
          rw [if_neg (by omega)] at kk
          exact kk
        · rw [if_neg (show ¬ zfa (b 17) (k * 12 + (b 18 k).toNatClampNeg - 1) kind (b 18 k).toNatClampNeg 0 = 12 from h12)]
          have hAI : (nI (zabs (b 17) (b 18) kind k)).toInt = (zabs (b 17) (b 18) kind k : Int) := nI_toInt (by omega)
          iterate 3 refine hX0 _ _ _ _ ?_
          refine And.intro (fun c2 => ?_) (fun c2 => ?_)
          · exfalso
            exact nI_pos (show zabs (b 17) (b 18) kind k < 2 ^ 31 by omega) c2
          · have kk := ih (k + 1) (some (.int (nI (zabs (b 17) (b 18) kind k)))) (by omega) (by omega)
            unfold zbest at kk
            cases hbe : (zbest (zabs (b 17) (b 18) kind) k).1 with
            | none =>
              iterate 2 refine hX0 _ _ _ _ ?_
              refine And.intro (fun c3 => ?_) (fun c3 => absurd (by decide) c3)
              iterate 5 refine hX0 _ _ _ _ ?_
              rw [nI_1]
              rw [if_pos (by have := hb.2.1 hbe; omega)] at kk
              exact kk
            | some j =>
              obtain ⟨hj, hf, hj12⟩ := hb.2.2 j hbe
              have hj6 : j < 6 := by omega
              have hAJ : (nI (zabs (b 17) (b 18) kind j)).toInt = (zabs (b 17) (b 18) kind j : Int) := nI_toInt (by omega)
              iterate 2 refine hX0 _ _ _ _ ?_
              refine And.intro (fun c3 => ?_) (fun c3 => ?_)
              · exfalso
                exact nI_pos (show j < 2 ^ 31 by omega) c3
              · iterate 5 refine hX0 _ _ _ _ ?_
                refine y_above hj6 (hH j hj6) (hH2 j hj6) ?_
                rw [if_neg (show ¬ zfa (b 17) (j * 12 + (b 18 j).toNatClampNeg - 1) kind (b 18 j).toNatClampNeg 0 = 12 from fun h => absurd (show zabs (b 17) (b 18) kind j = 12 from h) (by omega))]
                refine hX0 _ _ _ _ ?_
                refine And.intro (fun c4 => ?_) (fun c4 => ?_)
                · have c5 : nI (zabs (b 17) (b 18) kind j) ≤ nI (zabs (b 17) (b 18) kind k) := c4
                  rw [fa_le] at c5
                  iterate 4 refine hX0 _ _ _ _ ?_
                  rw [nI_1]
                  rw [if_neg (by omega), hbe] at kk
                  exact kk
                · have c5 : ¬ nI (zabs (b 17) (b 18) kind j) ≤ nI (zabs (b 17) (b 18) kind k) := c4
                  rw [fa_le] at c5
                  iterate 5 refine hX0 _ _ _ _ ?_
                  rw [nI_1]
                  rw [if_pos (by omega)] at kk
                  exact kk
  iterate 3 refine hX0 _ _ _ _ ?_
  refine zcast (X := X0) yt_0 ?_
  iterate 5 refine hX0 _ _ _ _ ?_
  refine r_in (0) (9) rfl rfl (fun c1 => ?_) (fun c2 => ?_)
  · refine hX0 _ _ _ _ ?_
    refine And.intro (fun _ => ?_) (fun c => absurd c (by decide))
    iterate 4 refine hX0 _ _ _ _ ?_
    exact key c1 6 0 none rfl (by omega)
  · refine hX0 _ _ _ _ ?_
    refine And.intro (fun c => absurd c (by decide)) (fun _ => ?_)
    iterate 3 refine hX0 _ _ _ _ ?_
    refine r_told ?_
    refine hX0 _ _ _ _ ?_
    exact h0 c2
