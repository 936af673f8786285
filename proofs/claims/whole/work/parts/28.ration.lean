/-! RATION -/
/-- the greatest ration of the "if" rules from i on whose condition holds -/
def zra (C : Nat → Bool) (ir : Nat → Int32) : Nat → Nat → Int32 → Int32
  | 0, _, g => g
  | n + 1, i, g => zra C ir n (i + 1) (if g < ir i ∧ C i = true then ir i else g)

set_option maxRecDepth 100000 in
theorem x_rationA {d : Nat} {s : Nat → Int32} {a : Nat → Nat → Int32} {w : Bool} {Z : zH} {wi li co : Nat → Int32} {I k : Nat} {F : Nat → Nat} {Q : zQ} (hS : ISky (a 0) wi li co) (hk : k < 2400) (hI : s 25 = nI I) (hI20 : I ≤ 20) (hF0 : F 0 = 0) (hF : ∀ i, i < I → F i ≤ F (i + 1) ∧ a 38 i = nI (F (i + 1))) (hF60 : ∀ i, i ≤ I → F i ≤ 60) (h0 : Q (some (.int (zra (fun i => zhd (fun j => zTs (zsee (a 34 j) (wi k) (co k) (nI (k % 24))) (a 36 j) (a 35 j)) (fun j => decide (¬ a 37 j = 0)) (F (i + 1) - F i) (F i) true) (a 39) I 0 0))) (HX s a w ++ Z)) : zG (d + 4) 25 [.ref 42, .int (nI k), .ref 1] (HX s a w ++ Z) Q := by
  refine g_25 (Nat.le_of_ble_eq_true rfl) ?_
  intro X0 hX0
  generalize hR : zra (fun i => zhd (fun j => zTs (zsee (a 34 j) (wi k) (co k) (nI (k % 24))) (a 36 j) (a 35 j)) (fun j => decide (¬ a 37 j = 0)) (F (i + 1) - F i) (F i) true) (a 39) I 0 0 = rr at h0
  have hII : (s 25).toInt = (I : Int) := by rw [hI, nI_toInt (by omega)]
  have key : ∀ (n i : Nat) (g : Int32), I - i = n → i ≤ I → zra (fun i => zhd (fun j => zTs (zsee (a 34 j) (wi k) (co k) (nI (k % 24))) (a 36 j) (a 35 j)) (fun j => decide (¬ a 37 j = 0)) (F (i + 1) - F i) (F i) true) (a 39) n i g = rr → X0 8 [some (.ref 42), some (.int (nI k)), some (.ref 1), some (.int g), some (.int (nI (F i))), some (.int (nI i))] [] (HX s a w ++ Z) := by
    intro n
    induction n with
    | zero =>
      intro i g q1 q2 q3
      have hJ : (nI i).toInt = (i : Int) := nI_toInt (by omega)
      have q4 : g = rr := q3
      iterate 4 refine hX0 _ _ _ _ ?_
      refine And.intro (fun c1 => ?_) (fun c1 => ?_)
      · iterate 2 refine hX0 _ _ _ _ ?_
        rw [q4]
        exact h0
      · exfalso
        rw [fa_le] at c1
        omega
    | succ n ih =>
      intro i g q1 q2 q3
      have hJ : (nI i).toInt = (i : Int) := nI_toInt (by omega)
      have hcl : (nI i).toNatClampNeg = i := nI_clamp (by omega)
      have eE : a 38 i = nI (F (i + 1)) := (hF i (by omega)).2
      unfold zra at q3
      iterate 4 refine hX0 _ _ _ _ ?_
      refine And.intro (fun c1 => ?_) (fun c1 => ?_)
      · exfalso
        rw [fa_le] at c1
        omega
      · iterate 4 refine hX0 _ _ _ _ ?_
        refine And.intro (by exact vp_in_nI (by omega) (by omega)) ?_
        rw [hcl]
        iterate 2 refine hX0 _ _ _ _ ?_
        refine And.intro (fun c2 => ?_) (fun c2 => ?_)
        · iterate 4 refine hX0 _ _ _ _ ?_
          refine And.intro (by exact vp_in_nI (by omega) (by omega)) ?_
          rw [hcl, eE]
          iterate 3 refine hX0 _ _ _ _ ?_
          rw [nI_1]
          refine ih (i + 1) _ (by omega) (by omega) ?_
          rw [if_neg (fun h => absurd h.1 (Int32.not_lt.mpr c2))] at q3
          exact q3
        · iterate 6 refine hX0 _ _ _ _ ?_
          refine And.intro (by exact vp_in_nI (by omega) (by omega)) ?_
          rw [hcl, eE]
          iterate 3 refine hX0 _ _ _ _ ?_
          refine x_holdsA hS hk (hF i (by omega)).1 (hF60 (i + 1) (by omega)) (fun c3 => ?_) (fun c4 => ?_)
          · refine hX0 _ _ _ _ ?_
            refine And.intro (fun c => absurd c (by decide)) (fun _ => ?_)
            iterate 4 refine hX0 _ _ _ _ ?_
            refine And.intro (by exact vp_in_nI (by omega) (by omega)) ?_
            rw [hcl]
            iterate 5 refine hX0 _ _ _ _ ?_
            refine And.intro (by exact vp_in_nI (by omega) (by omega)) ?_
            rw [hcl, eE]
            iterate 3 refine hX0 _ _ _ _ ?_
            rw [nI_1]
            refine ih (i + 1) _ (by omega) (by omega) ?_
            rw [if_pos ⟨Int32.not_le.mp c2, c3⟩] at q3
            exact q3
          · refine hX0 _ _ _ _ ?_
            refine And.intro (fun _ => ?_) (fun c => absurd c (by decide))
            iterate 4 refine hX0 _ _ _ _ ?_
            refine And.intro (by exact vp_in_nI (by omega) (by omega)) ?_
            rw [hcl, eE]
            iterate 3 refine hX0 _ _ _ _ ?_
            rw [nI_1]
            refine ih (i + 1) _ (by omega) (by omega) ?_
            rw [if_neg (fun h => Bool.noConfusion (h.2.symm.trans c4))] at q3
            exact q3
  iterate 6 refine hX0 _ _ _ _ ?_
  have kk := key I 0 0 rfl (by omega) hR
  rw [hF0, nI_0] at kk
  exact kk

set_option maxRecDepth 100000 in
theorem x_rationB {d : Nat} {s : Nat → Int32} {a : Nat → Nat → Int32} {w : Bool} {Z : zH} {wi li co : Nat → Int32} {I k : Nat} {F : Nat → Nat} {Q : zQ} (hS : ISky (a 0) wi li co) (hk : k < 2400) (hI : s 30 = nI I) (hI20 : I ≤ 20) (hF0 : F 0 = 0) (hF : ∀ i, i < I → F i ≤ F (i + 1) ∧ a 44 i = nI (F (i + 1))) (hF60 : ∀ i, i ≤ I → F i ≤ 60) (h0 : Q (some (.int (zra (fun i => zhd (fun j => zTs (zsee (a 40 j) (wi k) (co k) (nI (k % 24))) (a 42 j) (a 41 j)) (fun j => decide (¬ a 43 j = 0)) (F (i + 1) - F i) (F i) true) (a 45) I 0 0))) (HX s a w ++ Z)) : zG (d + 4) 25 [.ref 49, .int (nI k), .ref 1] (HX s a w ++ Z) Q := by
  refine g_25 (Nat.le_of_ble_eq_true rfl) ?_
  intro X0 hX0
  generalize hR : zra (fun i => zhd (fun j => zTs (zsee (a 40 j) (wi k) (co k) (nI (k % 24))) (a 42 j) (a 41 j)) (fun j => decide (¬ a 43 j = 0)) (F (i + 1) - F i) (F i) true) (a 45) I 0 0 = rr at h0
  have hII : (s 30).toInt = (I : Int) := by rw [hI, nI_toInt (by omega)]
  have key : ∀ (n i : Nat) (g : Int32), I - i = n → i ≤ I → zra (fun i => zhd (fun j => zTs (zsee (a 40 j) (wi k) (co k) (nI (k % 24))) (a 42 j) (a 41 j)) (fun j => decide (¬ a 43 j = 0)) (F (i + 1) - F i) (F i) true) (a 45) n i g = rr → X0 8 [some (.ref 49), some (.int (nI k)), some (.ref 1), some (.int g), some (.int (nI (F i))), some (.int (nI i))] [] (HX s a w ++ Z) := by
    intro n
    induction n with
    | zero =>
      intro i g q1 q2 q3
      have hJ : (nI i).toInt = (i : Int) := nI_toInt (by omega)
      have q4 : g = rr := q3
      iterate 4 refine hX0 _ _ _ _ ?_
      refine And.intro (fun c1 => ?_) (fun c1 => ?_)
      · iterate 2 refine hX0 _ _ _ _ ?_
        rw [q4]
        exact h0
      · exfalso
        rw [fa_le] at c1
        omega
    | succ n ih =>
      intro i g q1 q2 q3
      have hJ : (nI i).toInt = (i : Int) := nI_toInt (by omega)
      have hcl : (nI i).toNatClampNeg = i := nI_clamp (by omega)
      have eE : a 44 i = nI (F (i + 1)) := (hF i (by omega)).2
      unfold zra at q3
      iterate 4 refine hX0 _ _ _ _ ?_
      refine And.intro (fun c1 => ?_) (fun c1 => ?_)
      · exfalso
        rw [fa_le] at c1
        omega
      · iterate 4 refine hX0 _ _ _ _ ?_
        refine And.intro (by exact vp_in_nI (by omega) (by omega)) ?_
        rw [hcl]
        iterate 2 refine hX0 _ _ _ _ ?_
        refine And.intro (fun c2 => ?_) (fun c2 => ?_)
        · iterate 4 refine hX0 _ _ _ _ ?_
          refine And.intro (by exact vp_in_nI (by omega) (by omega)) ?_
          rw [hcl, eE]
          iterate 3 refine hX0 _ _ _ _ ?_
          rw [nI_1]
          refine ih (i + 1) _ (by omega) (by omega) ?_
          rw [if_neg (fun h => absurd h.1 (Int32.not_lt.mpr c2))] at q3
          exact q3
        · iterate 6 refine hX0 _ _ _ _ ?_
          refine And.intro (by exact vp_in_nI (by omega) (by omega)) ?_
          rw [hcl, eE]
          iterate 3 refine hX0 _ _ _ _ ?_
          refine x_holdsB hS hk (hF i (by omega)).1 (hF60 (i + 1) (by omega)) (fun c3 => ?_) (fun c4 => ?_)
          · refine hX0 _ _ _ _ ?_
            refine And.intro (fun c => absurd c (by decide)) (fun _ => ?_)
            iterate 4 refine hX0 _ _ _ _ ?_
            refine And.intro (by exact vp_in_nI (by omega) (by omega)) ?_
            rw [hcl]
            iterate 5 refine hX0 _ _ _ _ ?_
            refine And.intro (by exact vp_in_nI (by omega) (by omega)) ?_
            rw [hcl, eE]
            iterate 3 refine hX0 _ _ _ _ ?_
            rw [nI_1]
            refine ih (i + 1) _ (by omega) (by omega) ?_
            rw [if_pos ⟨Int32.not_le.mp c2, c3⟩] at q3
            exact q3
          · refine hX0 _ _ _ _ ?_
            refine And.intro (fun _ => ?_) (fun c => absurd c (by decide))
            iterate 4 refine hX0 _ _ _ _ ?_
            refine And.intro (by exact vp_in_nI (by omega) (by omega)) ?_
            rw [hcl, eE]
            iterate 3 refine hX0 _ _ _ _ ?_
            rw [nI_1]
            refine ih (i + 1) _ (by omega) (by omega) ?_
            rw [if_neg (fun h => Bool.noConfusion (h.2.symm.trans c4))] at q3
            exact q3
  iterate 6 refine hX0 _ _ _ _ ?_
  have kk := key I 0 0 rfl (by omega) hR
  rw [hF0, nI_0] at kk
  exact kk
