/-! CONDITIONS -/
def zb (x : Bool) : Int32 := if x then 1 else 0

set_option maxRecDepth 100000 in
theorem x_holdsA {d : Nat} {s : Nat → Int32} {a : Nat → Nat → Int32} {w : Bool} {Z : zH} {wi li co : Nat → Int32} {F1 F2 k : Nat} {Q : zQ} (hS : ISky (a 0) wi li co) (hk : k < 2400) (hF : F1 ≤ F2) (hF2 : F2 ≤ 60) (h1 : zhd (fun j => zTs (zsee (a 34 j) (wi k) (co k) (nI (k % 24))) (a 36 j) (a 35 j)) (fun j => decide (¬ a 37 j = 0)) (F2 - F1) F1 true = true → Q (some (.int 1)) (HX s a w ++ Z)) (h0 : zhd (fun j => zTs (zsee (a 34 j) (wi k) (co k) (nI (k % 24))) (a 36 j) (a 35 j)) (fun j => decide (¬ a 37 j = 0)) (F2 - F1) F1 true = false → Q (some (.int 0)) (HX s a w ++ Z)) : zG (d + 3) 24 [.ref 42, .int (nI F1), .int (nI F2), .int (nI k), .ref 1] (HX s a w ++ Z) Q := by
  refine g_24 (Nat.le_of_ble_eq_true rfl) ?_
  intro X0 hX0
  generalize hR : zhd (fun j => zTs (zsee (a 34 j) (wi k) (co k) (nI (k % 24))) (a 36 j) (a 35 j)) (fun j => decide (¬ a 37 j = 0)) (F2 - F1) F1 true = rr at h1 h0
  have hFI : (nI F2).toInt = (F2 : Int) := nI_toInt (by omega)
  have key : ∀ (n j : Nat) (al : Bool), F2 - j = n → j ≤ F2 → zhd (fun j => zTs (zsee (a 34 j) (wi k) (co k) (nI (k % 24))) (a 36 j) (a 35 j)) (fun j => decide (¬ a 37 j = 0)) n j al = rr → X0 6 [some (.ref 42), some (.int (nI F1)), some (.int (nI F2)), some (.int (nI k)), some (.ref 1), some (.int (zb al)), some (.int (nI j))] [] (HX s a w ++ Z) := by
    intro n
    induction n with
    | zero =>
      intro j al q1 q2 q3
      have hJ : (nI j).toInt = (j : Int) := nI_toInt (by omega)
      have q4 : al = rr := q3
      iterate 3 refine hX0 _ _ _ _ ?_
      refine And.intro (fun c1 => ?_) (fun c1 => ?_)
      · iterate 2 refine hX0 _ _ _ _ ?_
        cases al with
        | true => exact And.intro (Or.inr rfl) (h1 q4.symm)
        | false => exact And.intro (Or.inl rfl) (h0 q4.symm)
      · exfalso
        rw [fa_le] at c1
        omega
    | succ n ih =>
      intro j al q1 q2 q3
      have hJ : (nI j).toInt = (j : Int) := nI_toInt (by omega)
      have hcl : (nI j).toNatClampNeg = j := nI_clamp (by omega)
      unfold zhd at q3
      cases al with
      | true =>
        iterate 3 refine hX0 _ _ _ _ ?_
        refine And.intro (fun c1 => ?_) (fun c1 => ?_)
        · exfalso
          rw [fa_le] at c1
          omega
        · iterate 4 refine hX0 _ _ _ _ ?_
          refine And.intro (by first | exact Or.inl rfl | exact Or.inr rfl | exact vp_in_nI (by omega) (by omega)) ?_
          refine hX0 _ _ _ _ ?_
          refine And.intro (fun c2 => ?_) (fun c2 => ?_)
          · iterate 2 refine hX0 _ _ _ _ ?_
            refine And.intro (fun c => absurd c (by decide)) (fun _ => ?_)
            iterate 5 refine hX0 _ _ _ _ ?_
            refine x_testA hS hk (by omega) (fun c3 => ?_) (fun c4 => ?_)
            · refine hX0 _ _ _ _ ?_
              refine And.intro (fun c => absurd c (by decide)) (fun _ => ?_)
              iterate 5 refine hX0 _ _ _ _ ?_
              rw [nI_1]
              try rw [hcl] at c2
              refine ih (j + 1) true (by omega) (by omega) ?_
              rw [← q3]
              simp [c2, c3]
            · refine hX0 _ _ _ _ ?_
              refine And.intro (fun _ => ?_) (fun c => absurd c (by decide))
              iterate 4 refine hX0 _ _ _ _ ?_
              rw [nI_1]
              try rw [hcl] at c2
              refine ih (j + 1) false (by omega) (by omega) ?_
              rw [← q3]
              simp [c2, c4]
          · iterate 2 refine hX0 _ _ _ _ ?_
            refine And.intro (fun c => absurd c (by decide)) (fun _ => ?_)
            iterate 2 refine hX0 _ _ _ _ ?_
            refine And.intro (by first | exact Or.inl rfl | exact Or.inr rfl | first | exact Or.inl rfl | exact Or.inr rfl | exact vp_in_nI (by omega) (by omega)) ?_
            rw [hcl] at c2
            exact h1 (by rw [← q3]; simp [c2])
      | false =>
        iterate 3 refine hX0 _ _ _ _ ?_
        refine And.intro (fun c1 => ?_) (fun c1 => ?_)
        · exfalso
          rw [fa_le] at c1
          omega
        · iterate 4 refine hX0 _ _ _ _ ?_
          refine And.intro (by first | exact Or.inl rfl | exact Or.inr rfl | exact vp_in_nI (by omega) (by omega)) ?_
          refine hX0 _ _ _ _ ?_
          refine And.intro (fun c2 => ?_) (fun c2 => ?_)
          · iterate 2 refine hX0 _ _ _ _ ?_
            refine And.intro (fun _ => ?_) (fun c => absurd c (by decide))
            iterate 4 refine hX0 _ _ _ _ ?_
            rw [nI_1]
            try rw [hcl] at c2
            refine ih (j + 1) false (by omega) (by omega) ?_
            rw [← q3]
            simp [c2]
          · iterate 2 refine hX0 _ _ _ _ ?_
            refine And.intro (fun _ => ?_) (fun c => absurd c (by decide))
            iterate 4 refine hX0 _ _ _ _ ?_
            refine And.intro (fun c => absurd c (by decide)) (fun _ => ?_)
            iterate 5 refine hX0 _ _ _ _ ?_
            refine x_testA hS hk (by omega) (fun c3 => ?_) (fun c4 => ?_)
            · refine hX0 _ _ _ _ ?_
              refine And.intro (fun c => absurd c (by decide)) (fun _ => ?_)
              iterate 5 refine hX0 _ _ _ _ ?_
              rw [nI_1]
              try rw [hcl] at c2
              refine ih (j + 1) true (by omega) (by omega) ?_
              rw [← q3]
              simp [c2, c3]
            · refine hX0 _ _ _ _ ?_
              refine And.intro (fun _ => ?_) (fun c => absurd c (by decide))
              iterate 4 refine hX0 _ _ _ _ ?_
              rw [nI_1]
              try rw [hcl] at c2
              refine ih (j + 1) false (by omega) (by omega) ?_
              rw [← q3]
              simp [c2, c4]
  iterate 4 refine hX0 _ _ _ _ ?_
  exact key (F2 - F1) F1 true rfl hF hR

set_option maxRecDepth 100000 in
theorem x_holdsB {d : Nat} {s : Nat → Int32} {a : Nat → Nat → Int32} {w : Bool} {Z : zH} {wi li co : Nat → Int32} {F1 F2 k : Nat} {Q : zQ} (hS : ISky (a 0) wi li co) (hk : k < 2400) (hF : F1 ≤ F2) (hF2 : F2 ≤ 60) (h1 : zhd (fun j => zTs (zsee (a 40 j) (wi k) (co k) (nI (k % 24))) (a 42 j) (a 41 j)) (fun j => decide (¬ a 43 j = 0)) (F2 - F1) F1 true = true → Q (some (.int 1)) (HX s a w ++ Z)) (h0 : zhd (fun j => zTs (zsee (a 40 j) (wi k) (co k) (nI (k % 24))) (a 42 j) (a 41 j)) (fun j => decide (¬ a 43 j = 0)) (F2 - F1) F1 true = false → Q (some (.int 0)) (HX s a w ++ Z)) : zG (d + 3) 24 [.ref 49, .int (nI F1), .int (nI F2), .int (nI k), .ref 1] (HX s a w ++ Z) Q := by
  refine g_24 (Nat.le_of_ble_eq_true rfl) ?_
  intro X0 hX0
  generalize hR : zhd (fun j => zTs (zsee (a 40 j) (wi k) (co k) (nI (k % 24))) (a 42 j) (a 41 j)) (fun j => decide (¬ a 43 j = 0)) (F2 - F1) F1 true = rr at h1 h0
  have hFI : (nI F2).toInt = (F2 : Int) := nI_toInt (by omega)
  have key : ∀ (n j : Nat) (al : Bool), F2 - j = n → j ≤ F2 → zhd (fun j => zTs (zsee (a 40 j) (wi k) (co k) (nI (k % 24))) (a 42 j) (a 41 j)) (fun j => decide (¬ a 43 j = 0)) n j al = rr → X0 6 [some (.ref 49), some (.int (nI F1)), some (.int (nI F2)), some (.int (nI k)), some (.ref 1), some (.int (zb al)), some (.int (nI j))] [] (HX s a w ++ Z) := by
    intro n
    induction n with
    | zero =>
      intro j al q1 q2 q3
      have hJ : (nI j).toInt = (j : Int) := nI_toInt (by omega)
      have q4 : al = rr := q3
      iterate 3 refine hX0 _ _ _ _ ?_
      refine And.intro (fun c1 => ?_) (fun c1 => ?_)
      · iterate 2 refine hX0 _ _ _ _ ?_
        cases al with
        | true => exact And.intro (Or.inr rfl) (h1 q4.symm)
        | false => exact And.intro (Or.inl rfl) (h0 q4.symm)
      · exfalso
        rw [fa_le] at c1
        omega
    | succ n ih =>
      intro j al q1 q2 q3
      have hJ : (nI j).toInt = (j : Int) := nI_toInt (by omega)
      have hcl : (nI j).toNatClampNeg = j := nI_clamp (by omega)
      unfold zhd at q3
      cases al with
      | true =>
        iterate 3 refine hX0 _ _ _ _ ?_
        refine And.intro (fun c1 => ?_) (fun c1 => ?_)
        · exfalso
          rw [fa_le] at c1
          omega
        · iterate 4 refine hX0 _ _ _ _ ?_
          refine And.intro (by first | exact Or.inl rfl | exact Or.inr rfl | exact vp_in_nI (by omega) (by omega)) ?_
          refine hX0 _ _ _ _ ?_
          refine And.intro (fun c2 => ?_) (fun c2 => ?_)
          · iterate 2 refine hX0 _ _ _ _ ?_
            refine And.intro (fun c => absurd c (by decide)) (fun _ => ?_)
            iterate 5 refine hX0 _ _ _ _ ?_
            refine x_testB hS hk (by omega) (fun c3 => ?_) (fun c4 => ?_)
            · refine hX0 _ _ _ _ ?_
              refine And.intro (fun c => absurd c (by decide)) (fun _ => ?_)
              iterate 5 refine hX0 _ _ _ _ ?_
              rw [nI_1]
              try rw [hcl] at c2
              refine ih (j + 1) true (by omega) (by omega) ?_
              rw [← q3]
              simp [c2, c3]
            · refine hX0 _ _ _ _ ?_
              refine And.intro (fun _ => ?_) (fun c => absurd c (by decide))
              iterate 4 refine hX0 _ _ _ _ ?_
              rw [nI_1]
              try rw [hcl] at c2
              refine ih (j + 1) false (by omega) (by omega) ?_
              rw [← q3]
              simp [c2, c4]
          · iterate 2 refine hX0 _ _ _ _ ?_
            refine And.intro (fun c => absurd c (by decide)) (fun _ => ?_)
            iterate 2 refine hX0 _ _ _ _ ?_
            refine And.intro (by first | exact Or.inl rfl | exact Or.inr rfl | first | exact Or.inl rfl | exact Or.inr rfl | exact vp_in_nI (by omega) (by omega)) ?_
            rw [hcl] at c2
            exact h1 (by rw [← q3]; simp [c2])
      | false =>
        iterate 3 refine hX0 _ _ _ _ ?_
        refine And.intro (fun c1 => ?_) (fun c1 => ?_)
        · exfalso
          rw [fa_le] at c1
          omega
        · iterate 4 refine hX0 _ _ _ _ ?_
          refine And.intro (by first | exact Or.inl rfl | exact Or.inr rfl | exact vp_in_nI (by omega) (by omega)) ?_
          refine hX0 _ _ _ _ ?_
          refine And.intro (fun c2 => ?_) (fun c2 => ?_)
          · iterate 2 refine hX0 _ _ _ _ ?_
            refine And.intro (fun _ => ?_) (fun c => absurd c (by decide))
            iterate 4 refine hX0 _ _ _ _ ?_
            rw [nI_1]
            try rw [hcl] at c2
            refine ih (j + 1) false (by omega) (by omega) ?_
            rw [← q3]
            simp [c2]
          · iterate 2 refine hX0 _ _ _ _ ?_
            refine And.intro (fun _ => ?_) (fun c => absurd c (by decide))
            iterate 4 refine hX0 _ _ _ _ ?_
            refine And.intro (fun c => absurd c (by decide)) (fun _ => ?_)
            iterate 5 refine hX0 _ _ _ _ ?_
            refine x_testB hS hk (by omega) (fun c3 => ?_) (fun c4 => ?_)
            · refine hX0 _ _ _ _ ?_
              refine And.intro (fun c => absurd c (by decide)) (fun _ => ?_)
              iterate 5 refine hX0 _ _ _ _ ?_
              rw [nI_1]
              try rw [hcl] at c2
              refine ih (j + 1) true (by omega) (by omega) ?_
              rw [← q3]
              simp [c2, c3]
            · refine hX0 _ _ _ _ ?_
              refine And.intro (fun _ => ?_) (fun c => absurd c (by decide))
              iterate 4 refine hX0 _ _ _ _ ?_
              rw [nI_1]
              try rw [hcl] at c2
              refine ih (j + 1) false (by omega) (by omega) ?_
              rw [← q3]
              simp [c2, c4]
  iterate 4 refine hX0 _ _ _ _ ?_
  exact key (F2 - F1) F1 true rfl hF hR
