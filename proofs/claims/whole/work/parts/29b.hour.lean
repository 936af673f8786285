/-! THE HOUR OF BOTH -/

set_option maxRecDepth 100000 in
theorem x_millAt {d : Nat} {s : Nat → Int32} {a : Nat → Nat → Int32} {w : Bool} {Z : zH} {wi li co : Nat → Int32} {k : Nat} {Q : zQ} (hS : ISky (a 0) wi li co) (hk : k < 2400) (h0 : Q (some (.int (a 4 (wi k).toNatClampNeg))) (HX s a w ++ Z)) : zG (d + 2) 22 [.ref 3, .int (nI k), .ref 1] (HX s a w ++ Z) Q := by
  refine g_22 (Nat.le_of_ble_eq_true rfl) ?_
  intro X0 hX0
  iterate 5 refine hX0 _ _ _ _ ?_
  refine x_windAt hS hk ?_
  refine hX0 _ _ _ _ ?_
  refine And.intro (by first | (rw [vp_in_iff]; have := (hS k hk).1; omega) | (rw [rem24 k hk]; exact vp_in_nI (by omega) (by omega)) | exact vp_in_nI (by omega) (by omega)) ?_
  refine hX0 _ _ _ _ ?_
  exact h0

set_option maxRecDepth 100000 in
theorem x_dleftA {d : Nat} {s : Nat → Int32} {a : Nat → Nat → Int32} {w : Bool} {Z : zH} {wi li co : Nat → Int32} {k : Nat} {Q : zQ} (hS : ISky (a 0) wi li co) (hk : k < 2400) {I : Nat} {F : Nat → Nat} (hI : s 25 = nI I) (hI20 : I ≤ 20) (hF0 : F 0 = 0) (hF : ∀ i, i < I → F i ≤ F (i + 1) ∧ a 38 i = nI (F (i + 1))) (hF60 : ∀ i, i ≤ I → F i ≤ 60) (h0 : Q (some (.int (a 5 (k % 24) - a 5 (k % 24) * (zra (fun i => zhd (fun j => zTs (zsee (a 34 j) (wi k) (co k) (nI (k % 24))) (a 36 j) (a 35 j)) (fun j => decide (¬ a 37 j = 0)) (F (i + 1) - F i) (F i) true) (a 39) I 0 0) / 100))) (HX s a w ++ Z)) : zG (d + 5) 26 [.ref 3, .int (nI k), .ref 1, .ref 42] (HX s a w ++ Z) Q := by
  refine g_26 (Nat.le_of_ble_eq_true rfl) ?_
  intro X0 hX0
  have hcl : (nI (k % 24)).toNatClampNeg = k % 24 := nI_clamp (by omega)
  iterate 5 refine hX0 _ _ _ _ ?_
  refine And.intro (by decide) ?_
  refine hX0 _ _ _ _ ?_
  refine And.intro (by first | (rw [vp_in_iff]; have := (hS k hk).1; omega) | (rw [rem24 k hk]; exact vp_in_nI (by omega) (by omega)) | exact vp_in_nI (by omega) (by omega)) ?_
  rw [rem24 k hk, hcl]
  iterate 7 refine hX0 _ _ _ _ ?_
  refine x_rationA hS hk hI hI20 hF0 hF hF60 ?_
  iterate 3 refine hX0 _ _ _ _ ?_
  refine And.intro (by decide) ?_
  iterate 2 refine hX0 _ _ _ _ ?_
  exact h0

set_option maxRecDepth 100000 in
theorem x_hourA {d : Nat} {s : Nat → Int32} {a : Nat → Nat → Int32} {Z : zH} {wi li co : Nat → Int32} {k : Nat} {y : Int32} {Q : zQ} (hS : ISky (a 0) wi li co) (hk : k < 2400) {I : Nat} {F : Nat → Nat} (hI : s 25 = nI I) (hI20 : I ≤ 20) (hF0 : F 0 = 0) (hF : ∀ i, i < I → F i ≤ F (i + 1) ∧ a 38 i = nI (F (i + 1))) (hF60 : ∀ i, i ≤ I → F i ≤ 60) (h0 : y.toInt = 0 → Q (some (.int (wi k))) (HX s a false ++ Z)) (h1 : y.toInt = 1 → Q (some (.int (li k))) (HX s a false ++ Z)) (h2 : y.toInt = 2 → Q (some (.int (co k))) (HX s a false ++ Z)) (h3 : y.toInt = 3 → Q (some (.int (zra (fun i => zhd (fun j => zTs (zsee (a 34 j) (wi k) (co k) (nI (k % 24))) (a 36 j) (a 35 j)) (fun j => decide (¬ a 37 j = 0)) (F (i + 1) - F i) (F i) true) (a 39) I 0 0))) (HX s a false ++ Z)) (h4 : y.toInt = 4 → Q (some (.int (a 5 (k % 24) - a 5 (k % 24) * (zra (fun i => zhd (fun j => zTs (zsee (a 34 j) (wi k) (co k) (nI (k % 24))) (a 36 j) (a 35 j)) (fun j => decide (¬ a 37 j = 0)) (F (i + 1) - F i) (F i) true) (a 39) I 0 0) / 100))) (HX s a false ++ Z)) (h5 : y.toInt = 5 → Q (some (.int (a 4 (wi k).toNatClampNeg))) (HX s a false ++ Z)) (h6 : y.toInt < 0 ∨ 5 < y.toInt → Q (some (.int (-1000))) (HX s a false ++ Z)) : zG (d + 6) 77 [.ref 0, .int (nI k), .int y] (HX s a false ++ Z) Q := by
  refine g_77 (Nat.le_of_ble_eq_true rfl) ?_
  intro X0 hX0
  have hkI : (nI k).toInt = (k : Int) := nI_toInt (by omega)
  iterate 2 refine hX0 _ _ _ _ ?_
  refine r_isHour (fun c1 => ?_) (fun c2 => ?_)
  · refine hX0 _ _ _ _ ?_
    refine And.intro (fun _ => ?_) (fun c => absurd c (by decide))
    iterate 2 refine hX0 _ _ _ _ ?_
    refine And.intro (fun c3 => ?_) (And.intro (fun c3 => ?_) (And.intro (fun c3 => ?_) (And.intro (fun c3 => ?_) (And.intro (fun c3 => ?_) (And.intro (fun c3 => ?_) (And.intro (fun c3 => ?_) trivial))))))
    · iterate 2 refine hX0 _ _ _ _ ?_
      exact h6 (by omega)
    · iterate 4 refine hX0 _ _ _ _ ?_
      refine x_windAt hS hk ?_
      refine hX0 _ _ _ _ ?_
      exact h0 c3
    · iterate 4 refine hX0 _ _ _ _ ?_
      refine x_lightAt hS hk (fun c5 => ?_) (fun c6 => ?_)
      · refine hX0 _ _ _ _ ?_
        refine And.intro (fun c => absurd c (by decide)) (fun _ => ?_)
        iterate 3 refine hX0 _ _ _ _ ?_
        have q := h1 c3
        rw [c5] at q
        exact q
      · refine hX0 _ _ _ _ ?_
        refine And.intro (fun _ => ?_) (fun c => absurd c (by decide))
        iterate 2 refine hX0 _ _ _ _ ?_
        have q := h1 c3
        rw [c6] at q
        exact q
    · iterate 4 refine hX0 _ _ _ _ ?_
      refine x_coldAt hS hk ?_
      refine hX0 _ _ _ _ ?_
      exact h2 c3
    · iterate 6 refine hX0 _ _ _ _ ?_
      refine x_rationA hS hk hI hI20 hF0 hF hF60 ?_
      refine hX0 _ _ _ _ ?_
      exact h3 c3
    · iterate 8 refine hX0 _ _ _ _ ?_
      refine x_dleftA hS hk hI hI20 hF0 hF hF60 ?_
      refine hX0 _ _ _ _ ?_
      exact h4 c3
    · iterate 6 refine hX0 _ _ _ _ ?_
      refine x_millAt hS hk ?_
      refine hX0 _ _ _ _ ?_
      exact h5 c3
  · refine hX0 _ _ _ _ ?_
    refine And.intro (fun c => absurd c (by decide)) (fun _ => ?_)
    iterate 2 refine hX0 _ _ _ _ ?_
    exfalso
    omega

set_option maxRecDepth 100000 in
theorem x_dleftB {d : Nat} {s : Nat → Int32} {a : Nat → Nat → Int32} {w : Bool} {Z : zH} {wi li co : Nat → Int32} {k : Nat} {Q : zQ} (hS : ISky (a 0) wi li co) (hk : k < 2400) {I : Nat} {F : Nat → Nat} (hI : s 30 = nI I) (hI20 : I ≤ 20) (hF0 : F 0 = 0) (hF : ∀ i, i < I → F i ≤ F (i + 1) ∧ a 44 i = nI (F (i + 1))) (hF60 : ∀ i, i ≤ I → F i ≤ 60) (h0 : Q (some (.int (a 5 (k % 24) - a 5 (k % 24) * (zra (fun i => zhd (fun j => zTs (zsee (a 40 j) (wi k) (co k) (nI (k % 24))) (a 42 j) (a 41 j)) (fun j => decide (¬ a 43 j = 0)) (F (i + 1) - F i) (F i) true) (a 45) I 0 0) / 100))) (HX s a w ++ Z)) : zG (d + 5) 26 [.ref 3, .int (nI k), .ref 1, .ref 49] (HX s a w ++ Z) Q := by
  refine g_26 (Nat.le_of_ble_eq_true rfl) ?_
  intro X0 hX0
  have hcl : (nI (k % 24)).toNatClampNeg = k % 24 := nI_clamp (by omega)
  iterate 5 refine hX0 _ _ _ _ ?_
  refine And.intro (by decide) ?_
  refine hX0 _ _ _ _ ?_
  refine And.intro (by first | (rw [vp_in_iff]; have := (hS k hk).1; omega) | (rw [rem24 k hk]; exact vp_in_nI (by omega) (by omega)) | exact vp_in_nI (by omega) (by omega)) ?_
  rw [rem24 k hk, hcl]
  iterate 7 refine hX0 _ _ _ _ ?_
  refine x_rationB hS hk hI hI20 hF0 hF hF60 ?_
  iterate 3 refine hX0 _ _ _ _ ?_
  refine And.intro (by decide) ?_
  iterate 2 refine hX0 _ _ _ _ ?_
  exact h0

set_option maxRecDepth 100000 in
theorem x_hourB {d : Nat} {s : Nat → Int32} {a : Nat → Nat → Int32} {Z : zH} {wi li co : Nat → Int32} {k : Nat} {y : Int32} {Q : zQ} (hS : ISky (a 0) wi li co) (hk : k < 2400) {I : Nat} {F : Nat → Nat} (hI : s 30 = nI I) (hI20 : I ≤ 20) (hF0 : F 0 = 0) (hF : ∀ i, i < I → F i ≤ F (i + 1) ∧ a 44 i = nI (F (i + 1))) (hF60 : ∀ i, i ≤ I → F i ≤ 60) (h0 : y.toInt = 0 → Q (some (.int (wi k))) (HX s a true ++ Z)) (h1 : y.toInt = 1 → Q (some (.int (li k))) (HX s a true ++ Z)) (h2 : y.toInt = 2 → Q (some (.int (co k))) (HX s a true ++ Z)) (h3 : y.toInt = 3 → Q (some (.int (zra (fun i => zhd (fun j => zTs (zsee (a 40 j) (wi k) (co k) (nI (k % 24))) (a 42 j) (a 41 j)) (fun j => decide (¬ a 43 j = 0)) (F (i + 1) - F i) (F i) true) (a 45) I 0 0))) (HX s a true ++ Z)) (h4 : y.toInt = 4 → Q (some (.int (a 5 (k % 24) - a 5 (k % 24) * (zra (fun i => zhd (fun j => zTs (zsee (a 40 j) (wi k) (co k) (nI (k % 24))) (a 42 j) (a 41 j)) (fun j => decide (¬ a 43 j = 0)) (F (i + 1) - F i) (F i) true) (a 45) I 0 0) / 100))) (HX s a true ++ Z)) (h5 : y.toInt = 5 → Q (some (.int (a 4 (wi k).toNatClampNeg))) (HX s a true ++ Z)) (h6 : y.toInt < 0 ∨ 5 < y.toInt → Q (some (.int (-1000))) (HX s a true ++ Z)) : zG (d + 6) 77 [.ref 0, .int (nI k), .int y] (HX s a true ++ Z) Q := by
  refine g_77 (Nat.le_of_ble_eq_true rfl) ?_
  intro X0 hX0
  have hkI : (nI k).toInt = (k : Int) := nI_toInt (by omega)
  iterate 2 refine hX0 _ _ _ _ ?_
  refine r_isHour (fun c1 => ?_) (fun c2 => ?_)
  · refine hX0 _ _ _ _ ?_
    refine And.intro (fun _ => ?_) (fun c => absurd c (by decide))
    iterate 2 refine hX0 _ _ _ _ ?_
    refine And.intro (fun c3 => ?_) (And.intro (fun c3 => ?_) (And.intro (fun c3 => ?_) (And.intro (fun c3 => ?_) (And.intro (fun c3 => ?_) (And.intro (fun c3 => ?_) (And.intro (fun c3 => ?_) trivial))))))
    · iterate 2 refine hX0 _ _ _ _ ?_
      exact h6 (by omega)
    · iterate 4 refine hX0 _ _ _ _ ?_
      refine x_windAt hS hk ?_
      refine hX0 _ _ _ _ ?_
      exact h0 c3
    · iterate 4 refine hX0 _ _ _ _ ?_
      refine x_lightAt hS hk (fun c5 => ?_) (fun c6 => ?_)
      · refine hX0 _ _ _ _ ?_
        refine And.intro (fun c => absurd c (by decide)) (fun _ => ?_)
        iterate 3 refine hX0 _ _ _ _ ?_
        have q := h1 c3
        rw [c5] at q
        exact q
      · refine hX0 _ _ _ _ ?_
        refine And.intro (fun _ => ?_) (fun c => absurd c (by decide))
        iterate 2 refine hX0 _ _ _ _ ?_
        have q := h1 c3
        rw [c6] at q
        exact q
    · iterate 4 refine hX0 _ _ _ _ ?_
      refine x_coldAt hS hk ?_
      refine hX0 _ _ _ _ ?_
      exact h2 c3
    · iterate 6 refine hX0 _ _ _ _ ?_
      refine x_rationB hS hk hI hI20 hF0 hF hF60 ?_
      refine hX0 _ _ _ _ ?_
      exact h3 c3
    · iterate 8 refine hX0 _ _ _ _ ?_
      refine x_dleftB hS hk hI hI20 hF0 hF hF60 ?_
      refine hX0 _ _ _ _ ?_
      exact h4 c3
    · iterate 6 refine hX0 _ _ _ _ ?_
      refine x_millAt hS hk ?_
      refine hX0 _ _ _ _ ?_
      exact h5 c3
  · refine hX0 _ _ _ _ ?_
    refine And.intro (fun c => absurd c (by decide)) (fun _ => ?_)
    iterate 2 refine hX0 _ _ _ _ ?_
    exfalso
    omega

set_option maxRecDepth 100000 in
theorem y_demandOf {d : Nat} {s : Nat → Int32} {a : Nat → Nat → Int32} {w : Bool} {t : Nat → Int32} {b : Nat → Nat → Int32} {u : Nat → Int64} {c : Nat → Nat → Int64} {k : Nat} {Q : zQ} (hk : k < 2400) {I : Nat} {F : Nat → Nat} (hI : t 6 = nI I) (hI20 : I ≤ 20) (hF : ∀ i, i < I → F i ≤ F (i + 1)) (hF60 : ∀ i, i ≤ I → b 3 i = nI (F i) ∧ F i ≤ 60) (h0 : Q (some (.int (b 13 (k % 24) - b 13 (k % 24) * (zra (fun i => zhm (fun j => zTm (zseM (b 5 j) (b 0 k) (b 2 k) (nI (k % 24))) (b 7 j) (b 6 j)) (fun j => decide (¬ b 8 j = 0)) (F (i + 1) - F i) (F i) false true) (b 4) I 0 0) / 100))) (HX s a w ++ HM t b u c)) : zG (d + 3) 111 [.ref 56, .int (nI k)] (HX s a w ++ HM t b u c) Q := by
  refine g_111 (Nat.le_of_ble_eq_true rfl) ?_
  intro X0 hX0
  have hcl : (nI (k % 24)).toNatClampNeg = k % 24 := nI_clamp (by omega)
  iterate 5 refine hX0 _ _ _ _ ?_
  refine And.intro (by decide) ?_
  refine hX0 _ _ _ _ ?_
  refine And.intro (by first | (rw [rem24 k hk]; exact vp_in_nI (by omega) (by omega)) | exact vp_in_nI (by omega) (by omega)) ?_
  rw [rem24 k hk, hcl]
  iterate 6 refine hX0 _ _ _ _ ?_
  refine y_ration hk hI hI20 hF hF60 ?_
  iterate 3 refine hX0 _ _ _ _ ?_
  refine And.intro (by decide) ?_
  iterate 2 refine hX0 _ _ _ _ ?_
  exact h0

set_option maxRecDepth 100000 in
theorem y_hour {d : Nat} {s : Nat → Int32} {a : Nat → Nat → Int32} {w : Bool} {t : Nat → Int32} {b : Nat → Nat → Int32} {u : Nat → Int64} {c : Nat → Nat → Int64} {P : Nat → Int32} {k : Nat} {y : Int32} {Q : zQ} (hS : ISky P (b 0) (b 1) (b 2)) (hk : k < 2400) {I : Nat} {F : Nat → Nat} (hI : t 6 = nI I) (hI20 : I ≤ 20) (hF : ∀ i, i < I → F i ≤ F (i + 1)) (hF60 : ∀ i, i ≤ I → b 3 i = nI (F i) ∧ F i ≤ 60) (h0 : y.toInt = 0 → Q (some (.int (b 0 k))) (HX s a w ++ HM (va_up t 0 0) b u c)) (h1 : y.toInt = 1 → Q (some (.int (b 1 k))) (HX s a w ++ HM (va_up t 0 0) b u c)) (h2 : y.toInt = 2 → Q (some (.int (b 2 k))) (HX s a w ++ HM (va_up t 0 0) b u c)) (h3 : y.toInt = 3 → Q (some (.int (zra (fun i => zhm (fun j => zTm (zseM (b 5 j) (b 0 k) (b 2 k) (nI (k % 24))) (b 7 j) (b 6 j)) (fun j => decide (¬ b 8 j = 0)) (F (i + 1) - F i) (F i) false true) (b 4) I 0 0))) (HX s a w ++ HM (va_up t 0 0) b u c)) (h4 : y.toInt = 4 → Q (some (.int (b 13 (k % 24) - b 13 (k % 24) * (zra (fun i => zhm (fun j => zTm (zseM (b 5 j) (b 0 k) (b 2 k) (nI (k % 24))) (b 7 j) (b 6 j)) (fun j => decide (¬ b 8 j = 0)) (F (i + 1) - F i) (F i) false true) (b 4) I 0 0) / 100))) (HX s a w ++ HM (va_up t 0 0) b u c)) (h5 : y.toInt = 5 → Q (some (.int (b 12 (b 0 k).toNatClampNeg))) (HX s a w ++ HM (va_up t 0 0) b u c)) (h6 : y.toInt < 0 ∨ 5 < y.toInt → Q (some (.int (-1000))) (HX s a w ++ HM (va_up t 0 0) b u c)) : zG (d + 4) 112 [.ref 56, .int (nI k), .int y] (HX s a w ++ HM t b u c) Q := by
  refine g_112 (Nat.le_of_ble_eq_true rfl) ?_
  intro X0 hX0
  have hkI : (nI k).toInt = (k : Int) := nI_toInt (by omega)
  have hcl : (nI k).toNatClampNeg = k := nI_clamp (by omega)
  iterate 3 refine hX0 _ _ _ _ ?_
  refine zcast (X := X0) yt_0 ?_
  iterate 2 refine hX0 _ _ _ _ ?_
  refine r_isHourM (fun c1 => ?_) (fun c2 => ?_)
  · refine hX0 _ _ _ _ ?_
    refine And.intro (fun _ => ?_) (fun c => absurd c (by decide))
    iterate 2 refine hX0 _ _ _ _ ?_
    refine And.intro (fun c3 => ?_) (And.intro (fun c3 => ?_) (And.intro (fun c3 => ?_) (And.intro (fun c3 => ?_) (And.intro (fun c3 => ?_) (And.intro (fun c3 => ?_) (And.intro (fun c3 => ?_) trivial))))))
    · iterate 2 refine hX0 _ _ _ _ ?_
      exact h6 (by omega)
    · iterate 4 refine hX0 _ _ _ _ ?_
      refine And.intro (by first | (rw [vp_in_iff]; have := (hS k hk).1; omega) | (rw [rem24 k hk]; exact vp_in_nI (by omega) (by omega)) | exact vp_in_nI (by omega) (by omega)) ?_
      rw [hcl]
      refine hX0 _ _ _ _ ?_
      exact h0 c3
    · iterate 4 refine hX0 _ _ _ _ ?_
      refine And.intro (by first | (rw [vp_in_iff]; have := (hS k hk).1; omega) | (rw [rem24 k hk]; exact vp_in_nI (by omega) (by omega)) | exact vp_in_nI (by omega) (by omega)) ?_
      rw [hcl]
      refine hX0 _ _ _ _ ?_
      refine And.intro (fun c4 => ?_) (fun c4 => ?_)
      · iterate 2 refine hX0 _ _ _ _ ?_
        have q := h1 c3
        rw [c4] at q
        exact q
      · iterate 3 refine hX0 _ _ _ _ ?_
        have q := h1 c3
        rcases (hS k hk).2.1 with q5 | q5
        · exact absurd q5 c4
        · rw [q5] at q
          exact q
    · iterate 4 refine hX0 _ _ _ _ ?_
      refine And.intro (by first | (rw [vp_in_iff]; have := (hS k hk).1; omega) | (rw [rem24 k hk]; exact vp_in_nI (by omega) (by omega)) | exact vp_in_nI (by omega) (by omega)) ?_
      rw [hcl]
      refine hX0 _ _ _ _ ?_
      exact h2 c3
    · iterate 3 refine hX0 _ _ _ _ ?_
      refine y_ration hk hI hI20 hF hF60 ?_
      refine hX0 _ _ _ _ ?_
      exact h3 c3
    · iterate 3 refine hX0 _ _ _ _ ?_
      refine y_demandOf hk hI hI20 hF hF60 ?_
      refine hX0 _ _ _ _ ?_
      exact h4 c3
    · iterate 6 refine hX0 _ _ _ _ ?_
      refine And.intro (by first | (rw [vp_in_iff]; have := (hS k hk).1; omega) | (rw [rem24 k hk]; exact vp_in_nI (by omega) (by omega)) | exact vp_in_nI (by omega) (by omega)) ?_
      rw [hcl]
      refine hX0 _ _ _ _ ?_
      refine And.intro (by first | (rw [vp_in_iff]; have := (hS k hk).1; omega) | (rw [rem24 k hk]; exact vp_in_nI (by omega) (by omega)) | exact vp_in_nI (by omega) (by omega)) ?_
      refine hX0 _ _ _ _ ?_
      exact h5 c3
  · refine hX0 _ _ _ _ ?_
    refine And.intro (fun c => absurd c (by decide)) (fun _ => ?_)
    iterate 2 refine hX0 _ _ _ _ ?_
    exfalso
    omega
