/-! RATION: tests, conditions -/
def zsee (su wv cv hv : Int32) : Int32 := if su = -13 then wv else if su = -8 then cv else hv
def zTs (v nu ab : Int32) : Bool := if ab = 0 then decide (v < nu) else decide (nu < v)
def zseM (tw wv cv hv : Int32) : Int32 := if tw = 0 then wv else if tw = 1 then cv else hv
def zTm (v va le : Int32) : Bool := if le = 0 then decide (va < v) else decide (v < va)
theorem rem24 (h : Nat) (hh : h < 2400) : nI h - nI h / 24 * 24 = nI (h % 24) := pk_rem (d := 24) (by omega) (by omega) (by omega)
/-- tests from t on, n of them: 'or' begins anew -/
def zhd (T : Nat → Bool) (O : Nat → Bool) : Nat → Nat → Bool → Bool
  | 0, _, al => al
  | n + 1, t, al => if O t then (if al then true else zhd T O n (t + 1) (T t)) else zhd T O n (t + 1) (al && T t)
/-- the same as the reference has it -/
def zhm (T : Nat → Bool) (O : Nat → Bool) : Nat → Nat → Bool → Bool → Bool
  | 0, _, an, al => an || al
  | n + 1, t, an, al => if O t then zhm T O n (t + 1) (an || al) (T t) else zhm T O n (t + 1) an (al && T t)
theorem zhm_t (T O : Nat → Bool) : ∀ n t al, zhm T O n t true al = true
  | 0, t, al => rfl
  | n + 1, t, al => by
    unfold zhm
    split
    · exact zhm_t T O n (t + 1) (T t)
    · exact zhm_t T O n (t + 1) (al && T t)
theorem zhm_hd (T O : Nat → Bool) : ∀ n t al, zhm T O n t false al = zhd T O n t al
  | 0, t, al => by simp [zhm, zhd]
  | n + 1, t, al => by
    unfold zhm zhd
    split
    · cases al with
      | true => simp only [Bool.or_true, if_true]; exact zhm_t T O n (t + 1) (T t)
      | false => simp only [Bool.or_false, Bool.false_eq_true, if_false]; exact zhm_hd T O n (t + 1) (T t)
    · exact zhm_hd T O n (t + 1) (al && T t)

set_option maxRecDepth 100000 in
theorem x_testA {d : Nat} {s : Nat → Int32} {a : Nat → Nat → Int32} {w : Bool} {Z : zH} {wi li co : Nat → Int32} {j k : Nat} {Q : zQ} (hS : ISky (a 0) wi li co) (hk : k < 2400) (hj : j < 60) (h1 : zTs (zsee (a 34 j) (wi k) (co k) (nI (k % 24))) (a 36 j) (a 35 j) = true → Q (some (.int 1)) (HX s a w ++ Z)) (h0 : zTs (zsee (a 34 j) (wi k) (co k) (nI (k % 24))) (a 36 j) (a 35 j) = false → Q (some (.int 0)) (HX s a w ++ Z)) : zG (d + 2) 23 [.ref 42, .int (nI j), .int (nI k), .ref 1] (HX s a w ++ Z) Q := by
  refine g_23 (Nat.le_of_ble_eq_true rfl) ?_
  intro X0 hX0
  have hcl : (nI j).toNatClampNeg = j := nI_clamp (by omega)
  have hclh : (nI k).toNatClampNeg = k := nI_clamp (by omega)
  have hrem := rem24 k hk
  iterate 4 refine hX0 _ _ _ _ ?_
  refine And.intro (by first | exact vp_in_nI (by omega) (by omega)) ?_
  iterate 2 refine hX0 _ _ _ _ ?_
  refine And.intro (fun c1 => ?_) (fun c1 => ?_)
  · iterate 4 refine hX0 _ _ _ _ ?_
    refine And.intro (by first | exact vp_in_nI (by omega) (by omega)) ?_
    iterate 2 refine hX0 _ _ _ _ ?_
    refine And.intro (fun c2 => ?_) (fun c2 => ?_)
    · iterate 3 refine hX0 _ _ _ _ ?_
      refine And.intro (by decide) ?_
      iterate 5 refine hX0 _ _ _ _ ?_
      refine And.intro (by first | exact vp_in_nI (by omega) (by omega)) ?_
      refine hX0 _ _ _ _ ?_
      refine And.intro (fun c3 => ?_) (fun c3 => ?_)
      · iterate 5 refine hX0 _ _ _ _ ?_
        refine And.intro (by first | exact vp_in_nI (by omega) (by omega)) ?_
        refine hX0 _ _ _ _ ?_
        refine And.intro (fun c4 => ?_) (fun c4 => ?_)
        · iterate 2 refine hX0 _ _ _ _ ?_
          refine And.intro (by first | exact Or.inl rfl | exact Or.inr rfl | first | exact vp_in_nI (by omega) (by omega)) ?_
          try simp only [hcl, hclh, hrem, Int32.not_le, Int32.not_lt] at c1 c2 c3 c4
          first | exact h1 (by simp [zTs, zsee, zTm, zseM, hcl, hclh, hrem, Int32.not_le, Int32.not_lt, c1, c2, c3, c4]) | exact h0 (by simp [zTs, zsee, zTm, zseM, hcl, hclh, hrem, Int32.not_le, Int32.not_lt, c1, c2, c3, c4])
        · iterate 3 refine hX0 _ _ _ _ ?_
          refine And.intro (by first | exact Or.inl rfl | exact Or.inr rfl | first | exact vp_in_nI (by omega) (by omega)) ?_
          try simp only [hcl, hclh, hrem, Int32.not_le, Int32.not_lt] at c1 c2 c3 c4
          first | exact h1 (by simp [zTs, zsee, zTm, zseM, hcl, hclh, hrem, Int32.not_le, Int32.not_lt, c1, c2, c3, c4]) | exact h0 (by simp [zTs, zsee, zTm, zseM, hcl, hclh, hrem, Int32.not_le, Int32.not_lt, c1, c2, c3, c4])
      · iterate 5 refine hX0 _ _ _ _ ?_
        refine And.intro (by first | exact vp_in_nI (by omega) (by omega)) ?_
        refine hX0 _ _ _ _ ?_
        refine And.intro (fun c5 => ?_) (fun c5 => ?_)
        · iterate 3 refine hX0 _ _ _ _ ?_
          refine And.intro (by first | exact Or.inl rfl | exact Or.inr rfl | first | exact vp_in_nI (by omega) (by omega)) ?_
          try simp only [hcl, hclh, hrem, Int32.not_le, Int32.not_lt] at c1 c2 c3 c5
          first | exact h1 (by simp [zTs, zsee, zTm, zseM, hcl, hclh, hrem, Int32.not_le, Int32.not_lt, c1, c2, c3, c5]) | exact h0 (by simp [zTs, zsee, zTm, zseM, hcl, hclh, hrem, Int32.not_le, Int32.not_lt, c1, c2, c3, c5])
        · iterate 3 refine hX0 _ _ _ _ ?_
          refine And.intro (by first | exact Or.inl rfl | exact Or.inr rfl | first | exact vp_in_nI (by omega) (by omega)) ?_
          try simp only [hcl, hclh, hrem, Int32.not_le, Int32.not_lt] at c1 c2 c3 c5
          first | exact h1 (by simp [zTs, zsee, zTm, zseM, hcl, hclh, hrem, Int32.not_le, Int32.not_lt, c1, c2, c3, c5]) | exact h0 (by simp [zTs, zsee, zTm, zseM, hcl, hclh, hrem, Int32.not_le, Int32.not_lt, c1, c2, c3, c5])
    · iterate 3 refine hX0 _ _ _ _ ?_
      refine x_coldAt hS hk ?_
      iterate 6 refine hX0 _ _ _ _ ?_
      refine And.intro (by first | exact vp_in_nI (by omega) (by omega)) ?_
      refine hX0 _ _ _ _ ?_
      refine And.intro (fun c7 => ?_) (fun c7 => ?_)
      · iterate 5 refine hX0 _ _ _ _ ?_
        refine And.intro (by first | exact vp_in_nI (by omega) (by omega)) ?_
        refine hX0 _ _ _ _ ?_
        refine And.intro (fun c8 => ?_) (fun c8 => ?_)
        · iterate 2 refine hX0 _ _ _ _ ?_
          refine And.intro (by first | exact Or.inl rfl | exact Or.inr rfl | first | exact vp_in_nI (by omega) (by omega)) ?_
          try simp only [hcl, hclh, hrem, Int32.not_le, Int32.not_lt] at c1 c2 c7 c8
          first | exact h1 (by simp [zTs, zsee, zTm, zseM, hcl, hclh, hrem, Int32.not_le, Int32.not_lt, c1, c2, c7, c8]) | exact h0 (by simp [zTs, zsee, zTm, zseM, hcl, hclh, hrem, Int32.not_le, Int32.not_lt, c1, c2, c7, c8])
        · iterate 3 refine hX0 _ _ _ _ ?_
          refine And.intro (by first | exact Or.inl rfl | exact Or.inr rfl | first | exact vp_in_nI (by omega) (by omega)) ?_
          try simp only [hcl, hclh, hrem, Int32.not_le, Int32.not_lt] at c1 c2 c7 c8
          first | exact h1 (by simp [zTs, zsee, zTm, zseM, hcl, hclh, hrem, Int32.not_le, Int32.not_lt, c1, c2, c7, c8]) | exact h0 (by simp [zTs, zsee, zTm, zseM, hcl, hclh, hrem, Int32.not_le, Int32.not_lt, c1, c2, c7, c8])
      · iterate 5 refine hX0 _ _ _ _ ?_
        refine And.intro (by first | exact vp_in_nI (by omega) (by omega)) ?_
        refine hX0 _ _ _ _ ?_
        refine And.intro (fun c9 => ?_) (fun c9 => ?_)
        · iterate 3 refine hX0 _ _ _ _ ?_
          refine And.intro (by first | exact Or.inl rfl | exact Or.inr rfl | first | exact vp_in_nI (by omega) (by omega)) ?_
          try simp only [hcl, hclh, hrem, Int32.not_le, Int32.not_lt] at c1 c2 c7 c9
          first | exact h1 (by simp [zTs, zsee, zTm, zseM, hcl, hclh, hrem, Int32.not_le, Int32.not_lt, c1, c2, c7, c9]) | exact h0 (by simp [zTs, zsee, zTm, zseM, hcl, hclh, hrem, Int32.not_le, Int32.not_lt, c1, c2, c7, c9])
        · iterate 3 refine hX0 _ _ _ _ ?_
          refine And.intro (by first | exact Or.inl rfl | exact Or.inr rfl | first | exact vp_in_nI (by omega) (by omega)) ?_
          try simp only [hcl, hclh, hrem, Int32.not_le, Int32.not_lt] at c1 c2 c7 c9
          first | exact h1 (by simp [zTs, zsee, zTm, zseM, hcl, hclh, hrem, Int32.not_le, Int32.not_lt, c1, c2, c7, c9]) | exact h0 (by simp [zTs, zsee, zTm, zseM, hcl, hclh, hrem, Int32.not_le, Int32.not_lt, c1, c2, c7, c9])
  · iterate 3 refine hX0 _ _ _ _ ?_
    refine x_windAt hS hk ?_
    iterate 6 refine hX0 _ _ _ _ ?_
    refine And.intro (by first | exact vp_in_nI (by omega) (by omega)) ?_
    refine hX0 _ _ _ _ ?_
    refine And.intro (fun c11 => ?_) (fun c11 => ?_)
    · iterate 5 refine hX0 _ _ _ _ ?_
      refine And.intro (by first | exact vp_in_nI (by omega) (by omega)) ?_
      refine hX0 _ _ _ _ ?_
      refine And.intro (fun c12 => ?_) (fun c12 => ?_)
      · iterate 2 refine hX0 _ _ _ _ ?_
        refine And.intro (by first | exact Or.inl rfl | exact Or.inr rfl | first | exact vp_in_nI (by omega) (by omega)) ?_
        try simp only [hcl, hclh, hrem, Int32.not_le, Int32.not_lt] at c1 c11 c12
        first | exact h1 (by simp [zTs, zsee, zTm, zseM, hcl, hclh, hrem, Int32.not_le, Int32.not_lt, c1, c11, c12]) | exact h0 (by simp [zTs, zsee, zTm, zseM, hcl, hclh, hrem, Int32.not_le, Int32.not_lt, c1, c11, c12])
      · iterate 3 refine hX0 _ _ _ _ ?_
        refine And.intro (by first | exact Or.inl rfl | exact Or.inr rfl | first | exact vp_in_nI (by omega) (by omega)) ?_
        try simp only [hcl, hclh, hrem, Int32.not_le, Int32.not_lt] at c1 c11 c12
        first | exact h1 (by simp [zTs, zsee, zTm, zseM, hcl, hclh, hrem, Int32.not_le, Int32.not_lt, c1, c11, c12]) | exact h0 (by simp [zTs, zsee, zTm, zseM, hcl, hclh, hrem, Int32.not_le, Int32.not_lt, c1, c11, c12])
    · iterate 5 refine hX0 _ _ _ _ ?_
      refine And.intro (by first | exact vp_in_nI (by omega) (by omega)) ?_
      refine hX0 _ _ _ _ ?_
      refine And.intro (fun c13 => ?_) (fun c13 => ?_)
      · iterate 3 refine hX0 _ _ _ _ ?_
        refine And.intro (by first | exact Or.inl rfl | exact Or.inr rfl | first | exact vp_in_nI (by omega) (by omega)) ?_
        try simp only [hcl, hclh, hrem, Int32.not_le, Int32.not_lt] at c1 c11 c13
        first | exact h1 (by simp [zTs, zsee, zTm, zseM, hcl, hclh, hrem, Int32.not_le, Int32.not_lt, c1, c11, c13]) | exact h0 (by simp [zTs, zsee, zTm, zseM, hcl, hclh, hrem, Int32.not_le, Int32.not_lt, c1, c11, c13])
      · iterate 3 refine hX0 _ _ _ _ ?_
        refine And.intro (by first | exact Or.inl rfl | exact Or.inr rfl | first | exact vp_in_nI (by omega) (by omega)) ?_
        try simp only [hcl, hclh, hrem, Int32.not_le, Int32.not_lt] at c1 c11 c13
        first | exact h1 (by simp [zTs, zsee, zTm, zseM, hcl, hclh, hrem, Int32.not_le, Int32.not_lt, c1, c11, c13]) | exact h0 (by simp [zTs, zsee, zTm, zseM, hcl, hclh, hrem, Int32.not_le, Int32.not_lt, c1, c11, c13])

set_option maxRecDepth 100000 in
theorem x_testB {d : Nat} {s : Nat → Int32} {a : Nat → Nat → Int32} {w : Bool} {Z : zH} {wi li co : Nat → Int32} {j k : Nat} {Q : zQ} (hS : ISky (a 0) wi li co) (hk : k < 2400) (hj : j < 60) (h1 : zTs (zsee (a 40 j) (wi k) (co k) (nI (k % 24))) (a 42 j) (a 41 j) = true → Q (some (.int 1)) (HX s a w ++ Z)) (h0 : zTs (zsee (a 40 j) (wi k) (co k) (nI (k % 24))) (a 42 j) (a 41 j) = false → Q (some (.int 0)) (HX s a w ++ Z)) : zG (d + 2) 23 [.ref 49, .int (nI j), .int (nI k), .ref 1] (HX s a w ++ Z) Q := by
  refine g_23 (Nat.le_of_ble_eq_true rfl) ?_
  intro X0 hX0
  have hcl : (nI j).toNatClampNeg = j := nI_clamp (by omega)
  have hclh : (nI k).toNatClampNeg = k := nI_clamp (by omega)
  have hrem := rem24 k hk
  iterate 4 refine hX0 _ _ _ _ ?_
  refine And.intro (by first | exact vp_in_nI (by omega) (by omega)) ?_
  iterate 2 refine hX0 _ _ _ _ ?_
  refine And.intro (fun c1 => ?_) (fun c1 => ?_)
  · iterate 4 refine hX0 _ _ _ _ ?_
    refine And.intro (by first | exact vp_in_nI (by omega) (by omega)) ?_
    iterate 2 refine hX0 _ _ _ _ ?_
    refine And.intro (fun c2 => ?_) (fun c2 => ?_)
    · iterate 3 refine hX0 _ _ _ _ ?_
      refine And.intro (by decide) ?_
      iterate 5 refine hX0 _ _ _ _ ?_
      refine And.intro (by first | exact vp_in_nI (by omega) (by omega)) ?_
      refine hX0 _ _ _ _ ?_
      refine And.intro (fun c3 => ?_) (fun c3 => ?_)
      · iterate 5 refine hX0 _ _ _ _ ?_
        refine And.intro (by first | exact vp_in_nI (by omega) (by omega)) ?_
        refine hX0 _ _ _ _ ?_
        refine And.intro (fun c4 => ?_) (fun c4 => ?_)
        · iterate 2 refine hX0 _ _ _ _ ?_
          refine And.intro (by first | exact Or.inl rfl | exact Or.inr rfl | first | exact vp_in_nI (by omega) (by omega)) ?_
          try simp only [hcl, hclh, hrem, Int32.not_le, Int32.not_lt] at c1 c2 c3 c4
          first | exact h1 (by simp [zTs, zsee, zTm, zseM, hcl, hclh, hrem, Int32.not_le, Int32.not_lt, c1, c2, c3, c4]) | exact h0 (by simp [zTs, zsee, zTm, zseM, hcl, hclh, hrem, Int32.not_le, Int32.not_lt, c1, c2, c3, c4])
        · iterate 3 refine hX0 _ _ _ _ ?_
          refine And.intro (by first | exact Or.inl rfl | exact Or.inr rfl | first | exact vp_in_nI (by omega) (by omega)) ?_
          try simp only [hcl, hclh, hrem, Int32.not_le, Int32.not_lt] at c1 c2 c3 c4
          first | exact h1 (by simp [zTs, zsee, zTm, zseM, hcl, hclh, hrem, Int32.not_le, Int32.not_lt, c1, c2, c3, c4]) | exact h0 (by simp [zTs, zsee, zTm, zseM, hcl, hclh, hrem, Int32.not_le, Int32.not_lt, c1, c2, c3, c4])
      · iterate 5 refine hX0 _ _ _ _ ?_
        refine And.intro (by first | exact vp_in_nI (by omega) (by omega)) ?_
        refine hX0 _ _ _ _ ?_
        refine And.intro (fun c5 => ?_) (fun c5 => ?_)
        · iterate 3 refine hX0 _ _ _ _ ?_
          refine And.intro (by first | exact Or.inl rfl | exact Or.inr rfl | first | exact vp_in_nI (by omega) (by omega)) ?_
          try simp only [hcl, hclh, hrem, Int32.not_le, Int32.not_lt] at c1 c2 c3 c5
          first | exact h1 (by simp [zTs, zsee, zTm, zseM, hcl, hclh, hrem, Int32.not_le, Int32.not_lt, c1, c2, c3, c5]) | exact h0 (by simp [zTs, zsee, zTm, zseM, hcl, hclh, hrem, Int32.not_le, Int32.not_lt, c1, c2, c3, c5])
        · iterate 3 refine hX0 _ _ _ _ ?_
          refine And.intro (by first | exact Or.inl rfl | exact Or.inr rfl | first | exact vp_in_nI (by omega) (by omega)) ?_
          try simp only [hcl, hclh, hrem, Int32.not_le, Int32.not_lt] at c1 c2 c3 c5
          first | exact h1 (by simp [zTs, zsee, zTm, zseM, hcl, hclh, hrem, Int32.not_le, Int32.not_lt, c1, c2, c3, c5]) | exact h0 (by simp [zTs, zsee, zTm, zseM, hcl, hclh, hrem, Int32.not_le, Int32.not_lt, c1, c2, c3, c5])
    · iterate 3 refine hX0 _ _ _ _ ?_
      refine x_coldAt hS hk ?_
      iterate 6 refine hX0 _ _ _ _ ?_
      refine And.intro (by first | exact vp_in_nI (by omega) (by omega)) ?_
      refine hX0 _ _ _ _ ?_
      refine And.intro (fun c7 => ?_) (fun c7 => ?_)
      · iterate 5 refine hX0 _ _ _ _ ?_
        refine And.intro (by first | exact vp_in_nI (by omega) (by omega)) ?_
        refine hX0 _ _ _ _ ?_
        refine And.intro (fun c8 => ?_) (fun c8 => ?_)
        · iterate 2 refine hX0 _ _ _ _ ?_
          refine And.intro (by first | exact Or.inl rfl | exact Or.inr rfl | first | exact vp_in_nI (by omega) (by omega)) ?_
          try simp only [hcl, hclh, hrem, Int32.not_le, Int32.not_lt] at c1 c2 c7 c8
          first | exact h1 (by simp [zTs, zsee, zTm, zseM, hcl, hclh, hrem, Int32.not_le, Int32.not_lt, c1, c2, c7, c8]) | exact h0 (by simp [zTs, zsee, zTm, zseM, hcl, hclh, hrem, Int32.not_le, Int32.not_lt, c1, c2, c7, c8])
        · iterate 3 refine hX0 _ _ _ _ ?_
          refine And.intro (by first | exact Or.inl rfl | exact Or.inr rfl | first | exact vp_in_nI (by omega) (by omega)) ?_
          try simp only [hcl, hclh, hrem, Int32.not_le, Int32.not_lt] at c1 c2 c7 c8
          first | exact h1 (by simp [zTs, zsee, zTm, zseM, hcl, hclh, hrem, Int32.not_le, Int32.not_lt, c1, c2, c7, c8]) | exact h0 (by simp [zTs, zsee, zTm, zseM, hcl, hclh, hrem, Int32.not_le, Int32.not_lt, c1, c2, c7, c8])
      · iterate 5 refine hX0 _ _ _ _ ?_
        refine And.intro (by first | exact vp_in_nI (by omega) (by omega)) ?_
        refine hX0 _ _ _ _ ?_
        refine And.intro (fun c9 => ?_) (fun c9 => ?_)
        · iterate 3 refine hX0 _ _ _ _ ?_
          refine And.intro (by first | exact Or.inl rfl | exact Or.inr rfl | first | exact vp_in_nI (by omega) (by omega)) ?_
          try simp only [hcl, hclh, hrem, Int32.not_le, Int32.not_lt] at c1 c2 c7 c9
          first | exact h1 (by simp [zTs, zsee, zTm, zseM, hcl, hclh, hrem, Int32.not_le, Int32.not_lt, c1, c2, c7, c9]) | exact h0 (by simp [zTs, zsee, zTm, zseM, hcl, hclh, hrem, Int32.not_le, Int32.not_lt, c1, c2, c7, c9])
        · iterate 3 refine hX0 _ _ _ _ ?_
          refine And.intro (by first | exact Or.inl rfl | exact Or.inr rfl | first | exact vp_in_nI (by omega) (by omega)) ?_
          try simp only [hcl, hclh, hrem, Int32.not_le, Int32.not_lt] at c1 c2 c7 c9
          first | exact h1 (by simp [zTs, zsee, zTm, zseM, hcl, hclh, hrem, Int32.not_le, Int32.not_lt, c1, c2, c7, c9]) | exact h0 (by simp [zTs, zsee, zTm, zseM, hcl, hclh, hrem, Int32.not_le, Int32.not_lt, c1, c2, c7, c9])
  · iterate 3 refine hX0 _ _ _ _ ?_
    refine x_windAt hS hk ?_
    iterate 6 refine hX0 _ _ _ _ ?_
    refine And.intro (by first | exact vp_in_nI (by omega) (by omega)) ?_
    refine hX0 _ _ _ _ ?_
    refine And.intro (fun c11 => ?_) (fun c11 => ?_)
    · iterate 5 refine hX0 _ _ _ _ ?_
      refine And.intro (by first | exact vp_in_nI (by omega) (by omega)) ?_
      refine hX0 _ _ _ _ ?_
      refine And.intro (fun c12 => ?_) (fun c12 => ?_)
      · iterate 2 refine hX0 _ _ _ _ ?_
        refine And.intro (by first | exact Or.inl rfl | exact Or.inr rfl | first | exact vp_in_nI (by omega) (by omega)) ?_
        try simp only [hcl, hclh, hrem, Int32.not_le, Int32.not_lt] at c1 c11 c12
        first | exact h1 (by simp [zTs, zsee, zTm, zseM, hcl, hclh, hrem, Int32.not_le, Int32.not_lt, c1, c11, c12]) | exact h0 (by simp [zTs, zsee, zTm, zseM, hcl, hclh, hrem, Int32.not_le, Int32.not_lt, c1, c11, c12])
      · iterate 3 refine hX0 _ _ _ _ ?_
        refine And.intro (by first | exact Or.inl rfl | exact Or.inr rfl | first | exact vp_in_nI (by omega) (by omega)) ?_
        try simp only [hcl, hclh, hrem, Int32.not_le, Int32.not_lt] at c1 c11 c12
        first | exact h1 (by simp [zTs, zsee, zTm, zseM, hcl, hclh, hrem, Int32.not_le, Int32.not_lt, c1, c11, c12]) | exact h0 (by simp [zTs, zsee, zTm, zseM, hcl, hclh, hrem, Int32.not_le, Int32.not_lt, c1, c11, c12])
    · iterate 5 refine hX0 _ _ _ _ ?_
      refine And.intro (by first | exact vp_in_nI (by omega) (by omega)) ?_
      refine hX0 _ _ _ _ ?_
      refine And.intro (fun c13 => ?_) (fun c13 => ?_)
      · iterate 3 refine hX0 _ _ _ _ ?_
        refine And.intro (by first | exact Or.inl rfl | exact Or.inr rfl | first | exact vp_in_nI (by omega) (by omega)) ?_
        try simp only [hcl, hclh, hrem, Int32.not_le, Int32.not_lt] at c1 c11 c13
        first | exact h1 (by simp [zTs, zsee, zTm, zseM, hcl, hclh, hrem, Int32.not_le, Int32.not_lt, c1, c11, c13]) | exact h0 (by simp [zTs, zsee, zTm, zseM, hcl, hclh, hrem, Int32.not_le, Int32.not_lt, c1, c11, c13])
      · iterate 3 refine hX0 _ _ _ _ ?_
        refine And.intro (by first | exact Or.inl rfl | exact Or.inr rfl | first | exact vp_in_nI (by omega) (by omega)) ?_
        try simp only [hcl, hclh, hrem, Int32.not_le, Int32.not_lt] at c1 c11 c13
        first | exact h1 (by simp [zTs, zsee, zTm, zseM, hcl, hclh, hrem, Int32.not_le, Int32.not_lt, c1, c11, c13]) | exact h0 (by simp [zTs, zsee, zTm, zseM, hcl, hclh, hrem, Int32.not_le, Int32.not_lt, c1, c11, c13])

set_option maxRecDepth 100000 in
theorem y_isTrue {d : Nat} {s : Nat → Int32} {a : Nat → Nat → Int32} {w : Bool} {t : Nat → Int32} {b : Nat → Nat → Int32} {u : Nat → Int64} {c : Nat → Nat → Int64} {j k : Nat} {Q : zQ} (hk : k < 2400) (hj : j < 60) (h1 : zTm (zseM (b 5 j) (b 0 k) (b 2 k) (nI (k % 24))) (b 7 j) (b 6 j) = true → Q (some (.int 1)) (HX s a w ++ HM t b u c)) (h0 : zTm (zseM (b 5 j) (b 0 k) (b 2 k) (nI (k % 24))) (b 7 j) (b 6 j) = false → Q (some (.int 0)) (HX s a w ++ HM t b u c)) : zG (d + 1) 109 [.ref 56, .int (nI j), .int (nI k)] (HX s a w ++ HM t b u c) Q := by
  refine g_109 (Nat.le_of_ble_eq_true rfl) ?_
  intro X0 hX0
  have hcl : (nI j).toNatClampNeg = j := nI_clamp (by omega)
  have hclh : (nI k).toNatClampNeg = k := nI_clamp (by omega)
  have hrem := rem24 k hk
  iterate 4 refine hX0 _ _ _ _ ?_
  refine And.intro (by first | exact vp_in_nI (by omega) (by omega)) ?_
  refine hX0 _ _ _ _ ?_
  refine And.intro (fun c1 => ?_) (fun c1 => ?_)
  · iterate 4 refine hX0 _ _ _ _ ?_
    refine And.intro (by first | exact vp_in_nI (by omega) (by omega)) ?_
    iterate 2 refine hX0 _ _ _ _ ?_
    refine And.intro (fun c2 => ?_) (fun c2 => ?_)
    · iterate 3 refine hX0 _ _ _ _ ?_
      refine And.intro (by decide) ?_
      iterate 5 refine hX0 _ _ _ _ ?_
      refine And.intro (by first | exact vp_in_nI (by omega) (by omega)) ?_
      refine hX0 _ _ _ _ ?_
      refine And.intro (fun c3 => ?_) (fun c3 => ?_)
      · iterate 5 refine hX0 _ _ _ _ ?_
        refine And.intro (by first | exact vp_in_nI (by omega) (by omega)) ?_
        refine hX0 _ _ _ _ ?_
        refine And.intro (fun c4 => ?_) (fun c4 => ?_)
        · iterate 2 refine hX0 _ _ _ _ ?_
          refine And.intro (by first | exact Or.inl rfl | exact Or.inr rfl | first | exact vp_in_nI (by omega) (by omega)) ?_
          try simp only [hcl, hclh, hrem, Int32.not_le, Int32.not_lt] at c1 c2 c3 c4
          first | exact h1 (by simp [zTs, zsee, zTm, zseM, hcl, hclh, hrem, Int32.not_le, Int32.not_lt, c1, c2, c3, c4]) | exact h0 (by simp [zTs, zsee, zTm, zseM, hcl, hclh, hrem, Int32.not_le, Int32.not_lt, c1, c2, c3, c4])
        · iterate 3 refine hX0 _ _ _ _ ?_
          refine And.intro (by first | exact Or.inl rfl | exact Or.inr rfl | first | exact vp_in_nI (by omega) (by omega)) ?_
          try simp only [hcl, hclh, hrem, Int32.not_le, Int32.not_lt] at c1 c2 c3 c4
          first | exact h1 (by simp [zTs, zsee, zTm, zseM, hcl, hclh, hrem, Int32.not_le, Int32.not_lt, c1, c2, c3, c4]) | exact h0 (by simp [zTs, zsee, zTm, zseM, hcl, hclh, hrem, Int32.not_le, Int32.not_lt, c1, c2, c3, c4])
      · iterate 5 refine hX0 _ _ _ _ ?_
        refine And.intro (by first | exact vp_in_nI (by omega) (by omega)) ?_
        refine hX0 _ _ _ _ ?_
        refine And.intro (fun c5 => ?_) (fun c5 => ?_)
        · iterate 3 refine hX0 _ _ _ _ ?_
          refine And.intro (by first | exact Or.inl rfl | exact Or.inr rfl | first | exact vp_in_nI (by omega) (by omega)) ?_
          try simp only [hcl, hclh, hrem, Int32.not_le, Int32.not_lt] at c1 c2 c3 c5
          first | exact h1 (by simp [zTs, zsee, zTm, zseM, hcl, hclh, hrem, Int32.not_le, Int32.not_lt, c1, c2, c3, c5]) | exact h0 (by simp [zTs, zsee, zTm, zseM, hcl, hclh, hrem, Int32.not_le, Int32.not_lt, c1, c2, c3, c5])
        · iterate 3 refine hX0 _ _ _ _ ?_
          refine And.intro (by first | exact Or.inl rfl | exact Or.inr rfl | first | exact vp_in_nI (by omega) (by omega)) ?_
          try simp only [hcl, hclh, hrem, Int32.not_le, Int32.not_lt] at c1 c2 c3 c5
          first | exact h1 (by simp [zTs, zsee, zTm, zseM, hcl, hclh, hrem, Int32.not_le, Int32.not_lt, c1, c2, c3, c5]) | exact h0 (by simp [zTs, zsee, zTm, zseM, hcl, hclh, hrem, Int32.not_le, Int32.not_lt, c1, c2, c3, c5])
    · iterate 4 refine hX0 _ _ _ _ ?_
      refine And.intro (by first | exact vp_in_nI (by omega) (by omega)) ?_
      iterate 6 refine hX0 _ _ _ _ ?_
      refine And.intro (by first | exact vp_in_nI (by omega) (by omega)) ?_
      refine hX0 _ _ _ _ ?_
      refine And.intro (fun c6 => ?_) (fun c6 => ?_)
      · iterate 5 refine hX0 _ _ _ _ ?_
        refine And.intro (by first | exact vp_in_nI (by omega) (by omega)) ?_
        refine hX0 _ _ _ _ ?_
        refine And.intro (fun c7 => ?_) (fun c7 => ?_)
        · iterate 2 refine hX0 _ _ _ _ ?_
          refine And.intro (by first | exact Or.inl rfl | exact Or.inr rfl | first | exact vp_in_nI (by omega) (by omega)) ?_
          try simp only [hcl, hclh, hrem, Int32.not_le, Int32.not_lt] at c1 c2 c6 c7
          first | exact h1 (by simp [zTs, zsee, zTm, zseM, hcl, hclh, hrem, Int32.not_le, Int32.not_lt, c1, c2, c6, c7]) | exact h0 (by simp [zTs, zsee, zTm, zseM, hcl, hclh, hrem, Int32.not_le, Int32.not_lt, c1, c2, c6, c7])
        · iterate 3 refine hX0 _ _ _ _ ?_
          refine And.intro (by first | exact Or.inl rfl | exact Or.inr rfl | first | exact vp_in_nI (by omega) (by omega)) ?_
          try simp only [hcl, hclh, hrem, Int32.not_le, Int32.not_lt] at c1 c2 c6 c7
          first | exact h1 (by simp [zTs, zsee, zTm, zseM, hcl, hclh, hrem, Int32.not_le, Int32.not_lt, c1, c2, c6, c7]) | exact h0 (by simp [zTs, zsee, zTm, zseM, hcl, hclh, hrem, Int32.not_le, Int32.not_lt, c1, c2, c6, c7])
      · iterate 5 refine hX0 _ _ _ _ ?_
        refine And.intro (by first | exact vp_in_nI (by omega) (by omega)) ?_
        refine hX0 _ _ _ _ ?_
        refine And.intro (fun c8 => ?_) (fun c8 => ?_)
        · iterate 3 refine hX0 _ _ _ _ ?_
          refine And.intro (by first | exact Or.inl rfl | exact Or.inr rfl | first | exact vp_in_nI (by omega) (by omega)) ?_
          try simp only [hcl, hclh, hrem, Int32.not_le, Int32.not_lt] at c1 c2 c6 c8
          first | exact h1 (by simp [zTs, zsee, zTm, zseM, hcl, hclh, hrem, Int32.not_le, Int32.not_lt, c1, c2, c6, c8]) | exact h0 (by simp [zTs, zsee, zTm, zseM, hcl, hclh, hrem, Int32.not_le, Int32.not_lt, c1, c2, c6, c8])
        · iterate 3 refine hX0 _ _ _ _ ?_
          refine And.intro (by first | exact Or.inl rfl | exact Or.inr rfl | first | exact vp_in_nI (by omega) (by omega)) ?_
          try simp only [hcl, hclh, hrem, Int32.not_le, Int32.not_lt] at c1 c2 c6 c8
          first | exact h1 (by simp [zTs, zsee, zTm, zseM, hcl, hclh, hrem, Int32.not_le, Int32.not_lt, c1, c2, c6, c8]) | exact h0 (by simp [zTs, zsee, zTm, zseM, hcl, hclh, hrem, Int32.not_le, Int32.not_lt, c1, c2, c6, c8])
  · iterate 4 refine hX0 _ _ _ _ ?_
    refine And.intro (by first | exact vp_in_nI (by omega) (by omega)) ?_
    iterate 6 refine hX0 _ _ _ _ ?_
    refine And.intro (by first | exact vp_in_nI (by omega) (by omega)) ?_
    refine hX0 _ _ _ _ ?_
    refine And.intro (fun c9 => ?_) (fun c9 => ?_)
    · iterate 5 refine hX0 _ _ _ _ ?_
      refine And.intro (by first | exact vp_in_nI (by omega) (by omega)) ?_
      refine hX0 _ _ _ _ ?_
      refine And.intro (fun c10 => ?_) (fun c10 => ?_)
      · iterate 2 refine hX0 _ _ _ _ ?_
        refine And.intro (by first | exact Or.inl rfl | exact Or.inr rfl | first | exact vp_in_nI (by omega) (by omega)) ?_
        try simp only [hcl, hclh, hrem, Int32.not_le, Int32.not_lt] at c1 c9 c10
        first | exact h1 (by simp [zTs, zsee, zTm, zseM, hcl, hclh, hrem, Int32.not_le, Int32.not_lt, c1, c9, c10]) | exact h0 (by simp [zTs, zsee, zTm, zseM, hcl, hclh, hrem, Int32.not_le, Int32.not_lt, c1, c9, c10])
      · iterate 3 refine hX0 _ _ _ _ ?_
        refine And.intro (by first | exact Or.inl rfl | exact Or.inr rfl | first | exact vp_in_nI (by omega) (by omega)) ?_
        try simp only [hcl, hclh, hrem, Int32.not_le, Int32.not_lt] at c1 c9 c10
        first | exact h1 (by simp [zTs, zsee, zTm, zseM, hcl, hclh, hrem, Int32.not_le, Int32.not_lt, c1, c9, c10]) | exact h0 (by simp [zTs, zsee, zTm, zseM, hcl, hclh, hrem, Int32.not_le, Int32.not_lt, c1, c9, c10])
    · iterate 5 refine hX0 _ _ _ _ ?_
      refine And.intro (by first | exact vp_in_nI (by omega) (by omega)) ?_
      refine hX0 _ _ _ _ ?_
      refine And.intro (fun c11 => ?_) (fun c11 => ?_)
      · iterate 3 refine hX0 _ _ _ _ ?_
        refine And.intro (by first | exact Or.inl rfl | exact Or.inr rfl | first | exact vp_in_nI (by omega) (by omega)) ?_
        try simp only [hcl, hclh, hrem, Int32.not_le, Int32.not_lt] at c1 c9 c11
        first | exact h1 (by simp [zTs, zsee, zTm, zseM, hcl, hclh, hrem, Int32.not_le, Int32.not_lt, c1, c9, c11]) | exact h0 (by simp [zTs, zsee, zTm, zseM, hcl, hclh, hrem, Int32.not_le, Int32.not_lt, c1, c9, c11])
      · iterate 3 refine hX0 _ _ _ _ ?_
        refine And.intro (by first | exact Or.inl rfl | exact Or.inr rfl | first | exact vp_in_nI (by omega) (by omega)) ?_
        try simp only [hcl, hclh, hrem, Int32.not_le, Int32.not_lt] at c1 c9 c11
        first | exact h1 (by simp [zTs, zsee, zTm, zseM, hcl, hclh, hrem, Int32.not_le, Int32.not_lt, c1, c9, c11]) | exact h0 (by simp [zTs, zsee, zTm, zseM, hcl, hclh, hrem, Int32.not_le, Int32.not_lt, c1, c9, c11])
