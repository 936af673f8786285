/-! LACK AND FUEL OF THE REFERENCE -/
theorem zsum_e (f : Nat → Int32) (st e : Nat) : zsum f st (e + 1) = zsum f st e + (if st.testBit e = true then f e else 0) := rfl
theorem zlk_v (nd o : Int32) : (if 0 ≤ nd - o then nd - o else 0) = zlk nd o := by
  unfold zlk
  by_cases h : 0 < nd - o
  · rw [if_pos h, if_pos (Int32.le_of_lt h)]
  · rw [if_neg h]
    split
    · next h2 =>
      rw [fa_lt] at h
      rw [fa_le] at h2
      rw [fa_eq]
      omega
    · rfl

set_option maxRecDepth 100000 in
theorem y_lackOf {d : Nat} {s : Nat → Int32} {a : Nat → Nat → Int32} {w : Bool} {t : Nat → Int32} {b : Nat → Nat → Int32} {u : Nat → Int64} {c : Nat → Nat → Int64} {ND : Nat → Int32} {E k st : Nat} {P : Nat → Int32} {Q : zQ} (hS : ISky P (b 0) (b 1) (b 2)) (hk : k < 2400) {I : Nat} {F : Nat → Nat} (hI : t 6 = nI I) (hI20 : I ≤ 20) (hF : ∀ i, i < I → F i ≤ F (i + 1)) (hF60 : ∀ i, i ≤ I → b 3 i = nI (F i) ∧ F i ≤ 60) (hND : ∀ k, k < 2400 → b 13 (k % 24) - b 13 (k % 24) * (zra (fun i => zhm (fun j => zTm (zseM (b 5 j) (b 0 k) (b 2 k) (nI (k % 24))) (b 7 j) (b 6 j)) (fun j => decide (¬ b 8 j = 0)) (F (i + 1) - F i) (F i) false true) (b 4) I 0 0) / 100 - b 12 (b 0 k).toNatClampNeg = ND k) (hE : t 7 = nI E) (hE4 : E ≤ 4) (hst : st < 16) (h0 : Q (some (.int (zlk (ND k) (zsum (b 9) st E)))) (HX s a w ++ HM t b u c)) : zG (d + 4) 117 [.ref 56, .int (nI k), .int (nI st)] (HX s a w ++ HM t b u c) Q := by
  refine g_117 (Nat.le_of_ble_eq_true rfl) ?_
  intro X0 hX0
  have hEI : (t 7).toInt = (E : Int) := by rw [hE, nI_toInt (by omega)]
  have hck : (nI k).toNatClampNeg = k := nI_clamp (by omega)
  rw [← zlk_v] at h0
  have key : ∀ (cc e : Nat), E - e = cc → e ≤ E → X0 21 [some (.ref 56), some (.int (nI k)), some (.int (nI st)), some (.int (ND k - zsum (b 9) st e)), some (.int (nI e))] [] (HX s a w ++ HM t b u c) := by
    intro cc
    induction cc with
    | zero =>
      intro e z1 z2
      have hJ : (nI e).toInt = (e : Int) := nI_toInt (by omega)
      have ee : e = E := by omega
      iterate 4 refine hX0 _ _ _ _ ?_
      refine And.intro (fun c1 => ?_) (fun c1 => ?_)
      · rw [ee]
        iterate 2 refine hX0 _ _ _ _ ?_
        refine And.intro (fun c2 => ?_) (fun c2 => ?_)
        · rw [if_pos c2] at h0
          iterate 2 refine hX0 _ _ _ _ ?_
          exact h0
        · rw [if_neg c2] at h0
          iterate 3 refine hX0 _ _ _ _ ?_
          exact h0
      · exfalso
        rw [fa_le] at c1
        omega
    | succ cc ih =>
      intro e z1 z2
      have hJ : (nI e).toInt = (e : Int) := nI_toInt (by omega)
      have hcl : (nI e).toNatClampNeg = e := nI_clamp (by omega)
      have ih' := ih (e + 1) (by omega) (by omega)
      rw [zsum_e] at ih'
      iterate 4 refine hX0 _ _ _ _ ?_
      refine And.intro (fun c1 => ?_) (fun c1 => ?_)
      · exfalso
        rw [fa_le] at c1
        omega
      · iterate 7 refine hX0 _ _ _ _ ?_
        rw [bit01 (by omega) (by omega)]
        refine hX0 _ _ _ _ ?_
        refine And.intro (fun c2 => ?_) (fun c2 => ?_)
        · have hb : ¬ st.testBit e = true := fun z => c2 (if_pos z)
          rw [if_neg hb, Int32.add_zero] at ih'
          iterate 4 refine hX0 _ _ _ _ ?_
          rw [Int32.sub_zero]
          refine hX0 _ _ _ _ ?_
          rw [nI_1]
          exact ih'
        · have hb : st.testBit e = true := by
            cases hz : st.testBit e with
            | true => rfl
            | false =>
              rw [hz] at c2
              exact absurd c2 (by decide)
          rw [if_pos hb] at ih'
          iterate 4 refine hX0 _ _ _ _ ?_
          refine And.intro (by exact vp_in_nI (by omega) (by omega)) ?_
          rw [hcl]
          iterate 4 refine hX0 _ _ _ _ ?_
          rw [Int32.sub_sub]
          refine hX0 _ _ _ _ ?_
          rw [nI_1]
          exact ih'
  iterate 3 refine hX0 _ _ _ _ ?_
  refine y_demandOf hk hI hI20 hF hF60 ?_
  iterate 6 refine hX0 _ _ _ _ ?_
  refine And.intro (by exact vp_in_nI (by omega) (by omega)) ?_
  rw [hck]
  refine hX0 _ _ _ _ ?_
  refine And.intro (by rw [vp_in_iff]; have := (hS k hk).1; omega) ?_
  iterate 4 refine hX0 _ _ _ _ ?_
  have kk := key E 0 rfl (by omega)
  rw [show zsum (b 9) st 0 = 0 from rfl, Int32.sub_zero, nI_0] at kk
  rw [← hND k hk] at kk
  exact kk

set_option maxRecDepth 100000 in
theorem y_fuelOf {d : Nat} {s : Nat → Int32} {a : Nat → Nat → Int32} {w : Bool} {t : Nat → Int32} {b : Nat → Nat → Int32} {u : Nat → Int64} {c : Nat → Nat → Int64} {E ws st : Nat} {Q : zQ} (hE : t 7 = nI E) (hE4 : E ≤ 4) (hws : ws < 16) (hst : st < 16) (h0 : Q (some (.int (zsum (b 11) st E + zsum (b 10) (zdf st ws) E))) (HX s a w ++ HM t b u c)) : zG (d + 1) 118 [.ref 56, .int (nI ws), .int (nI st)] (HX s a w ++ HM t b u c) Q := by
  refine g_118 (Nat.le_of_ble_eq_true rfl) ?_
  intro X0 hX0
  have hEI : (t 7).toInt = (E : Int) := by rw [hE, nI_toInt (by omega)]
  have key : ∀ (cc e : Nat), E - e = cc → e ≤ E → X0 5 [some (.ref 56), some (.int (nI ws)), some (.int (nI st)), some (.int (zsum (b 11) st e + zsum (b 10) (zdf st ws) e)), some (.int (nI e))] [] (HX s a w ++ HM t b u c) := by
    intro cc
    induction cc with
    | zero =>
      intro e z1 z2
      have hJ : (nI e).toInt = (e : Int) := nI_toInt (by omega)
      have ee : e = E := by omega
      iterate 4 refine hX0 _ _ _ _ ?_
      refine And.intro (fun c1 => ?_) (fun c1 => ?_)
      · rw [ee]
        iterate 2 refine hX0 _ _ _ _ ?_
        exact h0
      · exfalso
        rw [fa_le] at c1
        omega
    | succ cc ih =>
      intro e z1 z2
      have hJ : (nI e).toInt = (e : Int) := nI_toInt (by omega)
      have hcl : (nI e).toNatClampNeg = e := nI_clamp (by omega)
      have ih' := ih (e + 1) (by omega) (by omega)
      rw [zsum_e, zsum_e, zdf_b] at ih'
      iterate 4 refine hX0 _ _ _ _ ?_
      refine And.intro (fun c1 => ?_) (fun c1 => ?_)
      · exfalso
        rw [fa_le] at c1
        omega
      · iterate 6 refine hX0 _ _ _ _ ?_
        rw [bit01 (by omega) (by omega)]
        refine hX0 _ _ _ _ ?_
        refine And.intro (fun c2 => ?_) (fun c2 => ?_)
        · have hb : st.testBit e = false := by
            cases hz : st.testBit e with
            | false => rfl
            | true =>
              rw [hz] at c2
              exact absurd rfl c2
          rw [hb, Bool.false_and, if_neg Bool.false_ne_true, if_neg Bool.false_ne_true, Int32.add_zero, Int32.add_zero] at ih'
          iterate 2 refine hX0 _ _ _ _ ?_
          rw [nI_1]
          exact ih'
        · have hb : st.testBit e = true := by
            cases hz : st.testBit e with
            | true => rfl
            | false =>
              rw [hz] at c2
              exact absurd c2 (by decide)
          rw [hb, Bool.true_and, if_pos rfl] at ih'
          iterate 5 refine hX0 _ _ _ _ ?_
          refine And.intro (by exact vp_in_nI (by omega) (by omega)) ?_
          rw [hcl]
          iterate 6 refine hX0 _ _ _ _ ?_
          rw [bit01 (by omega) (by omega)]
          refine And.intro (fun c3 => ?_) (fun c3 => ?_)
          · have hb2 : ws.testBit e = true := by
              cases hz : ws.testBit e with
              | true => rfl
              | false =>
                rw [hz] at c3
                exact absurd rfl c3
            rw [hb2] at ih'
            rw [show (!true) = false from rfl, if_neg Bool.false_ne_true, Int32.add_zero] at ih'
            iterate 5 refine hX0 _ _ _ _ ?_
            rw [Int32.add_zero, show zsum (b 11) st e + zsum (b 10) (zdf st ws) e + b 11 e = zsum (b 11) st e + b 11 e + zsum (b 10) (zdf st ws) e by ac_rfl]
            refine hX0 _ _ _ _ ?_
            rw [nI_1]
            exact ih'
          · have hb2 : ws.testBit e = false := by
              cases hz : ws.testBit e with
              | false => rfl
              | true =>
                rw [hz] at c3
                exact absurd c3 (by decide)
            rw [hb2] at ih'
            rw [show (!false) = true from rfl, if_pos rfl] at ih'
            iterate 4 refine hX0 _ _ _ _ ?_
            refine And.intro (by exact vp_in_nI (by omega) (by omega)) ?_
            rw [hcl]
            iterate 5 refine hX0 _ _ _ _ ?_
            rw [show zsum (b 11) st e + zsum (b 10) (zdf st ws) e + (b 11 e + b 10 e) = zsum (b 11) st e + b 11 e + (zsum (b 10) (zdf st ws) e + b 10 e) by ac_rfl]
            refine hX0 _ _ _ _ ?_
            rw [nI_1]
            exact ih'
  iterate 4 refine hX0 _ _ _ _ ?_
  have kk := key E 0 rfl (by omega)
  rw [show zsum (b 11) st 0 + zsum (b 10) (zdf st ws) 0 = 0 from rfl, nI_0] at kk
  exact kk
