/-! RATION OF THE REFERENCE -/

set_option maxRecDepth 100000 in
theorem y_ration {d : Nat} {s : Nat → Int32} {a : Nat → Nat → Int32} {w : Bool} {t : Nat → Int32} {b : Nat → Nat → Int32} {u : Nat → Int64} {c : Nat → Nat → Int64} {I k : Nat} {F : Nat → Nat} {Q : zQ} (hk : k < 2400) (hI : t 6 = nI I) (hI20 : I ≤ 20) (hF : ∀ i, i < I → F i ≤ F (i + 1)) (hF60 : ∀ i, i ≤ I → b 3 i = nI (F i) ∧ F i ≤ 60) (h0 : Q (some (.int (zra (fun i => zhm (fun j => zTm (zseM (b 5 j) (b 0 k) (b 2 k) (nI (k % 24))) (b 7 j) (b 6 j)) (fun j => decide (¬ b 8 j = 0)) (F (i + 1) - F i) (F i) false true) (b 4) I 0 0))) (HX s a w ++ HM t b u c)) : zG (d + 2) 110 [.ref 56, .int (nI k)] (HX s a w ++ HM t b u c) Q := by
  refine g_110 (Nat.le_of_ble_eq_true rfl) ?_
  intro X0 hX0
  generalize hR : zra (fun i => zhm (fun j => zTm (zseM (b 5 j) (b 0 k) (b 2 k) (nI (k % 24))) (b 7 j) (b 6 j)) (fun j => decide (¬ b 8 j = 0)) (F (i + 1) - F i) (F i) false true) (b 4) I 0 0 = rr at h0
  have hII : (t 6).toInt = (I : Int) := by rw [hI, nI_toInt (by omega)]
  have key : ∀ (n i : Nat) (g : Int32) (o4 o5 o6 : Option Value), I - i = n → i ≤ I → zra (fun i => zhm (fun j => zTm (zseM (b 5 j) (b 0 k) (b 2 k) (nI (k % 24))) (b 7 j) (b 6 j)) (fun j => decide (¬ b 8 j = 0)) (F (i + 1) - F i) (F i) false true) (b 4) n i g = rr → X0 4 [some (.ref 56), some (.int (nI k)), some (.int g), some (.int (nI i)), o4, o5, o6] [] (HX s a w ++ HM t b u c) := by
    intro n
    induction n with
    | zero =>
      intro i g o4 o5 o6 q1 q2 q3
      have hJ : (nI i).toInt = (i : Int) := nI_toInt (by omega)
      have q4 : g = rr := q3
      iterate 4 refine hX0 _ _ _ _ ?_
      refine And.intro (fun c1 => ?_) (fun c1 => ?_)
      · iterate 2 refine hX0 _ _ _ _ ?_
        rw [q4]
        exact h0
      · exfalso
        rw [fa_le] at c1
        omega
    | succ n ih =>
      intro i g o4 o5 o6 q1 q2 q3
      have hJ : (nI i).toInt = (i : Int) := nI_toInt (by omega)
      have hcl : (nI i).toNatClampNeg = i := nI_clamp (by omega)
      have hcl1 : (nI i + 1).toNatClampNeg = i + 1 := by rw [nI_1]; exact nI_clamp (by omega)
      have eF := (hF60 i (by omega)).1
      have eF1 := (hF60 (i + 1) (by omega)).1
      have h60 := (hF60 (i + 1) (by omega)).2
      have hmo := hF i (by omega)
      have hFI : (nI (F (i + 1))).toInt = (F (i + 1) : Int) := nI_toInt (by omega)
      unfold zra at q3
      generalize hcc : zhm (fun j => zTm (zseM (b 5 j) (b 0 k) (b 2 k) (nI (k % 24))) (b 7 j) (b 6 j)) (fun j => decide (¬ b 8 j = 0)) (F (i + 1) - F i) (F i) false true = cc at q3
      have K : ∀ (g' : Int32) (p4 p5 p6 : Option Value), g' = (if g < b 4 i ∧ cc = true then b 4 i else g) → X0 4 [some (.ref 56), some (.int (nI k)), some (.int g'), some (.int (nI i + 1)), p4, p5, p6] [] (HX s a w ++ HM t b u c) := by
        intro g' p4 p5 p6 eg
        rw [nI_1]
        exact ih (i + 1) g' p4 p5 p6 (by omega) (by omega) (by rw [eg]; exact q3)
      have inner : ∀ (m j : Nat) (an al : Bool), F (i + 1) - j = m → j ≤ F (i + 1) → zhm (fun j => zTm (zseM (b 5 j) (b 0 k) (b 2 k) (nI (k % 24))) (b 7 j) (b 6 j)) (fun j => decide (¬ b 8 j = 0)) m j an al = cc → X0 26 [some (.ref 56), some (.int (nI k)), some (.int g), some (.int (nI i)), some (.int (zb an)), some (.int (zb al)), some (.int (nI j))] [] (HX s a w ++ HM t b u c) := by
        intro m
        induction m with
        | zero =>
          intro j an al d1 d2 d3
          have hK : (nI j).toInt = (j : Int) := nI_toInt (by omega)
          have d4 : (an || al) = cc := d3
          rw [← d4] at K
          cases an with
          | false =>
            cases al with
            | false =>
              iterate 7 refine hX0 _ _ _ _ ?_
              refine And.intro (by first | exact vp_in_nI (by omega) (by omega) | (rw [nI_1]; exact vp_in_nI (by omega) (by omega)) | exact Or.inl rfl | exact Or.inr rfl) ?_
              rw [hcl1, eF1]
              refine hX0 _ _ _ _ ?_
              refine And.intro (fun c1 => ?_) (fun c1 => ?_)
              · iterate 2 refine hX0 _ _ _ _ ?_
                refine And.intro (fun c => absurd c (by decide)) (fun _ => ?_)
                iterate 2 refine hX0 _ _ _ _ ?_
                refine And.intro (fun _ => ?_) (fun c => absurd c (by decide))
                iterate 4 refine hX0 _ _ _ _ ?_
                refine And.intro (fun _ => ?_) (fun c => absurd c (by decide))
                iterate 4 refine hX0 _ _ _ _ ?_
                exact K _ _ _ _ (if_neg (fun h => Bool.noConfusion h.2)).symm
              · exfalso
                rw [fa_le] at c1
                omega
            | true =>
              iterate 7 refine hX0 _ _ _ _ ?_
              refine And.intro (by first | exact vp_in_nI (by omega) (by omega) | (rw [nI_1]; exact vp_in_nI (by omega) (by omega)) | exact Or.inl rfl | exact Or.inr rfl) ?_
              rw [hcl1, eF1]
              refine hX0 _ _ _ _ ?_
              refine And.intro (fun c1 => ?_) (fun c1 => ?_)
              · iterate 2 refine hX0 _ _ _ _ ?_
                refine And.intro (fun c => absurd c (by decide)) (fun _ => ?_)
                iterate 2 refine hX0 _ _ _ _ ?_
                refine And.intro (fun c => absurd c (by decide)) (fun _ => ?_)
                iterate 5 refine hX0 _ _ _ _ ?_
                refine And.intro (fun c => absurd c (by decide)) (fun _ => ?_)
                iterate 4 refine hX0 _ _ _ _ ?_
                refine And.intro (by first | exact vp_in_nI (by omega) (by omega) | (rw [nI_1]; exact vp_in_nI (by omega) (by omega)) | exact Or.inl rfl | exact Or.inr rfl) ?_
                rw [hcl]
                iterate 2 refine hX0 _ _ _ _ ?_
                refine And.intro (fun c2 => ?_) (fun c2 => ?_)
                · iterate 4 refine hX0 _ _ _ _ ?_
                  exact K _ _ _ _ (if_neg (fun h => absurd h.1 (Int32.not_lt.mpr c2))).symm
                · iterate 4 refine hX0 _ _ _ _ ?_
                  refine And.intro (by first | exact vp_in_nI (by omega) (by omega) | (rw [nI_1]; exact vp_in_nI (by omega) (by omega)) | exact Or.inl rfl | exact Or.inr rfl) ?_
                  rw [hcl]
                  iterate 4 refine hX0 _ _ _ _ ?_
                  exact K _ _ _ _ (if_pos ⟨Int32.not_le.mp c2, rfl⟩).symm
              · exfalso
                rw [fa_le] at c1
                omega
          | true =>
            cases al with
            | false =>
              iterate 7 refine hX0 _ _ _ _ ?_
              refine And.intro (by first | exact vp_in_nI (by omega) (by omega) | (rw [nI_1]; exact vp_in_nI (by omega) (by omega)) | exact Or.inl rfl | exact Or.inr rfl) ?_
              rw [hcl1, eF1]
              refine hX0 _ _ _ _ ?_
              refine And.intro (fun c1 => ?_) (fun c1 => ?_)
              · iterate 2 refine hX0 _ _ _ _ ?_
                refine And.intro (fun _ => ?_) (fun c => absurd c (by decide))
                iterate 5 refine hX0 _ _ _ _ ?_
                refine And.intro (fun c => absurd c (by decide)) (fun _ => ?_)
                iterate 4 refine hX0 _ _ _ _ ?_
                refine And.intro (by first | exact vp_in_nI (by omega) (by omega) | (rw [nI_1]; exact vp_in_nI (by omega) (by omega)) | exact Or.inl rfl | exact Or.inr rfl) ?_
                rw [hcl]
                iterate 2 refine hX0 _ _ _ _ ?_
                refine And.intro (fun c2 => ?_) (fun c2 => ?_)
                · iterate 4 refine hX0 _ _ _ _ ?_
                  exact K _ _ _ _ (if_neg (fun h => absurd h.1 (Int32.not_lt.mpr c2))).symm
                · iterate 4 refine hX0 _ _ _ _ ?_
                  refine And.intro (by first | exact vp_in_nI (by omega) (by omega) | (rw [nI_1]; exact vp_in_nI (by omega) (by omega)) | exact Or.inl rfl | exact Or.inr rfl) ?_
                  rw [hcl]
                  iterate 4 refine hX0 _ _ _ _ ?_
                  exact K _ _ _ _ (if_pos ⟨Int32.not_le.mp c2, rfl⟩).symm
              · exfalso
                rw [fa_le] at c1
                omega
            | true =>
              iterate 7 refine hX0 _ _ _ _ ?_
              refine And.intro (by first | exact vp_in_nI (by omega) (by omega) | (rw [nI_1]; exact vp_in_nI (by omega) (by omega)) | exact Or.inl rfl | exact Or.inr rfl) ?_
              rw [hcl1, eF1]
              refine hX0 _ _ _ _ ?_
              refine And.intro (fun c1 => ?_) (fun c1 => ?_)
              · iterate 2 refine hX0 _ _ _ _ ?_
                refine And.intro (fun _ => ?_) (fun c => absurd c (by decide))
                iterate 5 refine hX0 _ _ _ _ ?_
                refine And.intro (fun c => absurd c (by decide)) (fun _ => ?_)
                iterate 4 refine hX0 _ _ _ _ ?_
                refine And.intro (by first | exact vp_in_nI (by omega) (by omega) | (rw [nI_1]; exact vp_in_nI (by omega) (by omega)) | exact Or.inl rfl | exact Or.inr rfl) ?_
                rw [hcl]
                iterate 2 refine hX0 _ _ _ _ ?_
                refine And.intro (fun c2 => ?_) (fun c2 => ?_)
                · iterate 4 refine hX0 _ _ _ _ ?_
                  exact K _ _ _ _ (if_neg (fun h => absurd h.1 (Int32.not_lt.mpr c2))).symm
                · iterate 4 refine hX0 _ _ _ _ ?_
                  refine And.intro (by first | exact vp_in_nI (by omega) (by omega) | (rw [nI_1]; exact vp_in_nI (by omega) (by omega)) | exact Or.inl rfl | exact Or.inr rfl) ?_
                  rw [hcl]
                  iterate 4 refine hX0 _ _ _ _ ?_
                  exact K _ _ _ _ (if_pos ⟨Int32.not_le.mp c2, rfl⟩).symm
              · exfalso
                rw [fa_le] at c1
                omega
        | succ m ih2 =>
          intro j an al d1 d2 d3
          have hK : (nI j).toInt = (j : Int) := nI_toInt (by omega)
          have hclj : (nI j).toNatClampNeg = j := nI_clamp (by omega)
          unfold zhm at d3
          cases an with
          | false =>
            cases al with
            | false =>
              iterate 7 refine hX0 _ _ _ _ ?_
              refine And.intro (by first | exact vp_in_nI (by omega) (by omega) | (rw [nI_1]; exact vp_in_nI (by omega) (by omega)) | exact Or.inl rfl | exact Or.inr rfl) ?_
              rw [hcl1, eF1]
              refine hX0 _ _ _ _ ?_
              refine And.intro (fun c1 => ?_) (fun c1 => ?_)
              · exfalso
                rw [fa_le] at c1
                omega
              · iterate 4 refine hX0 _ _ _ _ ?_
                refine And.intro (by first | exact vp_in_nI (by omega) (by omega) | (rw [nI_1]; exact vp_in_nI (by omega) (by omega)) | exact Or.inl rfl | exact Or.inr rfl) ?_
                rw [hclj]
                refine hX0 _ _ _ _ ?_
                refine And.intro (fun c2 => ?_) (fun c2 => ?_)
                · iterate 2 refine hX0 _ _ _ _ ?_
                  refine And.intro (fun _ => ?_) (fun c => absurd c (by decide))
                  iterate 4 refine hX0 _ _ _ _ ?_
                  rw [nI_1]
                  refine ih2 (j + 1) false false (by omega) (by omega) ?_
                  rw [← d3]
                  simp [c2]
                · iterate 2 refine hX0 _ _ _ _ ?_
                  refine And.intro (fun c => absurd c (by decide)) (fun _ => ?_)
                  iterate 2 refine hX0 _ _ _ _ ?_
                  refine And.intro (fun _ => ?_) (fun c => absurd c (by decide))
                  iterate 6 refine hX0 _ _ _ _ ?_
                  refine And.intro (fun c => absurd c (by decide)) (fun _ => ?_)
                  iterate 4 refine hX0 _ _ _ _ ?_
                  refine y_isTrue hk (by omega) (fun c3 => ?_) (fun c4 => ?_)
                  · refine hX0 _ _ _ _ ?_
                    refine And.intro (fun c => absurd c (by decide)) (fun _ => ?_)
                    iterate 5 refine hX0 _ _ _ _ ?_
                    rw [nI_1]
                    refine ih2 (j + 1) false true (by omega) (by omega) ?_
                    rw [← d3]
                    simp [c2, c3]
                  · refine hX0 _ _ _ _ ?_
                    refine And.intro (fun _ => ?_) (fun c => absurd c (by decide))
                    iterate 4 refine hX0 _ _ _ _ ?_
                    rw [nI_1]
                    refine ih2 (j + 1) false false (by omega) (by omega) ?_
                    rw [← d3]
                    simp [c2, c4]
            | true =>
              iterate 7 refine hX0 _ _ _ _ ?_
              refine And.intro (by first | exact vp_in_nI (by omega) (by omega) | (rw [nI_1]; exact vp_in_nI (by omega) (by omega)) | exact Or.inl rfl | exact Or.inr rfl) ?_
              rw [hcl1, eF1]
              refine hX0 _ _ _ _ ?_
              refine And.intro (fun c1 => ?_) (fun c1 => ?_)
              · exfalso
                rw [fa_le] at c1
                omega
              · iterate 4 refine hX0 _ _ _ _ ?_
                refine And.intro (by first | exact vp_in_nI (by omega) (by omega) | (rw [nI_1]; exact vp_in_nI (by omega) (by omega)) | exact Or.inl rfl | exact Or.inr rfl) ?_
                rw [hclj]
                refine hX0 _ _ _ _ ?_
                refine And.intro (fun c2 => ?_) (fun c2 => ?_)
                · iterate 2 refine hX0 _ _ _ _ ?_
                  refine And.intro (fun c => absurd c (by decide)) (fun _ => ?_)
                  iterate 4 refine hX0 _ _ _ _ ?_
                  refine y_isTrue hk (by omega) (fun c3 => ?_) (fun c4 => ?_)
                  · refine hX0 _ _ _ _ ?_
                    refine And.intro (fun c => absurd c (by decide)) (fun _ => ?_)
                    iterate 5 refine hX0 _ _ _ _ ?_
                    rw [nI_1]
                    refine ih2 (j + 1) false true (by omega) (by omega) ?_
                    rw [← d3]
                    simp [c2, c3]
                  · refine hX0 _ _ _ _ ?_
                    refine And.intro (fun _ => ?_) (fun c => absurd c (by decide))
                    iterate 4 refine hX0 _ _ _ _ ?_
                    rw [nI_1]
                    refine ih2 (j + 1) false false (by omega) (by omega) ?_
                    rw [← d3]
                    simp [c2, c4]
                · iterate 2 refine hX0 _ _ _ _ ?_
                  refine And.intro (fun c => absurd c (by decide)) (fun _ => ?_)
                  iterate 2 refine hX0 _ _ _ _ ?_
                  refine And.intro (fun c => absurd c (by decide)) (fun _ => ?_)
                  iterate 7 refine hX0 _ _ _ _ ?_
                  refine And.intro (fun c => absurd c (by decide)) (fun _ => ?_)
                  iterate 4 refine hX0 _ _ _ _ ?_
                  refine y_isTrue hk (by omega) (fun c5 => ?_) (fun c6 => ?_)
                  · refine hX0 _ _ _ _ ?_
                    refine And.intro (fun c => absurd c (by decide)) (fun _ => ?_)
                    iterate 5 refine hX0 _ _ _ _ ?_
                    rw [nI_1]
                    refine ih2 (j + 1) true true (by omega) (by omega) ?_
                    rw [← d3]
                    simp [c2, c5]
                  · refine hX0 _ _ _ _ ?_
                    refine And.intro (fun _ => ?_) (fun c => absurd c (by decide))
                    iterate 4 refine hX0 _ _ _ _ ?_
                    rw [nI_1]
                    refine ih2 (j + 1) true false (by omega) (by omega) ?_
                    rw [← d3]
                    simp [c2, c6]
          | true =>
            cases al with
            | false =>
              iterate 7 refine hX0 _ _ _ _ ?_
              refine And.intro (by first | exact vp_in_nI (by omega) (by omega) | (rw [nI_1]; exact vp_in_nI (by omega) (by omega)) | exact Or.inl rfl | exact Or.inr rfl) ?_
              rw [hcl1, eF1]
              refine hX0 _ _ _ _ ?_
              refine And.intro (fun c1 => ?_) (fun c1 => ?_)
              · exfalso
                rw [fa_le] at c1
                omega
              · iterate 4 refine hX0 _ _ _ _ ?_
                refine And.intro (by first | exact vp_in_nI (by omega) (by omega) | (rw [nI_1]; exact vp_in_nI (by omega) (by omega)) | exact Or.inl rfl | exact Or.inr rfl) ?_
                rw [hclj]
                refine hX0 _ _ _ _ ?_
                refine And.intro (fun c2 => ?_) (fun c2 => ?_)
                · iterate 2 refine hX0 _ _ _ _ ?_
                  refine And.intro (fun _ => ?_) (fun c => absurd c (by decide))
                  iterate 4 refine hX0 _ _ _ _ ?_
                  rw [nI_1]
                  refine ih2 (j + 1) true false (by omega) (by omega) ?_
                  rw [← d3]
                  simp [c2]
                · iterate 2 refine hX0 _ _ _ _ ?_
                  refine And.intro (fun _ => ?_) (fun c => absurd c (by decide))
                  iterate 7 refine hX0 _ _ _ _ ?_
                  refine And.intro (fun c => absurd c (by decide)) (fun _ => ?_)
                  iterate 4 refine hX0 _ _ _ _ ?_
                  refine y_isTrue hk (by omega) (fun c3 => ?_) (fun c4 => ?_)
                  · refine hX0 _ _ _ _ ?_
                    refine And.intro (fun c => absurd c (by decide)) (fun _ => ?_)
                    iterate 5 refine hX0 _ _ _ _ ?_
                    rw [nI_1]
                    refine ih2 (j + 1) true true (by omega) (by omega) ?_
                    rw [← d3]
                    simp [c2, c3]
                  · refine hX0 _ _ _ _ ?_
                    refine And.intro (fun _ => ?_) (fun c => absurd c (by decide))
                    iterate 4 refine hX0 _ _ _ _ ?_
                    rw [nI_1]
                    refine ih2 (j + 1) true false (by omega) (by omega) ?_
                    rw [← d3]
                    simp [c2, c4]
            | true =>
              iterate 7 refine hX0 _ _ _ _ ?_
              refine And.intro (by first | exact vp_in_nI (by omega) (by omega) | (rw [nI_1]; exact vp_in_nI (by omega) (by omega)) | exact Or.inl rfl | exact Or.inr rfl) ?_
              rw [hcl1, eF1]
              refine hX0 _ _ _ _ ?_
              refine And.intro (fun c1 => ?_) (fun c1 => ?_)
              · exfalso
                rw [fa_le] at c1
                omega
              · iterate 4 refine hX0 _ _ _ _ ?_
                refine And.intro (by first | exact vp_in_nI (by omega) (by omega) | (rw [nI_1]; exact vp_in_nI (by omega) (by omega)) | exact Or.inl rfl | exact Or.inr rfl) ?_
                rw [hclj]
                refine hX0 _ _ _ _ ?_
                refine And.intro (fun c2 => ?_) (fun c2 => ?_)
                · iterate 2 refine hX0 _ _ _ _ ?_
                  refine And.intro (fun c => absurd c (by decide)) (fun _ => ?_)
                  iterate 4 refine hX0 _ _ _ _ ?_
                  refine y_isTrue hk (by omega) (fun c3 => ?_) (fun c4 => ?_)
                  · refine hX0 _ _ _ _ ?_
                    refine And.intro (fun c => absurd c (by decide)) (fun _ => ?_)
                    iterate 5 refine hX0 _ _ _ _ ?_
                    rw [nI_1]
                    refine ih2 (j + 1) true true (by omega) (by omega) ?_
                    rw [← d3]
                    simp [c2, c3]
                  · refine hX0 _ _ _ _ ?_
                    refine And.intro (fun _ => ?_) (fun c => absurd c (by decide))
                    iterate 4 refine hX0 _ _ _ _ ?_
                    rw [nI_1]
                    refine ih2 (j + 1) true false (by omega) (by omega) ?_
                    rw [← d3]
                    simp [c2, c4]
                · iterate 2 refine hX0 _ _ _ _ ?_
                  refine And.intro (fun _ => ?_) (fun c => absurd c (by decide))
                  iterate 7 refine hX0 _ _ _ _ ?_
                  refine And.intro (fun c => absurd c (by decide)) (fun _ => ?_)
                  iterate 4 refine hX0 _ _ _ _ ?_
                  refine y_isTrue hk (by omega) (fun c5 => ?_) (fun c6 => ?_)
                  · refine hX0 _ _ _ _ ?_
                    refine And.intro (fun c => absurd c (by decide)) (fun _ => ?_)
                    iterate 5 refine hX0 _ _ _ _ ?_
                    rw [nI_1]
                    refine ih2 (j + 1) true true (by omega) (by omega) ?_
                    rw [← d3]
                    simp [c2, c5]
                  · refine hX0 _ _ _ _ ?_
                    refine And.intro (fun _ => ?_) (fun c => absurd c (by decide))
                    iterate 4 refine hX0 _ _ _ _ ?_
                    rw [nI_1]
                    refine ih2 (j + 1) true false (by omega) (by omega) ?_
                    rw [← d3]
                    simp [c2, c6]
      iterate 4 refine hX0 _ _ _ _ ?_
      refine And.intro (fun c1 => ?_) (fun c1 => ?_)
      · exfalso
        rw [fa_le] at c1
        omega
      · iterate 8 refine hX0 _ _ _ _ ?_
        refine And.intro (by first | exact vp_in_nI (by omega) (by omega) | (rw [nI_1]; exact vp_in_nI (by omega) (by omega)) | exact Or.inl rfl | exact Or.inr rfl) ?_
        rw [hcl, eF]
        refine hX0 _ _ _ _ ?_
        exact inner (F (i + 1) - F i) (F i) false true rfl hmo hcc
  iterate 4 refine hX0 _ _ _ _ ?_
  have kk := key I 0 0 none none none rfl (by omega) hR
  rw [nI_0] at kk
  exact kk
