/-! PEOPLE AS BITS: the station's own steps -/
theorem bc1 {m : Nat} (hm : m < 2 ^ 31) : nI m - (((nI m).toUInt32 >>> ((1 : Int32).toUInt32 &&& Int32.toUInt32 31)).toInt32 &&& 1431655765) = nI (zb1 m) := by
  rw [pk_ushrN (by omega) 1 1 (by decide +kernel)]
  show nI m - (nI (m / 2 ^ 1) &&& nI 1431655765) = _
  rw [nx_and, pk_sub (Nat.le_trans Nat.and_le_left (Nat.div_le_self _ _))]
  rfl
theorem bc2 {m : Nat} (hm : m < 2 ^ 31) : (nI m &&& 858993459) + (((nI m).toUInt32 >>> ((2 : Int32).toUInt32 &&& Int32.toUInt32 31)).toInt32 &&& 858993459) = nI (zb2 m) := by
  rw [pk_ushrN (by omega) 2 2 (by decide +kernel)]
  show (nI m &&& nI 858993459) + (nI (m / 2 ^ 2) &&& nI 858993459) = _
  rw [nx_and, nx_and, nI_add]
  rfl
theorem bc3 {m : Nat} (hm : m < 2 ^ 31) : (nI m + ((nI m).toUInt32 >>> ((4 : Int32).toUInt32 &&& Int32.toUInt32 31)).toInt32) &&& 252645135 = nI (zb3 m) := by
  rw [pk_ushrN (by omega) 4 4 (by decide +kernel)]
  show (nI m + nI (m / 2 ^ 4)) &&& nI 252645135 = _
  rw [nI_add, nx_and]
  rfl
theorem bc4 {m : Nat} (hm : m < 2 ^ 31) : nI m + ((nI m).toUInt32 >>> ((8 : Int32).toUInt32 &&& Int32.toUInt32 31)).toInt32 = nI (zb4 m) := by
  rw [pk_ushrN (by omega) 8 8 (by decide +kernel), nI_add]
  rfl
theorem bc5 {m : Nat} (hm : m < 2 ^ 31) : (nI m + ((nI m).toUInt32 >>> ((16 : Int32).toUInt32 &&& Int32.toUInt32 31)).toInt32) &&& 63 = nI (zb5 m) := by
  rw [pk_ushrN (by omega) 16 16 (by decide +kernel)]
  show (nI m + nI (m / 2 ^ 16)) &&& nI 63 = _
  rw [nI_add, nx_and]
  rfl
theorem x_bitCount {d m : Nat} {h : zH} {Q : zQ} (hm : m < 16384) (h0 : Q (some (.int (nI (zcn m.testBit 14)))) h) : zG (d + 1) 7 [.int (nI m)] h Q := by
  rw [← zbc_at hm] at h0
  refine g_7 (Nat.le_of_ble_eq_true rfl) ?_
  intro X0 hX0
  have b1 : zb1 m ≤ m := Nat.sub_le _ _
  have b2 : zb2 (zb1 m) ≤ zb1 m + zb1 m / 4 := Nat.add_le_add Nat.and_le_left Nat.and_le_left
  have b3 : zb3 (zb2 (zb1 m)) ≤ zb2 (zb1 m) + zb2 (zb1 m) / 16 := Nat.and_le_left
  have b4 : zb4 (zb3 (zb2 (zb1 m))) = zb3 (zb2 (zb1 m)) + zb3 (zb2 (zb1 m)) / 256 := rfl
  iterate 8 refine hX0 _ _ _ _ ?_
  rw [bc1 (by omega)]
  iterate 10 refine hX0 _ _ _ _ ?_
  rw [bc2 (by omega)]
  iterate 8 refine hX0 _ _ _ _ ?_
  rw [bc3 (by omega)]
  iterate 6 refine hX0 _ _ _ _ ?_
  rw [bc4 (by omega)]
  iterate 10 refine hX0 _ _ _ _ ?_
  rw [bc5 (by omega)]
  exact h0

set_option maxRecDepth 100000 in
theorem x_skilled {d : Nat} {s : Nat → Int32} {a : Nat → Nat → Int32} {w : Bool} {Z : zH} {P v : Nat} {Q : zQ} (hP : s 9 = nI P) (hP2 : P ≤ 14) (hv : v < 30) (h0 : ∀ x : Int32, zMk x (fun p => p < P ∧ a 13 p &&& a 19 v = a 19 v) → Q (some (.int x)) (HX s a w ++ Z)) : zG (d + 1) 6 [.ref 17, .int (nI v)] (HX s a w ++ Z) Q := by
  refine g_6 (Nat.le_of_ble_eq_true rfl) ?_
  intro X0 hX0
  have hPI : (s 9).toInt = (P : Int) := by rw [hP, nI_toInt (by omega)]
  have hcv : (nI v).toNatClampNeg = v := nI_clamp (by omega)
  have key : ∀ (cc j : Nat) (x : Int32), P - j = cc → j ≤ P → zMk x (fun p => p < j ∧ a 13 p &&& a 19 v = a 19 v) → X0 4 [some (.ref 17), some (.int (nI v)), some (.int x), some (.int (nI j))] [] (HX s a w ++ Z) := by
    intro cc
    induction cc with
    | zero =>
      intro j x z1 z2 z3
      have hJ : (nI j).toInt = (j : Int) := nI_toInt (by omega)
      have ej : j = P := by omega
      iterate 4 refine hX0 _ _ _ _ ?_
      refine And.intro (fun c1 => ?_) (fun c1 => ?_)
      · iterate 2 refine hX0 _ _ _ _ ?_
        rw [ej] at z3
        exact h0 x z3
      · exfalso
        rw [fa_le] at c1
        omega
    | succ cc ih =>
      intro j x z1 z2 z3
      have hJ : (nI j).toInt = (j : Int) := nI_toInt (by omega)
      have hcl : (nI j).toNatClampNeg = j := nI_clamp (by omega)
      iterate 4 refine hX0 _ _ _ _ ?_
      refine And.intro (fun c1 => ?_) (fun c1 => ?_)
      · iterate 2 refine hX0 _ _ _ _ ?_
        exfalso
        rw [fa_le] at c1
        omega
      · iterate 4 refine hX0 _ _ _ _ ?_
        refine And.intro (by exact vp_in_nI (by omega) (by omega)) ?_
        rw [hcv]
        iterate 4 refine hX0 _ _ _ _ ?_
        refine And.intro (by exact vp_in_nI (by omega) (by omega)) ?_
        rw [hcl]
        iterate 4 refine hX0 _ _ _ _ ?_
        refine And.intro (fun c2 => ?_) (fun c2 => ?_)
        · iterate 2 refine hX0 _ _ _ _ ?_
          rw [nI_1]
          refine ih (j + 1) x (by omega) (by omega) (zMk_c z3 (fun p hp => ?_))
          constructor
          · exact fun z => ⟨by omega, z.2⟩
          · rintro ⟨y1, y2⟩
            refine ⟨?_, y2⟩
            rcases Nat.lt_or_ge p j with y3 | y3
            · exact y3
            · exfalso
              rw [show p = j by omega] at y2
              exact c2 ((skill_iff _ _).mpr y2)
        · iterate 8 refine hX0 _ _ _ _ ?_
          rw [nI_1]
          refine ih (j + 1) _ (by omega) (by omega) (zMk_c (zMk_or z3 (zMk_sh (j := j) (by omega))) (fun p hp => ?_))
          constructor
          · rintro (y1 | y1)
            · exact ⟨by omega, y1.2⟩
            · rw [y1]
              exact ⟨by omega, (skill_iff _ _).mp c2⟩
          · rintro ⟨y1, y2⟩
            rcases Nat.lt_or_ge p j with y3 | y3
            · exact Or.inl ⟨y3, y2⟩
            · exact Or.inr (by omega)
  iterate 4 refine hX0 _ _ _ _ ?_
  have kk := key P 0 0 rfl (by omega) (zMk_c zMk_0 (fun p hp => ⟨fun z => z.elim, fun z => absurd z.1 (Nat.not_lt_zero p)⟩))
  rw [nI_0] at kk
  exact kk

set_option maxRecDepth 100000 in
theorem x_ill2 {d : Nat} {s : Nat → Int32} {a : Nat → Nat → Int32} {w : Bool} {Z : zH} {SP P : Nat} {f l : Int32} {Q : zQ} (hN : s 10 = nI SP) (hN2 : SP ≤ 30) (hP2 : P ≤ 14) (hp : ∀ i, i < SP → 0 ≤ (a 14 i).toInt ∧ (a 14 i).toInt < (P : Int)) (h0 : ∀ x : Int32, zMk x (fun p => ∃ k, k < SP ∧ a 14 k = nI p ∧ (a 15 k).toInt ≤ l.toInt ∧ f.toInt ≤ (a 16 k).toInt) → Q (some (.int x)) (HX s a w ++ Z)) : zG (d + 1) 11 [.ref 17, .int f, .int l] (HX s a w ++ Z) Q := by
  refine g_11 (Nat.le_of_ble_eq_true rfl) ?_
  intro X0 hX0
  have hNI : (s 10).toInt = (SP : Int) := by rw [hN, nI_toInt (by omega)]
  have key : ∀ (cc j : Nat) (x : Int32), SP - j = cc → j ≤ SP → zMk x (fun p => ∃ k, k < j ∧ a 14 k = nI p ∧ (a 15 k).toInt ≤ l.toInt ∧ f.toInt ≤ (a 16 k).toInt) → X0 5 [some (.ref 17), some (.int f), some (.int l), some (.int x), some (.int (nI j))] [] (HX s a w ++ Z) := by
    intro cc
    induction cc with
    | zero =>
      intro j x z1 z2 z3
      have hJ : (nI j).toInt = (j : Int) := nI_toInt (by omega)
      have ej : j = SP := by omega
      iterate 4 refine hX0 _ _ _ _ ?_
      refine And.intro (fun c1 => ?_) (fun c1 => ?_)
      · iterate 2 refine hX0 _ _ _ _ ?_
        rw [ej] at z3
        exact h0 x z3
      · exfalso
        rw [fa_le] at c1
        omega
    | succ cc ih =>
      intro j x z1 z2 z3
      have hJ : (nI j).toInt = (j : Int) := nI_toInt (by omega)
      have hcl : (nI j).toNatClampNeg = j := nI_clamp (by omega)
      have hpj := hp j (by omega)
      have epj := nI_cl (a 14 j) hpj.1
      have hpc := cl_int (a 14 j) hpj.1
      iterate 4 refine hX0 _ _ _ _ ?_
      refine And.intro (fun c1 => ?_) (fun c1 => ?_)
      · iterate 2 refine hX0 _ _ _ _ ?_
        exfalso
        rw [fa_le] at c1
        omega
      · iterate 4 refine hX0 _ _ _ _ ?_
        refine And.intro (by exact vp_in_nI (by omega) (by omega)) ?_
        rw [hcl]
        iterate 2 refine hX0 _ _ _ _ ?_
        refine And.intro (fun c2 => ?_) (fun c2 => ?_)
        · iterate 2 refine hX0 _ _ _ _ ?_
          rw [nI_1]
          refine ih (j + 1) x (by omega) (by omega) (zMk_c z3 (fun p hp => ?_))
          constructor
          · rintro ⟨k, y1, y2⟩
            exact ⟨k, by omega, y2⟩
          · rintro ⟨k, y1, y2, y3, y4⟩
            rcases Nat.lt_or_ge k j with y5 | y5
            · exact ⟨k, y5, y2, y3, y4⟩
            · exfalso
              rw [show k = j by omega] at y3 y4
              rw [fa_lt] at c2
              omega
        · iterate 5 refine hX0 _ _ _ _ ?_
          refine And.intro (by exact vp_in_nI (by omega) (by omega)) ?_
          rw [hcl]
          refine hX0 _ _ _ _ ?_
          refine And.intro (fun c3 => ?_) (fun c3 => ?_)
          · iterate 2 refine hX0 _ _ _ _ ?_
            rw [nI_1]
            refine ih (j + 1) x (by omega) (by omega) (zMk_c z3 (fun p hp => ?_))
            constructor
            · rintro ⟨k, y1, y2⟩
              exact ⟨k, by omega, y2⟩
            · rintro ⟨k, y1, y2, y3, y4⟩
              rcases Nat.lt_or_ge k j with y5 | y5
              · exact ⟨k, y5, y2, y3, y4⟩
              · exfalso
                rw [show k = j by omega] at y3 y4
                rw [fa_lt] at c3
                omega
          · iterate 6 refine hX0 _ _ _ _ ?_
            refine And.intro (by exact vp_in_nI (by omega) (by omega)) ?_
            rw [hcl]
            iterate 5 refine hX0 _ _ _ _ ?_
            rw [nI_1]
            rw [epj]
            rw [fa_lt] at c2 c3
            refine ih (j + 1) _ (by omega) (by omega) (zMk_c (zMk_or z3 (zMk_sh (j := (a 14 j).toNatClampNeg) (by omega))) (fun p hp => ?_))
            constructor
            · rintro (⟨k, y1, y2⟩ | y1)
              · exact ⟨k, by omega, y2⟩
              · exact ⟨j, by omega, by rw [y1]; exact epj, by omega, by omega⟩
            · rintro ⟨k, y1, y2, y3, y4⟩
              rcases Nat.lt_or_ge k j with y5 | y5
              · exact Or.inl ⟨k, y5, y2, y3, y4⟩
              · right
                rw [show k = j by omega] at y2
                rw [y2, nI_clamp (by omega)]
  iterate 4 refine hX0 _ _ _ _ ?_
  have kk := key SP 0 0 rfl (by omega) (zMk_c zMk_0 (fun p hp => ⟨fun z => z.elim, fun z => by obtain ⟨k, y1, -⟩ := z; omega⟩))
  rw [nI_0] at kk
  exact kk

set_option maxRecDepth 100000 in
theorem x_busy {d : Nat} {s : Nat → Int32} {a : Nat → Nat → Int32} {w : Bool} {Z : zH} {v b : Nat} {re : Int32} {Q : zQ} (hv : v < 30) (hb : b < 2400) (hre : 0 ≤ re.toInt ∧ re.toInt ≤ 1000) (hH : ∀ i, i ≤ v → 1 ≤ (a 17 i).toInt ∧ (a 17 i).toInt ≤ 24) (hB : ∀ i, i < v → (a 21 i = -1 ∨ ∃ m q : Nat, m < 16384 ∧ a 22 i = nI m ∧ q < 3000 ∧ a 21 i = nI q)) (h0 : ∀ x : Int32, zMk x (fun p => ∃ k, k < v ∧ ¬ (a 21 k).toInt < 0 ∧ bt (a 22 k) p = true ∧ ¬ ((a 21 k).toInt + (a 17 k).toInt + re.toInt ≤ (b : Int) ∨ (b : Int) + (a 17 v).toInt + re.toInt ≤ (a 21 k).toInt)) → Q (some (.int x)) (HX s a w ++ Z)) : zG (d + 1) 12 [.ref 17, .int (nI v), .int (nI b), .int re] (HX s a w ++ Z) Q := by
  refine g_12 (Nat.le_of_ble_eq_true rfl) ?_
  intro X0 hX0
  have hV : (nI v).toInt = (v : Int) := nI_toInt (by omega)
  have hBI : (nI b).toInt = (b : Int) := nI_toInt (by omega)
  have hcv : (nI v).toNatClampNeg = v := nI_clamp (by omega)
  have hm1 : (-1 : Int32).toInt = -1 := rfl
  have hHv := hH v (by omega)
  have hE : (nI b + a 17 v).toInt = (b : Int) + (a 17 v).toInt := by rw [i32_add (by omega), hBI]
  have hER : (nI b + a 17 v + re).toInt = (b : Int) + (a 17 v).toInt + re.toInt := by rw [i32_add (by omega), hE]
  have key : ∀ (cc j : Nat) (x : Int32) (o7 o8 : Option Value), v - j = cc → j ≤ v → zMk x (fun p => ∃ k, k < j ∧ ¬ (a 21 k).toInt < 0 ∧ bt (a 22 k) p = true ∧ ¬ ((a 21 k).toInt + (a 17 k).toInt + re.toInt ≤ (b : Int) ∨ (b : Int) + (a 17 v).toInt + re.toInt ≤ (a 21 k).toInt)) → X0 16 [some (.ref 17), some (.int (nI v)), some (.int (nI b)), some (.int re), some (.int (nI b + a 17 v)), some (.int x), some (.int (nI j)), o7, o8] [] (HX s a w ++ Z) := by
    intro cc
    induction cc with
    | zero =>
      intro j x o7 o8 z1 z2 z3
      have hJ : (nI j).toInt = (j : Int) := nI_toInt (by omega)
      have ej : j = v := by omega
      iterate 3 refine hX0 _ _ _ _ ?_
      refine And.intro (fun c1 => ?_) (fun c1 => ?_)
      · iterate 2 refine hX0 _ _ _ _ ?_
        rw [ej] at z3
        exact h0 x z3
      · exfalso
        rw [fa_le] at c1
        omega
    | succ cc ih =>
      intro j x o7 o8 z1 z2 z3
      have hJ : (nI j).toInt = (j : Int) := nI_toInt (by omega)
      have hcl : (nI j).toNatClampNeg = j := nI_clamp (by omega)
      have hHj := hH j (by omega)
      have hq : -1 ≤ (a 21 j).toInt ∧ (a 21 j).toInt < 3000 := by
        rcases hB j (by omega) with e | ⟨m, q, -, -, e1, e2⟩
        · rw [e, hm1]
          omega
        · rw [e2, nI_toInt (by omega)]
          omega
      have hS : (a 21 j + a 17 j + re).toInt = (a 21 j).toInt + (a 17 j).toInt + re.toInt := by rw [i32_add (by rw [i32_add (by omega)]; omega), i32_add (by omega)]
      have skip : ∀ (o7 o8 : Option Value), ((a 21 j).toInt < 0 ∨ ((a 21 j).toInt + (a 17 j).toInt + re.toInt ≤ (b : Int) ∨ (b : Int) + (a 17 v).toInt + re.toInt ≤ (a 21 j).toInt)) → X0 16 [some (.ref 17), some (.int (nI v)), some (.int (nI b)), some (.int re), some (.int (nI b + a 17 v)), some (.int x), some (.int (nI j + 1)), o7, o8] [] (HX s a w ++ Z) := by
        intro o7 o8 hn
        rw [nI_1]
        refine ih (j + 1) x o7 o8 (by omega) (by omega) (zMk_c z3 (fun p hp => ?_))
        constructor
        · rintro ⟨k, y1, y2⟩
          exact ⟨k, by omega, y2⟩
        · rintro ⟨k, y1, y2, y3, y4⟩
          rcases Nat.lt_or_ge k j with y5 | y5
          · exact ⟨k, y5, y2, y3, y4⟩
          · exfalso
            rw [show k = j by omega] at y2 y4
            rcases hn with hn | hn
            · exact y2 hn
            · exact y4 hn
      iterate 3 refine hX0 _ _ _ _ ?_
      refine And.intro (fun c1 => ?_) (fun c1 => ?_)
      · iterate 2 refine hX0 _ _ _ _ ?_
        exfalso
        rw [fa_le] at c1
        omega
      · iterate 4 refine hX0 _ _ _ _ ?_
        refine And.intro (by exact vp_in_nI (by omega) (by omega)) ?_
        rw [hcl]
        iterate 6 refine hX0 _ _ _ _ ?_
        refine And.intro (by exact vp_in_nI (by omega) (by omega)) ?_
        rw [hcl]
        iterate 5 refine hX0 _ _ _ _ ?_
        refine And.intro (fun c2 => ?_) (fun c2 => ?_)
        · iterate 6 refine hX0 _ _ _ _ ?_
          refine And.intro (fun c3 => ?_) (fun c3 => ?_)
          · iterate 2 refine hX0 _ _ _ _ ?_
            exact skip _ _ (Or.inl (by rw [c3, hm1]; omega))
          · iterate 2 refine hX0 _ _ _ _ ?_
            refine And.intro (fun _ => ?_) (fun c => absurd c (by decide))
            iterate 2 refine hX0 _ _ _ _ ?_
            rw [fa_le, hS, hBI] at c2
            exact skip _ _ (Or.inr (Or.inl c2))
        · iterate 5 refine hX0 _ _ _ _ ?_
          refine And.intro (fun c4 => ?_) (fun c4 => ?_)
          · iterate 5 refine hX0 _ _ _ _ ?_
            refine And.intro (fun c5 => ?_) (fun c5 => ?_)
            · iterate 2 refine hX0 _ _ _ _ ?_
              exact skip _ _ (Or.inl (by rw [c5, hm1]; omega))
            · iterate 2 refine hX0 _ _ _ _ ?_
              refine And.intro (fun c => absurd c (by decide)) (fun _ => ?_)
              iterate 5 refine hX0 _ _ _ _ ?_
              refine And.intro (by exact vp_in_nI (by omega) (by omega)) ?_
              rw [hcl]
              iterate 4 refine hX0 _ _ _ _ ?_
              rw [fa_le, hS, hBI] at c2
              rw [fa_lt, hER] at c4
              rcases hB j (by omega) with e | ⟨m, q, e0, e1, e2, e3⟩
              · exact absurd e c5
              · rw [nI_1, e1]
                have hq0 : ¬ (a 21 j).toInt < 0 := by rw [e3, nI_toInt (by omega)]; omega
                refine ih (j + 1) _ _ _ (by omega) (by omega) (zMk_c (zMk_or z3 (zMk_nI e0)) (fun p hp => ?_))
                constructor
                · rintro (⟨k, y1, y2⟩ | y1)
                  · exact ⟨k, by omega, y2⟩
                  · exact ⟨j, by omega, hq0, by rw [e1, bt_nI (by omega)]; exact y1, by omega⟩
                · rintro ⟨k, y1, y2, y3, y4⟩
                  rcases Nat.lt_or_ge k j with y5 | y5
                  · exact Or.inl ⟨k, y5, y2, y3, y4⟩
                  · right
                    rw [show k = j by omega, e1, bt_nI (by omega)] at y3
                    exact y3
          · iterate 6 refine hX0 _ _ _ _ ?_
            refine And.intro (fun c6 => ?_) (fun c6 => ?_)
            · iterate 2 refine hX0 _ _ _ _ ?_
              exact skip _ _ (Or.inl (by rw [c6, hm1]; omega))
            · iterate 2 refine hX0 _ _ _ _ ?_
              refine And.intro (fun _ => ?_) (fun c => absurd c (by decide))
              iterate 2 refine hX0 _ _ _ _ ?_
              rw [fa_lt, hER] at c4
              exact skip _ _ (Or.inr (Or.inr (by omega)))
  iterate 5 refine hX0 _ _ _ _ ?_
  refine And.intro (by exact vp_in_nI (by omega) (by omega)) ?_
  rw [hcv]
  iterate 6 refine hX0 _ _ _ _ ?_
  have kk := key v 0 0 none none rfl (by omega) (zMk_c zMk_0 (fun p hp => ⟨fun z => z.elim, fun z => by obtain ⟨k, y1, -⟩ := z; omega⟩))
  rw [nI_0] at kk
  exact kk

set_option maxRecDepth 100000 in
theorem hb_i {m : Nat} (hm : m < 2 ^ 31) : nI m &&& (nI m - 1) = nI (m &&& (m - 1)) := by
  cases m with
  | zero =>
    rw [nI_0]
    decide
  | succ k =>
    rw [nI_pred, nx_and]
    rfl
set_option maxRecDepth 100000 in
theorem x_lowest {d m n : Nat} {h : zH} {Q : zQ} (hm : m < 16384) (hn : n ≤ 4) (h0 : Q (some (.int (nI (zwf m.testBit n 14).1))) h) : zG (d + 1) 13 [.int (nI m), .int (nI n)] h Q := by
  refine g_13 (Nat.le_of_ble_eq_true rfl) ?_
  intro X0 hX0
  have hN : (nI n).toInt = (n : Int) := nI_toInt (by omega)
  have key : ∀ (cc j : Nat), n - j = cc → j ≤ n → X0 4 [some (.int (nI m)), some (.int (nI n)), some (.int (nI (zhi m j))), some (.int (nI j))] [] h := by
    intro cc
    induction cc with
    | zero =>
      intro j z1 z2
      have hJ : (nI j).toInt = (j : Int) := nI_toInt (by omega)
      have ej : j = n := by omega
      iterate 3 refine hX0 _ _ _ _ ?_
      refine And.intro (fun c1 => ?_) (fun c1 => ?_)
      · iterate 6 refine hX0 _ _ _ _ ?_
        rw [ej, zlow hm]
        exact h0
      · exfalso
        rw [fa_le] at c1
        omega
    | succ cc ih =>
      intro j z1 z2
      have hJ : (nI j).toInt = (j : Int) := nI_toInt (by omega)
      have hz := zhi_le m j
      iterate 3 refine hX0 _ _ _ _ ?_
      refine And.intro (fun c1 => ?_) (fun c1 => ?_)
      · exfalso
        rw [fa_le] at c1
        omega
      · iterate 8 refine hX0 _ _ _ _ ?_
        rw [hb_i (by omega), nI_1]
        exact ih (j + 1) (by omega) (by omega)
  iterate 4 refine hX0 _ _ _ _ ?_
  have kk := key n 0 rfl (by omega)
  rw [nI_0] at kk
  exact kk

set_option maxRecDepth 100000 in
theorem x_weatherFor {d : Nat} {s : Nat → Int32} {a : Nat → Nat → Int32} {w : Bool} {Z : zH} {wi li co : Nat → Int32} {v b Hn : Nat} {bo : Int32} {Q : zQ} (hS : ISky (a 0) wi li co) (hv : v < 30) (hH : a 17 v = nI Hn) (hH2 : Hn ≤ 24) (hb : b + Hn ≤ 2400) (h1 : zWe li co (a 17) (a 20) bo v b → Q (some (.int 1)) (HX s a w ++ Z)) (h0 : ¬ zWe li co (a 17) (a 20) bo v b → Q (some (.int 0)) (HX s a w ++ Z)) : zG (d + 2) 10 [.ref 17, .int (nI v), .int (nI b), .ref 1, .int bo] (HX s a w ++ Z) Q := by
  refine g_10 (Nat.le_of_ble_eq_true rfl) ?_
  intro X0 hX0
  have hHI : (a 17 v).toInt = (Hn : Int) := by rw [hH, nI_toInt (by omega)]
  have hcv : (nI v).toNatClampNeg = v := nI_clamp (by omega)
  have hEI : (nI (b + Hn)).toInt = ((b + Hn : Nat) : Int) := nI_toInt (by omega)
  have key : ∀ (f5 f6 : Int32), (f5 = 0 ↔ a 20 v &&& 2 = 0) → (f6 = 0 ↔ a 20 v &&& 1 = 0) → ∀ (cc j : Nat), b + Hn - j = cc → b ≤ j → j ≤ b + Hn → (∀ h, b ≤ h → h < j → (¬ (¬ a 20 v &&& 2 = 0 ∧ li h = 0) ∧ ¬ (¬ a 20 v &&& 1 = 0 ∧ (co h).toInt < bo.toInt))) → X0 49 [some (.ref 17), some (.int (nI v)), some (.int (nI b)), some (.ref 1), some (.int bo), some (.int f5), some (.int f6), some (.int (nI (b + Hn))), some (.int (nI j))] [] (HX s a w ++ Z) := by
    intro f5 f6 hf5 hf6 cc
    induction cc with
    | zero =>
      intro j z1 z2 z3 z4
      have hJ : (nI j).toInt = (j : Int) := nI_toInt (by omega)
      iterate 3 refine hX0 _ _ _ _ ?_
      refine And.intro (fun c1 => ?_) (fun c1 => ?_)
      · iterate 2 refine hX0 _ _ _ _ ?_
        refine And.intro (Or.inr rfl) ?_
        exact h1 (fun h y1 y2 => z4 h y1 (by omega))
      · exfalso
        rw [fa_le] at c1
        omega
    | succ cc ih =>
      intro j z1 z2 z3 z4
      have hJ : (nI j).toInt = (j : Int) := nI_toInt (by omega)
      have hk : j < 2400 := by omega
      have nxt : (¬ (¬ a 20 v &&& 2 = 0 ∧ li j = 0) ∧ ¬ (¬ a 20 v &&& 1 = 0 ∧ (co j).toInt < bo.toInt)) → X0 88 [some (.ref 17), some (.int (nI v)), some (.int (nI b)), some (.ref 1), some (.int bo), some (.int f5), some (.int f6), some (.int (nI (b + Hn))), some (.int (nI j))] [] (HX s a w ++ Z) := by
        intro y
        iterate 2 refine hX0 _ _ _ _ ?_
        rw [nI_1]
        refine ih (j + 1) (by omega) (by omega) (by omega) (fun h y1 y2 => ?_)
        rcases Nat.lt_or_ge h j with y3 | y3
        · exact z4 h y1 y3
        · rw [show h = j by omega]
          exact y
      have bad : ¬ (¬ (¬ a 20 v &&& 2 = 0 ∧ li j = 0) ∧ ¬ (¬ a 20 v &&& 1 = 0 ∧ (co j).toInt < bo.toInt)) → ¬ zWe li co (a 17) (a 20) bo v b := fun y y2 => y (y2 j z2 (by omega))
      iterate 3 refine hX0 _ _ _ _ ?_
      refine And.intro (fun c1 => ?_) (fun c1 => ?_)
      · exfalso
        rw [fa_le] at c1
        omega
      · iterate 2 refine hX0 _ _ _ _ ?_
        refine And.intro (fun c2 => ?_) (fun c2 => ?_)
        · iterate 2 refine hX0 _ _ _ _ ?_
          refine And.intro (fun c3 => ?_) (fun c3 => ?_)
          · refine nxt ⟨?_, ?_⟩
            · rintro ⟨y1, y2⟩
              first | exact y1 (hf5.mp c2) | (rw [y2] at c3; exact absurd c3 (by decide))
            · rintro ⟨y1, y2⟩
              first | exact y1 (hf6.mp c3) | (rw [fa_le] at c3; omega)
          · iterate 3 refine hX0 _ _ _ _ ?_
            refine x_coldAt hS hk ?_
            iterate 2 refine hX0 _ _ _ _ ?_
            refine And.intro (fun c5 => ?_) (fun c5 => ?_)
            · refine nxt ⟨?_, ?_⟩
              · rintro ⟨y1, y2⟩
                first | exact y1 (hf5.mp c2) | (rw [y2] at c3; exact absurd c3 (by decide))
              · rintro ⟨y1, y2⟩
                first | exact y1 (hf6.mp c5) | (rw [fa_le] at c5; omega)
            · iterate 2 refine hX0 _ _ _ _ ?_
              refine And.intro (by first | exact Or.inl rfl | exact Or.inr rfl | exact vp_in_nI (by omega) (by omega)) ?_
              refine h0 (bad (fun y => ?_))
              first | exact y.1 ⟨fun y1 => c2 (hf5.mpr y1), c3⟩ | (rw [fa_le] at c5; exact y.2 ⟨fun y1 => c3 (hf6.mpr y1), by omega⟩)
        · iterate 3 refine hX0 _ _ _ _ ?_
          refine x_lightAt hS hk (fun c6 => ?_) (fun c7 => ?_)
          · refine hX0 _ _ _ _ ?_
            refine And.intro (fun c => absurd c (by decide)) (fun _ => ?_)
            iterate 2 refine hX0 _ _ _ _ ?_
            refine And.intro (fun c8 => ?_) (fun c8 => ?_)
            · refine nxt ⟨?_, ?_⟩
              · rintro ⟨y1, y2⟩
                first | exact y1 (hf5.mp c2) | (rw [y2] at c6; exact absurd c6 (by decide))
              · rintro ⟨y1, y2⟩
                first | exact y1 (hf6.mp c8) | (rw [fa_le] at c8; omega)
            · iterate 3 refine hX0 _ _ _ _ ?_
              refine x_coldAt hS hk ?_
              iterate 2 refine hX0 _ _ _ _ ?_
              refine And.intro (fun c10 => ?_) (fun c10 => ?_)
              · refine nxt ⟨?_, ?_⟩
                · rintro ⟨y1, y2⟩
                  first | exact y1 (hf5.mp c2) | (rw [y2] at c6; exact absurd c6 (by decide))
                · rintro ⟨y1, y2⟩
                  first | exact y1 (hf6.mp c10) | (rw [fa_le] at c10; omega)
              · iterate 2 refine hX0 _ _ _ _ ?_
                refine And.intro (by first | exact Or.inl rfl | exact Or.inr rfl | exact vp_in_nI (by omega) (by omega)) ?_
                refine h0 (bad (fun y => ?_))
                first | exact y.1 ⟨fun y1 => c2 (hf5.mpr y1), c6⟩ | (rw [fa_le] at c10; exact y.2 ⟨fun y1 => c8 (hf6.mpr y1), by omega⟩)
          · refine hX0 _ _ _ _ ?_
            refine And.intro (fun _ => ?_) (fun c => absurd c (by decide))
            iterate 2 refine hX0 _ _ _ _ ?_
            refine And.intro (by first | exact Or.inl rfl | exact Or.inr rfl | exact vp_in_nI (by omega) (by omega)) ?_
            refine h0 (bad (fun y => ?_))
            first | exact y.1 ⟨fun y1 => c2 (hf5.mpr y1), c7⟩ | (rw [fa_le] at c7; exact y.2 ⟨fun y1 => c2 (hf6.mpr y1), by omega⟩)
  iterate 4 refine hX0 _ _ _ _ ?_
  refine And.intro (by exact vp_in_nI (by omega) (by omega)) ?_
  rw [hcv]
  iterate 3 refine hX0 _ _ _ _ ?_
  refine And.intro (fun c1 => ?_) (fun c1 => ?_)
  · iterate 6 refine hX0 _ _ _ _ ?_
    refine And.intro (by exact vp_in_nI (by omega) (by omega)) ?_
    rw [hcv]
    iterate 3 refine hX0 _ _ _ _ ?_
    refine And.intro (fun c2 => ?_) (fun c2 => ?_)
    · iterate 7 refine hX0 _ _ _ _ ?_
      refine And.intro (by exact vp_in_nI (by omega) (by omega)) ?_
      rw [hcv]
      iterate 4 refine hX0 _ _ _ _ ?_
      rw [hH, nI_add]
      exact key 0 0 ⟨fun _ => c1, fun _ => rfl⟩ ⟨fun _ => c2, fun _ => rfl⟩ Hn b (by omega) (by omega) (by omega) (fun h y1 y2 => absurd y1 (by omega))
    · iterate 8 refine hX0 _ _ _ _ ?_
      refine And.intro (by exact vp_in_nI (by omega) (by omega)) ?_
      rw [hcv]
      iterate 4 refine hX0 _ _ _ _ ?_
      rw [hH, nI_add]
      exact key 0 1 ⟨fun _ => c1, fun _ => rfl⟩ ⟨fun z => absurd z (by decide), fun z => absurd z c2⟩ Hn b (by omega) (by omega) (by omega) (fun h y1 y2 => absurd y1 (by omega))
  · iterate 7 refine hX0 _ _ _ _ ?_
    refine And.intro (by exact vp_in_nI (by omega) (by omega)) ?_
    rw [hcv]
    iterate 3 refine hX0 _ _ _ _ ?_
    refine And.intro (fun c3 => ?_) (fun c3 => ?_)
    · iterate 7 refine hX0 _ _ _ _ ?_
      refine And.intro (by exact vp_in_nI (by omega) (by omega)) ?_
      rw [hcv]
      iterate 4 refine hX0 _ _ _ _ ?_
      rw [hH, nI_add]
      exact key 1 0 ⟨fun z => absurd z (by decide), fun z => absurd z c1⟩ ⟨fun _ => c3, fun _ => rfl⟩ Hn b (by omega) (by omega) (by omega) (fun h y1 y2 => absurd y1 (by omega))
    · iterate 8 refine hX0 _ _ _ _ ?_
      refine And.intro (by exact vp_in_nI (by omega) (by omega)) ?_
      rw [hcv]
      iterate 4 refine hX0 _ _ _ _ ?_
      rw [hH, nI_add]
      exact key 1 1 ⟨fun z => absurd z (by decide), fun z => absurd z c1⟩ ⟨fun z => absurd z (by decide), fun z => absurd z c3⟩ Hn b (by omega) (by omega) (by omega) (fun h y1 y2 => absurd y1 (by omega))
