/-! THE SCHEDULE OF THE REFERENCE -/

set_option maxRecDepth 100000 in
theorem y_isFree {d : Nat} {s : Nat → Int32} {a : Nat → Nat → Int32} {w : Bool} {t : Nat → Int32} {b : Nat → Nat → Int32} {u : Nat → Int64} {c : Nat → Nat → Int64} {SP p v n0 : Nat} {Q : zQ} (hN : t 12 = nI SP) (hN2 : SP ≤ 30) (hp : p < 14) (hv : v < 30) (hn0 : n0 < 3000) (hre : 0 ≤ (t 4).toInt ∧ (t 4).toInt ≤ 1000) (hH : ∀ i, i ≤ v → 1 ≤ (b 23 i).toInt ∧ (b 23 i).toInt ≤ 24) (hB : ∀ i, i < v → -1 ≤ (b 27 i).toInt ∧ (b 27 i).toInt < 3000) (h1 : zFr (b 19) (b 20) (b 21) (b 22) (b 23) (b 25) SP (t 4) (b 27) (b 28) v n0 p → Q (some (.int 1)) (HX s a w ++ HM t b u c)) (h0 : ¬ zFr (b 19) (b 20) (b 21) (b 22) (b 23) (b 25) SP (t 4) (b 27) (b 28) v n0 p → Q (some (.int 0)) (HX s a w ++ HM t b u c)) : zG (d + 1) 129 [.ref 56, .int (nI p), .int (nI v), .int (nI n0)] (HX s a w ++ HM t b u c) Q := by
  refine g_129 (Nat.le_of_ble_eq_true rfl) ?_
  intro X0 hX0
  have hNI : (t 12).toInt = (SP : Int) := by rw [hN, nI_toInt (by omega)]
  have hV : (nI v).toInt = (v : Int) := nI_toInt (by omega)
  have hBI : (nI n0).toInt = (n0 : Int) := nI_toInt (by omega)
  have hcv : (nI v).toNatClampNeg = v := nI_clamp (by omega)
  have hcp : (nI p).toNatClampNeg = p := nI_clamp (by omega)
  have hz0 : (0 : Int32).toInt = 0 := rfl
  have hHv := hH v (by omega)
  have hE : (nI n0 + b 23 v).toInt = (n0 : Int) + (b 23 v).toInt := by rw [i32_add (by omega), hBI]
  have hER : (nI n0 + b 23 v + t 4).toInt = (n0 : Int) + (b 23 v).toInt + (t 4).toInt := by rw [i32_add (by omega), hE]
  have dead2 : ¬ zFr (b 19) (b 20) (b 21) (b 22) (b 23) (b 25) SP (t 4) (b 27) (b 28) v n0 p → ∀ j : Int32, X0 106 [some (.ref 56), some (.int (nI p)), some (.int (nI v)), some (.int (nI n0)), some (.int (nI n0 + b 23 v)), some (.int 0), some (.int j)] [] (HX s a w ++ HM t b u c) := by
    intro hd j
    iterate 3 refine hX0 _ _ _ _ ?_
    refine And.intro (fun c1 => ?_) (fun c1 => ?_)
    · iterate 2 refine hX0 _ _ _ _ ?_
      refine And.intro (by first | exact Or.inl rfl | exact Or.inr rfl | exact vp_in_nI (by omega) (by omega)) ?_
      exact h0 hd
    · iterate 2 refine hX0 _ _ _ _ ?_
      refine And.intro (fun _ => ?_) (fun c => absurd c (by decide))
      iterate 2 refine hX0 _ _ _ _ ?_
      refine And.intro (by first | exact Or.inl rfl | exact Or.inr rfl | exact vp_in_nI (by omega) (by omega)) ?_
      exact h0 hd
  have dead1 : ¬ zFr (b 19) (b 20) (b 21) (b 22) (b 23) (b 25) SP (t 4) (b 27) (b 28) v n0 p → ∀ j : Int32, X0 42 [some (.ref 56), some (.int (nI p)), some (.int (nI v)), some (.int (nI n0)), some (.int (nI n0 + b 23 v)), some (.int 0), some (.int j)] [] (HX s a w ++ HM t b u c) := by
    intro hd j
    iterate 4 refine hX0 _ _ _ _ ?_
    refine And.intro (fun c1 => ?_) (fun c1 => ?_)
    · iterate 2 refine hX0 _ _ _ _ ?_
      exact dead2 hd _
    · iterate 2 refine hX0 _ _ _ _ ?_
      refine And.intro (fun _ => ?_) (fun c => absurd c (by decide))
      iterate 2 refine hX0 _ _ _ _ ?_
      exact dead2 hd _
  have loop2 : (b 19 p &&& b 25 v = b 25 v) → (∀ k, k < SP → ¬ (b 20 k = nI p ∧ (n0 : Int) ≤ (b 22 k).toInt ∧ (b 21 k).toInt < (n0 : Int) + (b 23 v).toInt)) → ∀ (cc j : Nat), v - j = cc → j ≤ v → (∀ k, k < j → ¬ (¬ (b 27 k).toInt < 0 ∧ bt (b 28 k) p = true ∧ ¬ ((b 27 k).toInt + (b 23 k).toInt + (t 4).toInt ≤ (n0 : Int) ∨ (n0 : Int) + (b 23 v).toInt + (t 4).toInt ≤ (b 27 k).toInt))) → X0 106 [some (.ref 56), some (.int (nI p)), some (.int (nI v)), some (.int (nI n0)), some (.int (nI n0 + b 23 v)), some (.int 1), some (.int (nI j))] [] (HX s a w ++ HM t b u c) := by
    intro hs1 hs2 cc
    induction cc with
    | zero =>
      intro j z1 z2 z3
      have hJ : (nI j).toInt = (j : Int) := nI_toInt (by omega)
      iterate 3 refine hX0 _ _ _ _ ?_
      refine And.intro (fun c1 => ?_) (fun c1 => ?_)
      · iterate 2 refine hX0 _ _ _ _ ?_
        refine And.intro (Or.inr rfl) ?_
        exact h1 ⟨hs1, hs2, fun k hk => z3 k (by omega)⟩
      · exfalso
        rw [fa_le] at c1
        omega
    | succ cc ih =>
      intro j z1 z2 z3
      have hJ : (nI j).toInt = (j : Int) := nI_toInt (by omega)
      have hcl : (nI j).toNatClampNeg = j := nI_clamp (by omega)
      have hHj := hH j (by omega)
      have hq := hB j (by omega)
      have hS : (b 27 j + b 23 j + t 4).toInt = (b 27 j).toInt + (b 23 j).toInt + (t 4).toInt := by rw [i32_add (by rw [i32_add (by omega)]; omega), i32_add (by omega)]
      have good : ¬ (¬ (b 27 j).toInt < 0 ∧ bt (b 28 j) p = true ∧ ¬ ((b 27 j).toInt + (b 23 j).toInt + (t 4).toInt ≤ (n0 : Int) ∨ (n0 : Int) + (b 23 v).toInt + (t 4).toInt ≤ (b 27 j).toInt)) → X0 106 [some (.ref 56), some (.int (nI p)), some (.int (nI v)), some (.int (nI n0)), some (.int (nI n0 + b 23 v)), some (.int 1), some (.int (nI j + 1))] [] (HX s a w ++ HM t b u c) := by
        intro y
        rw [nI_1]
        refine ih (j + 1) (by omega) (by omega) (fun k hk => ?_)
        rcases Nat.lt_or_ge k j with y1 | y1
        · exact z3 k y1
        · rw [show k = j by omega]
          exact y
      iterate 3 refine hX0 _ _ _ _ ?_
      refine And.intro (fun c1 => ?_) (fun c1 => ?_)
      · iterate 2 refine hX0 _ _ _ _ ?_
        refine And.intro (by first | exact Or.inl rfl | exact Or.inr rfl | exact vp_in_nI (by omega) (by omega)) ?_
        exfalso
        rw [fa_le] at c1
        omega
      · iterate 2 refine hX0 _ _ _ _ ?_
        refine And.intro (fun c => absurd c (by decide)) (fun _ => ?_)
        iterate 4 refine hX0 _ _ _ _ ?_
        refine And.intro (by exact vp_in_nI (by omega) (by omega)) ?_
        rw [hcl]
        refine hX0 _ _ _ _ ?_
        refine And.intro (fun c2 => ?_) (fun c2 => ?_)
        · iterate 5 refine hX0 _ _ _ _ ?_
          rw [fa_lt] at c2
          exact good (fun y => y.1 (by omega))
        · iterate 4 refine hX0 _ _ _ _ ?_
          refine And.intro (by exact vp_in_nI (by omega) (by omega)) ?_
          rw [hcl]
          iterate 5 refine hX0 _ _ _ _ ?_
          refine And.intro (fun c3 => ?_) (fun c3 => ?_)
          · iterate 5 refine hX0 _ _ _ _ ?_
            rw [bit_iff _ (by omega)] at c3
            exact good (fun y => by rw [c3] at y; exact Bool.noConfusion y.2.1)
          · iterate 4 refine hX0 _ _ _ _ ?_
            refine And.intro (by exact vp_in_nI (by omega) (by omega)) ?_
            rw [hcl]
            iterate 4 refine hX0 _ _ _ _ ?_
            refine And.intro (by exact vp_in_nI (by omega) (by omega)) ?_
            rw [hcl]
            iterate 6 refine hX0 _ _ _ _ ?_
            refine And.intro (fun c4 => ?_) (fun c4 => ?_)
            · iterate 5 refine hX0 _ _ _ _ ?_
              rw [fa_le, hS, hBI] at c4
              exact good (fun y => y.2.2 (Or.inl c4))
            · iterate 8 refine hX0 _ _ _ _ ?_
              refine And.intro (by exact vp_in_nI (by omega) (by omega)) ?_
              rw [hcl]
              refine hX0 _ _ _ _ ?_
              refine And.intro (fun c5 => ?_) (fun c5 => ?_)
              · iterate 4 refine hX0 _ _ _ _ ?_
                rw [fa_lt] at c2
                rw [bit_iff _ (by omega)] at c3
                rw [fa_le, hS, hBI] at c4
                rw [fa_lt, hER] at c5
                refine dead2 (fun y => y.2.2 j (by omega) ⟨by omega, by cases hbb : bt (b 28 j) p with
                  | true => rfl
                  | false => exact absurd hbb c3, by omega⟩) _
              · iterate 5 refine hX0 _ _ _ _ ?_
                rw [fa_lt, hER] at c5
                exact good (fun y => y.2.2 (Or.inr (by omega)))
  have loop1 : (b 19 p &&& b 25 v = b 25 v) → ∀ (cc j : Nat), SP - j = cc → j ≤ SP → (∀ k, k < j → ¬ (b 20 k = nI p ∧ (n0 : Int) ≤ (b 22 k).toInt ∧ (b 21 k).toInt < (n0 : Int) + (b 23 v).toInt)) → X0 42 [some (.ref 56), some (.int (nI p)), some (.int (nI v)), some (.int (nI n0)), some (.int (nI n0 + b 23 v)), some (.int 1), some (.int (nI j))] [] (HX s a w ++ HM t b u c) := by
    intro hs1 cc
    induction cc with
    | zero =>
      intro j z1 z2 z3
      have hJ : (nI j).toInt = (j : Int) := nI_toInt (by omega)
      iterate 4 refine hX0 _ _ _ _ ?_
      refine And.intro (fun c1 => ?_) (fun c1 => ?_)
      · iterate 2 refine hX0 _ _ _ _ ?_
        have kk := loop2 hs1 (fun k hk => z3 k (by omega)) v 0 rfl (by omega) (fun k hk => absurd hk (Nat.not_lt_zero k))
        rw [nI_0] at kk
        exact kk
      · exfalso
        rw [fa_le] at c1
        omega
    | succ cc ih =>
      intro j z1 z2 z3
      have hJ : (nI j).toInt = (j : Int) := nI_toInt (by omega)
      have hcl : (nI j).toNatClampNeg = j := nI_clamp (by omega)
      have good : ¬ (b 20 j = nI p ∧ (n0 : Int) ≤ (b 22 j).toInt ∧ (b 21 j).toInt < (n0 : Int) + (b 23 v).toInt) → X0 42 [some (.ref 56), some (.int (nI p)), some (.int (nI v)), some (.int (nI n0)), some (.int (nI n0 + b 23 v)), some (.int 1), some (.int (nI j + 1))] [] (HX s a w ++ HM t b u c) := by
        intro y
        rw [nI_1]
        refine ih (j + 1) (by omega) (by omega) (fun k hk => ?_)
        rcases Nat.lt_or_ge k j with y1 | y1
        · exact z3 k y1
        · rw [show k = j by omega]
          exact y
      iterate 4 refine hX0 _ _ _ _ ?_
      refine And.intro (fun c1 => ?_) (fun c1 => ?_)
      · exfalso
        rw [fa_le] at c1
        omega
      · iterate 2 refine hX0 _ _ _ _ ?_
        refine And.intro (fun c => absurd c (by decide)) (fun _ => ?_)
        iterate 4 refine hX0 _ _ _ _ ?_
        refine And.intro (by exact vp_in_nI (by omega) (by omega)) ?_
        rw [hcl]
        iterate 2 refine hX0 _ _ _ _ ?_
        refine And.intro (fun c2 => ?_) (fun c2 => ?_)
        · iterate 5 refine hX0 _ _ _ _ ?_
          exact good (fun y => c2 y.1)
        · iterate 4 refine hX0 _ _ _ _ ?_
          refine And.intro (by exact vp_in_nI (by omega) (by omega)) ?_
          rw [hcl]
          iterate 2 refine hX0 _ _ _ _ ?_
          refine And.intro (fun c3 => ?_) (fun c3 => ?_)
          · iterate 5 refine hX0 _ _ _ _ ?_
            rw [fa_lt] at c3
            exact good (fun y => by omega)
          · iterate 4 refine hX0 _ _ _ _ ?_
            refine And.intro (by exact vp_in_nI (by omega) (by omega)) ?_
            rw [hcl]
            iterate 2 refine hX0 _ _ _ _ ?_
            refine And.intro (fun c4 => ?_) (fun c4 => ?_)
            · iterate 4 refine hX0 _ _ _ _ ?_
              rw [fa_lt] at c3
              rw [fa_lt, hE] at c4
              exact dead1 (fun y => y.2.1 j (by omega) ⟨c2, by omega, by omega⟩) _
            · iterate 5 refine hX0 _ _ _ _ ?_
              rw [fa_lt, hE] at c4
              exact good (fun y => by omega)
  iterate 5 refine hX0 _ _ _ _ ?_
  refine And.intro (by exact vp_in_nI (by omega) (by omega)) ?_
  rw [hcv]
  iterate 6 refine hX0 _ _ _ _ ?_
  refine And.intro (by exact vp_in_nI (by omega) (by omega)) ?_
  rw [hcp]
  iterate 4 refine hX0 _ _ _ _ ?_
  refine And.intro (by exact vp_in_nI (by omega) (by omega)) ?_
  rw [hcv]
  iterate 5 refine hX0 _ _ _ _ ?_
  refine And.intro (by exact vp_in_nI (by omega) (by omega)) ?_
  rw [hcv]
  refine hX0 _ _ _ _ ?_
  refine And.intro (fun c1 => ?_) (fun c1 => ?_)
  · iterate 4 refine hX0 _ _ _ _ ?_
    exact dead1 (fun y => c1 y.1) _
  · iterate 5 refine hX0 _ _ _ _ ?_
    have kk := loop1 c1 SP 0 rfl (by omega) (fun k hk => absurd hk (Nat.not_lt_zero k))
    rw [nI_0] at kk
    exact kk

theorem zwf_stop {F : Nat → Bool} {n p : Nat} (h : ¬ (zwf F n p).2 < n) : ∀ c, zwf F n (p + c) = zwf F n p
  | 0 => rfl
  | c + 1 => by
    have ih := zwf_stop h c
    show (if (zwf F n (p + c)).2 < n ∧ F (p + c) = true then ((zwf F n (p + c)).1 ||| 2 ^ (p + c), (zwf F n (p + c)).2 + 1) else zwf F n (p + c)) = _
    rw [if_neg (fun z => by rw [ih] at z; exact h z.1)]
    exact ih
theorem sh_pow {p : Nat} (hp : p < 14) : (1 : Int32) <<< (nI p &&& 31) = nI (2 ^ p) := by
  have h : ∀ q : Fin 14, (1 : Int32) <<< (nI q.val &&& 31) = nI (2 ^ q.val) := by decide +kernel
  exact h ⟨p, hp⟩
theorem nI_or (a b : Nat) : nI a ||| nI b = nI (a ||| b) := by
  apply Int32.toBitVec_inj.1
  show BitVec.ofNat 32 a ||| BitVec.ofNat 32 b = BitVec.ofNat 32 (a ||| b)
  apply BitVec.eq_of_getLsbD_eq
  intro i hi
  simp [hi]
set_option maxRecDepth 100000 in
theorem y_whoAt {d : Nat} {s : Nat → Int32} {a : Nat → Nat → Int32} {w : Bool} {t : Nat → Int32} {b : Nat → Nat → Int32} {u : Nat → Int64} {c : Nat → Nat → Int64} {P SP v n0 : Nat} {Q : zQ} (hP : t 11 = nI P) (hP2 : P ≤ 14) (hN : t 12 = nI SP) (hN2 : SP ≤ 30) (hv : v < 30) (hn0 : n0 < 3000) (hre : 0 ≤ (t 4).toInt ∧ (t 4).toInt ≤ 1000) (hH : ∀ i, i ≤ v → 1 ≤ (b 23 i).toInt ∧ (b 23 i).toInt ≤ 24) (hNv : 1 ≤ (b 24 v).toInt ∧ (b 24 v).toInt ≤ 4) (hB : ∀ i, i < v → -1 ≤ (b 27 i).toInt ∧ (b 27 i).toInt < 3000) (h1 : ∀ who, who < 16384 → zCan (b 1) (b 2) (b 19) (b 20) (b 21) (b 22) (b 23) (b 24) (b 25) (b 26) P SP (t 4) (t 5) (b 27) (b 28) v n0 who → Q (some (.int (nI who))) (HX s a w ++ HM t b u c)) (h0 : (∀ who, ¬ zCan (b 1) (b 2) (b 19) (b 20) (b 21) (b 22) (b 23) (b 24) (b 25) (b 26) P SP (t 4) (t 5) (b 27) (b 28) v n0 who) → Q (some (.int (-1))) (HX s a w ++ HM t b u c)) : zG (d + 2) 130 [.ref 56, .int (nI v), .int (nI n0)] (HX s a w ++ HM t b u c) Q := by
  refine g_130 (Nat.le_of_ble_eq_true rfl) ?_
  intro X0 hX0
  have hPI : (t 11).toInt = (P : Int) := by rw [hP, nI_toInt (by omega)]
  have hBI : (nI n0).toInt = (n0 : Int) := nI_toInt (by omega)
  have hcv : (nI v).toNatClampNeg = v := nI_clamp (by omega)
  have hHv := hH v (by omega)
  have hE : (nI n0 + b 23 v).toInt = (n0 : Int) + (b 23 v).toInt := by rw [i32_add (by omega), hBI]
  have hNc := cl_int (b 24 v) (by omega)
  have hz24 : (2400 : Int32).toInt = 2400 := rfl
  have loopP : (n0 : Int) + (b 23 v).toInt ≤ 2400 → zWe (b 1) (b 2) (b 23) (b 26) (t 5) v n0 → ∀ (cc p : Nat), P - p = cc → p ≤ P → X0 90 [some (.ref 56), some (.int (nI v)), some (.int (nI n0)), some (.int (nI (zwf (fun p => zdc (zFr (b 19) (b 20) (b 21) (b 22) (b 23) (b 25) SP (t 4) (b 27) (b 28) v n0 p)) (b 24 v).toNatClampNeg p).1)), some (.int (nI (zwf (fun p => zdc (zFr (b 19) (b 20) (b 21) (b 22) (b 23) (b 25) SP (t 4) (b 27) (b 28) v n0 p)) (b 24 v).toNatClampNeg p).2)), some (.int (nI p))] [] (HX s a w ++ HM t b u c) := by
    intro hw1 hw2 cc
    have fin : ∀ p : Nat, p ≤ P → zwf (fun p => zdc (zFr (b 19) (b 20) (b 21) (b 22) (b 23) (b 25) SP (t 4) (b 27) (b 28) v n0 p)) (b 24 v).toNatClampNeg P = zwf (fun p => zdc (zFr (b 19) (b 20) (b 21) (b 22) (b 23) (b 25) SP (t 4) (b 27) (b 28) v n0 p)) (b 24 v).toNatClampNeg p → X0 137 [some (.ref 56), some (.int (nI v)), some (.int (nI n0)), some (.int (nI (zwf (fun p => zdc (zFr (b 19) (b 20) (b 21) (b 22) (b 23) (b 25) SP (t 4) (b 27) (b 28) v n0 p)) (b 24 v).toNatClampNeg p).1)), some (.int (nI (zwf (fun p => zdc (zFr (b 19) (b 20) (b 21) (b 22) (b 23) (b 25) SP (t 4) (b 27) (b 28) v n0 p)) (b 24 v).toNatClampNeg p).2)), some (.int (nI p))] [] (HX s a w ++ HM t b u c) := by
      intro p hp2 hz
      have z2 := zwf_2 (F := (fun p => zdc (zFr (b 19) (b 20) (b 21) (b 22) (b 23) (b 25) SP (t 4) (b 27) (b 28) v n0 p))) (n := (b 24 v).toNatClampNeg) p
      generalize hzz : zwf (fun p => zdc (zFr (b 19) (b 20) (b 21) (b 22) (b 23) (b 25) SP (t 4) (b 27) (b 28) v n0 p)) (b 24 v).toNatClampNeg p = zz at *
      iterate 5 refine hX0 _ _ _ _ ?_
      refine And.intro (by exact vp_in_nI (by omega) (by omega)) ?_
      rw [hcv]
      refine hX0 _ _ _ _ ?_
      refine And.intro (fun c1 => ?_) (fun c1 => ?_)
      · iterate 2 refine hX0 _ _ _ _ ?_
        refine h0 (fun who y => ?_)
        have y2 := hz.symm.trans y.2.2
        rw [y2] at c1
        exact c1 ((nI_cl (b 24 v) (by omega)).symm)
      · iterate 3 refine hX0 _ _ _ _ ?_
        have e2 : zz.2 = (b 24 v).toNatClampNeg := by
          have e3 := c1
          rw [nI_cl (b 24 v) (by omega), nI_eq (by omega) (by omega)] at e3
          exact e3
        refine h1 zz.1 ?_ ⟨hw1, hw2, by rw [hz, ← e2]⟩
        rw [← hzz]
        exact Nat.lt_of_lt_of_le zwf_lt (Nat.pow_le_pow_right (by omega) (by omega) : 2 ^ p ≤ 2 ^ 14)
    induction cc with
    | zero =>
      intro p z1 z2
      have hJ : (nI p).toInt = (p : Int) := nI_toInt (by omega)
      iterate 4 refine hX0 _ _ _ _ ?_
      refine And.intro (fun c1 => ?_) (fun c1 => ?_)
      · exact fin p z2 (by rw [show p = P by omega])
      · exfalso
        rw [fa_le] at c1
        omega
    | succ cc ih =>
      intro p z1 z2
      have hJ : (nI p).toInt = (p : Int) := nI_toInt (by omega)
      have zz2 := zwf_2 (F := (fun p => zdc (zFr (b 19) (b 20) (b 21) (b 22) (b 23) (b 25) SP (t 4) (b 27) (b 28) v n0 p))) (n := (b 24 v).toNatClampNeg) p
      have ih' := ih (p + 1) (by omega) (by omega)
      have zs : zwf (fun p => zdc (zFr (b 19) (b 20) (b 21) (b 22) (b 23) (b 25) SP (t 4) (b 27) (b 28) v n0 p)) (b 24 v).toNatClampNeg (p + 1) = if (zwf (fun p => zdc (zFr (b 19) (b 20) (b 21) (b 22) (b 23) (b 25) SP (t 4) (b 27) (b 28) v n0 p)) (b 24 v).toNatClampNeg p).2 < (b 24 v).toNatClampNeg ∧ zdc (zFr (b 19) (b 20) (b 21) (b 22) (b 23) (b 25) SP (t 4) (b 27) (b 28) v n0 p) = true then ((zwf (fun p => zdc (zFr (b 19) (b 20) (b 21) (b 22) (b 23) (b 25) SP (t 4) (b 27) (b 28) v n0 p)) (b 24 v).toNatClampNeg p).1 ||| 2 ^ p, (zwf (fun p => zdc (zFr (b 19) (b 20) (b 21) (b 22) (b 23) (b 25) SP (t 4) (b 27) (b 28) v n0 p)) (b 24 v).toNatClampNeg p).2 + 1) else zwf (fun p => zdc (zFr (b 19) (b 20) (b 21) (b 22) (b 23) (b 25) SP (t 4) (b 27) (b 28) v n0 p)) (b 24 v).toNatClampNeg p := rfl
      iterate 4 refine hX0 _ _ _ _ ?_
      refine And.intro (fun c1 => ?_) (fun c1 => ?_)
      · exfalso
        rw [fa_le] at c1
        omega
      · iterate 5 refine hX0 _ _ _ _ ?_
        refine And.intro (by exact vp_in_nI (by omega) (by omega)) ?_
        rw [hcv]
        refine hX0 _ _ _ _ ?_
        refine And.intro (fun c2 => ?_) (fun c2 => ?_)
        · rw [fa_le, nI_toInt (by omega)] at c2
          refine fin p z2 ?_
          have e5 := zwf_stop (F := (fun p => zdc (zFr (b 19) (b 20) (b 21) (b 22) (b 23) (b 25) SP (t 4) (b 27) (b 28) v n0 p))) (n := (b 24 v).toNatClampNeg) (p := p) (by omega) (P - p)
          rw [show p + (P - p) = P by omega] at e5
          exact e5
        · iterate 5 refine hX0 _ _ _ _ ?_
          refine y_isFree (SP := SP) hN hN2 (by omega) hv hn0 hre hH hB (fun c3 => ?_) (fun c4 => ?_)
          · refine hX0 _ _ _ _ ?_
            refine And.intro (fun c => absurd c (by decide)) (fun _ => ?_)
            iterate 9 refine hX0 _ _ _ _ ?_
            rw [fa_le, nI_toInt (by omega)] at c2
            rw [if_pos ⟨by omega, zdc_t.mpr c3⟩] at zs
            rw [zs] at ih'
            rw [nI_1, sh_pow (by omega), nI_or, nI_1]
            exact ih'
          · refine hX0 _ _ _ _ ?_
            refine And.intro (fun _ => ?_) (fun c => absurd c (by decide))
            iterate 2 refine hX0 _ _ _ _ ?_
            rw [fa_le, nI_toInt (by omega)] at c2
            rw [if_neg (fun z => c4 (zdc_t.mp z.2))] at zs
            rw [zs] at ih'
            rw [nI_1]
            exact ih'
  have loopW : (n0 : Int) + (b 23 v).toInt ≤ 2400 → ∀ (cc j : Nat) (o4 o5 : Option Value), ((n0 : Int) + (b 23 v).toInt - j).toNat = cc → n0 ≤ j → (j : Int) ≤ (n0 : Int) + (b 23 v).toInt → (∀ h, n0 ≤ h → h < j → (¬ (¬ b 26 v &&& 2 = 0 ∧ b 1 h = 0) ∧ ¬ (¬ b 26 v &&& 1 = 0 ∧ (b 2 h).toInt < (t 5).toInt))) → X0 18 [some (.ref 56), some (.int (nI v)), some (.int (nI n0)), some (.int (nI j)), o4, o5] [] (HX s a w ++ HM t b u c) := by
    intro hw1 cc
    induction cc with
    | zero =>
      intro j o4 o5 z1 z2 z9 z3
      rcases Int.lt_or_le (j : Int) 4000 with hj | hj
      · have hJ : (nI j).toInt = (j : Int) := nI_toInt (by omega)
        iterate 6 refine hX0 _ _ _ _ ?_
        refine And.intro (by exact vp_in_nI (by omega) (by omega)) ?_
        rw [hcv]
        iterate 2 refine hX0 _ _ _ _ ?_
        refine And.intro (fun c1 => ?_) (fun c1 => ?_)
        · iterate 6 refine hX0 _ _ _ _ ?_
          have kk := loopP hw1 (fun h y1 y2 => z3 h y1 (by omega)) P 0 rfl (by omega)
          exact kk
        · exfalso
          rw [fa_le, hE] at c1
          omega
      · exfalso
        omega
    | succ cc ih =>
      intro j o4 o5 z1 z2 z9 z3
      have hJ : (nI j).toInt = (j : Int) := nI_toInt (by omega)
      have hcj : (nI j).toNatClampNeg = j := nI_clamp (by omega)
      have good : (¬ (¬ b 26 v &&& 2 = 0 ∧ b 1 j = 0) ∧ ¬ (¬ b 26 v &&& 1 = 0 ∧ (b 2 j).toInt < (t 5).toInt)) → X0 76 [some (.ref 56), some (.int (nI v)), some (.int (nI n0)), some (.int (nI j)), o4, o5] [] (HX s a w ++ HM t b u c) := by
        intro y
        iterate 2 refine hX0 _ _ _ _ ?_
        rw [nI_1]
        refine ih (j + 1) o4 o5 (by omega) (by omega) (by omega) (fun h y1 y2 => ?_)
        rcases Nat.lt_or_ge h j with y3 | y3
        · exact z3 h y1 y3
        · rw [show h = j by omega]
          exact y
      have bad : ¬ (¬ (¬ b 26 v &&& 2 = 0 ∧ b 1 j = 0) ∧ ¬ (¬ b 26 v &&& 1 = 0 ∧ (b 2 j).toInt < (t 5).toInt)) → ∀ who, ¬ zCan (b 1) (b 2) (b 19) (b 20) (b 21) (b 22) (b 23) (b 24) (b 25) (b 26) P SP (t 4) (t 5) (b 27) (b 28) v n0 who := fun y who y2 => y (y2.2.1 j z2 (by omega))
      iterate 6 refine hX0 _ _ _ _ ?_
      refine And.intro (by exact vp_in_nI (by omega) (by omega)) ?_
      rw [hcv]
      iterate 2 refine hX0 _ _ _ _ ?_
      refine And.intro (fun c1 => ?_) (fun c1 => ?_)
      · exfalso
        rw [fa_le, hE] at c1
        omega
      · iterate 4 refine hX0 _ _ _ _ ?_
        refine And.intro (by exact vp_in_nI (by omega) (by omega)) ?_
        rw [hcv]
        iterate 3 refine hX0 _ _ _ _ ?_
        refine And.intro (fun c2 => ?_) (fun c2 => ?_)
        · iterate 4 refine hX0 _ _ _ _ ?_
          refine And.intro (by exact vp_in_nI (by omega) (by omega)) ?_
          rw [hcv]
          iterate 3 refine hX0 _ _ _ _ ?_
          refine And.intro (fun c3 => ?_) (fun c3 => ?_)
          · refine good ⟨?_, ?_⟩
            · rintro ⟨y1, y2⟩
              first | exact y1 c2 | exact c3 y2
            · rintro ⟨y1, y2⟩
              first | exact y1 c3 | (rw [fa_le] at c3; omega)
          · iterate 4 refine hX0 _ _ _ _ ?_
            refine And.intro (by exact vp_in_nI (by omega) (by omega)) ?_
            rw [hcj]
            iterate 3 refine hX0 _ _ _ _ ?_
            refine And.intro (fun c4 => ?_) (fun c4 => ?_)
            · refine good ⟨?_, ?_⟩
              · rintro ⟨y1, y2⟩
                first | exact y1 c2 | exact c3 y2
              · rintro ⟨y1, y2⟩
                first | exact y1 c4 | (rw [fa_le] at c4; omega)
            · iterate 2 refine hX0 _ _ _ _ ?_
              refine h0 (bad (fun y => ?_))
              first | exact y.1 ⟨c2, c3⟩ | (rw [fa_le] at c4; exact y.2 ⟨c3, by omega⟩)
        · iterate 4 refine hX0 _ _ _ _ ?_
          refine And.intro (by exact vp_in_nI (by omega) (by omega)) ?_
          rw [hcj]
          refine hX0 _ _ _ _ ?_
          refine And.intro (fun c5 => ?_) (fun c5 => ?_)
          · iterate 2 refine hX0 _ _ _ _ ?_
            refine h0 (bad (fun y => ?_))
            first | exact y.1 ⟨c2, c5⟩ | (rw [fa_le] at c5; exact y.2 ⟨c2, by omega⟩)
          · iterate 4 refine hX0 _ _ _ _ ?_
            refine And.intro (by exact vp_in_nI (by omega) (by omega)) ?_
            rw [hcv]
            iterate 3 refine hX0 _ _ _ _ ?_
            refine And.intro (fun c6 => ?_) (fun c6 => ?_)
            · refine good ⟨?_, ?_⟩
              · rintro ⟨y1, y2⟩
                first | exact y1 c2 | exact c5 y2
              · rintro ⟨y1, y2⟩
                first | exact y1 c6 | (rw [fa_le] at c6; omega)
            · iterate 4 refine hX0 _ _ _ _ ?_
              refine And.intro (by exact vp_in_nI (by omega) (by omega)) ?_
              rw [hcj]
              iterate 3 refine hX0 _ _ _ _ ?_
              refine And.intro (fun c7 => ?_) (fun c7 => ?_)
              · refine good ⟨?_, ?_⟩
                · rintro ⟨y1, y2⟩
                  first | exact y1 c2 | exact c5 y2
                · rintro ⟨y1, y2⟩
                  first | exact y1 c7 | (rw [fa_le] at c7; omega)
              · iterate 2 refine hX0 _ _ _ _ ?_
                refine h0 (bad (fun y => ?_))
                first | exact y.1 ⟨c2, c5⟩ | (rw [fa_le] at c7; exact y.2 ⟨c6, by omega⟩)
  iterate 5 refine hX0 _ _ _ _ ?_
  refine And.intro (by exact vp_in_nI (by omega) (by omega)) ?_
  rw [hcv]
  iterate 3 refine hX0 _ _ _ _ ?_
  refine And.intro (fun c1 => ?_) (fun c1 => ?_)
  · iterate 2 refine hX0 _ _ _ _ ?_
    rw [fa_le, hE] at c1
    exact loopW (by omega) _ n0 none none rfl (by omega) (by omega) (fun h y1 y2 => absurd y1 (by omega))
  · iterate 2 refine hX0 _ _ _ _ ?_
    rw [fa_le, hE] at c1
    exact h0 (fun who y => by have := y.1; omega)

theorem zPl_b {C : Nat → Nat → Prop} {now : Nat} {r1 r2 : Int32} (hn : now < 2400) (h : zPl C now r1 r2) : -1 ≤ r1.toInt ∧ r1.toInt < 3000 := by
  rcases h with ⟨b, who, h1, hw, h2, h3, h4, h5⟩ | ⟨h1, h2, h3⟩
  · rw [h2, nI_toInt (by omega)]
    omega
  · rw [h1]
    exact ⟨by decide, by decide⟩
set_option maxRecDepth 100000 in
theorem y_schedule {d : Nat} {s : Nat → Int32} {a : Nat → Nat → Int32} {w : Bool} {t : Nat → Int32} {b : Nat → Nat → Int32} {u : Nat → Int64} {c : Nat → Nat → Int64} {P SP W now : Nat} {Q : zQ} (hP : t 11 = nI P) (hP2 : P ≤ 14) (hN : t 12 = nI SP) (hN2 : SP ≤ 30) (hW : t 13 = nI W) (hW2 : W ≤ 30) (hnw : t 2 = nI now) (hnow : now < 2400) (hre : 0 ≤ (t 4).toInt ∧ (t 4).toInt ≤ 1000) (hH : ∀ i, i < W → (1 ≤ (b 23 i).toInt ∧ (b 23 i).toInt ≤ 24) ∧ (1 ≤ (b 24 i).toInt ∧ (b 24 i).toInt ≤ 4)) (h0 : ∀ b' : Nat → Nat → Int32, zSm [27, 28] b b' → (∀ i, W ≤ i → b' 27 i = b 27 i ∧ b' 28 i = b 28 i) → zSch (zCan (b 1) (b 2) (b 19) (b 20) (b 21) (b 22) (b 23) (b 24) (b 25) (b 26) P SP (t 4) (t 5)) now W (b' 27) (b' 28) → Q (some (.int (nI (zlf (b' 27) W)))) (HX s a w ++ HM (va_up (va_up t 0 0) 14 (nI W)) b' u c)) : zG (d + 3) 131 [.ref 56] (HX s a w ++ HM t b u c) Q := by
  refine g_131 (Nat.le_of_ble_eq_true rfl) ?_
  intro X0 hX0
  have hWI : (t 13).toInt = (W : Int) := by rw [hW, nI_toInt (by omega)]
  have hz0 : (0 : Int32).toInt = 0 := rfl
  have hm1 : (-1 : Int32).toInt = -1 := rfl
  have h300 : (nI now + 300).toInt = (now : Int) + 300 := by
    rw [i32_add (by rw [nI_toInt (by omega)]; have : (300 : Int32).toInt = 300 := rfl; omega), nI_toInt (by omega)]
    rfl
  have key : ∀ (cc j : Nat) (b' : Nat → Nat → Int32) (o3 o4 : Option Value), W - j = cc → j ≤ W → zSm [27, 28] b b' → (∀ i, j ≤ i → b' 27 i = b 27 i ∧ b' 28 i = b 28 i) → zSch (zCan (b 1) (b 2) (b 19) (b 20) (b 21) (b 22) (b 23) (b 24) (b 25) (b 26) P SP (t 4) (t 5)) now j (b' 27) (b' 28) → X0 9 [some (.ref 56), some (.int (nI (zlf (b' 27) j))), some (.int (nI j)), o3, o4] [] (HX s a w ++ HM (va_up t 0 0) b' u c) := by
    intro cc
    induction cc with
    | zero =>
      intro j b' o3 o4 z1 z2 q1 q2 q3
      have hJ : (nI j).toInt = (j : Int) := nI_toInt (by omega)
      have ej : j = W := by omega
      iterate 4 refine hX0 _ _ _ _ ?_
      refine And.intro (fun c1 => ?_) (fun c1 => ?_)
      · iterate 4 refine hX0 _ _ _ _ ?_
        refine zcast (X := X0) yt_14 ?_
        iterate 2 refine hX0 _ _ _ _ ?_
        rw [ej] at q2 q3 ⊢
        have e13 : va_up t 0 0 13 = nI W := hW
        rw [e13]
        exact h0 b' q1 q2 q3
      · exfalso
        rw [fa_le] at c1
        change ¬ (t 13).toInt ≤ _ at c1
        omega
    | succ cc ih =>
      intro j b' o3 o4 z1 z2 q1 q2 q3
      have hJ : (nI j).toInt = (j : Int) := nI_toInt (by omega)
      have hcl : (nI j).toNatClampNeg = j := nI_clamp (by omega)
      have e1 : b' 1 = b 1 := q1 1 (by decide)
      have e2 : b' 2 = b 2 := q1 2 (by decide)
      have e19 : b' 19 = b 19 := q1 19 (by decide)
      have e20 : b' 20 = b 20 := q1 20 (by decide)
      have e21 : b' 21 = b 21 := q1 21 (by decide)
      have e22 : b' 22 = b 22 := q1 22 (by decide)
      have e23 : b' 23 = b 23 := q1 23 (by decide)
      have e24 : b' 24 = b 24 := q1 24 (by decide)
      have e25 : b' 25 = b 25 := q1 25 (by decide)
      have e26 : b' 26 = b 26 := q1 26 (by decide)
      have tail : ∀ (b2 : Nat → Nat → Int32) (o3 o4 : Option Value), zSm [27, 28] b b2 → (∀ i, i ≠ j → b2 27 i = b' 27 i ∧ b2 28 i = b' 28 i) → zPl ((zCan (b 1) (b 2) (b 19) (b 20) (b 21) (b 22) (b 23) (b 24) (b 25) (b 26) P SP (t 4) (t 5)) (b' 27) (b' 28) j) now (b2 27 j) (b2 28 j) → X0 91 [some (.ref 56), some (.int (nI (zlf (b' 27) j))), some (.int (nI j)), o3, o4] [] (HX s a w ++ HM (va_up t 0 0) b2 u c) := by
        intro b2 o3 o4 p1 p2 p3
        have q3' := zSch_s (C := (zCan (b 1) (b 2) (b 19) (b 20) (b 21) (b 22) (b 23) (b 24) (b 25) (b 26) P SP (t 4) (t 5))) (fun f g f' g' w b who h => zCan_c h) q3 p2 p3
        have el : zlf (b2 27) j = zlf (b' 27) j := zlf_c j (fun w hw => (p2 w (by omega)).1)
        have es : zlf (b2 27) (j + 1) = zlf (b2 27) j + (if b2 27 j = -1 then 1 else 0) := rfl
        have pb := zPl_b hnow p3
        have go : ∀ n : Nat, n = zlf (b2 27) (j + 1) → X0 108 [some (.ref 56), some (.int (nI n)), some (.int (nI j)), o3, o4] [] (HX s a w ++ HM (va_up t 0 0) b2 u c) := by
          intro n hn
          subst hn
          iterate 2 refine hX0 _ _ _ _ ?_
          rw [nI_1]
          exact ih (j + 1) b2 o3 o4 (by omega) (by omega) p1 (fun i hi => by rw [(p2 i (by omega)).1, (p2 i (by omega)).2]; exact q2 i (by omega)) q3'
        iterate 5 refine hX0 _ _ _ _ ?_
        refine And.intro (by exact vp_in_nI (by omega) (by omega)) ?_
        rw [hcl]
        refine hX0 _ _ _ _ ?_
        refine And.intro (fun c1 => ?_) (fun c1 => ?_)
        · iterate 3 refine hX0 _ _ _ _ ?_
          rw [fa_le] at c1
          have kk := go (zlf (b' 27) j) (by rw [es, el, if_neg (fun z => by rw [z] at c1; omega)]; rfl)
          rw [show nI (zlf (b' 27) j) = nI (zlf (b' 27) j) + 0 by rw [← nI_0, nI_add]; rfl] at kk
          exact kk
        · iterate 4 refine hX0 _ _ _ _ ?_
          rw [fa_le] at c1
          have ez : b2 27 j = -1 := by rw [fa_eq]; omega
          have kk := go (zlf (b' 27) j + 1) (by rw [es, el, if_pos ez])
          rw [← nI_1] at kk
          exact kk
      have inner : ∀ (cc n0 : Nat) (b2 : Nat → Nat → Int32) (o4 : Option Value), now + 300 - n0 = cc → now ≤ n0 → n0 ≤ now + 300 → zSm [27, 28] b b2 → (∀ i, i ≠ j → b2 27 i = b' 27 i ∧ b2 28 i = b' 28 i) → b2 27 j = -1 → b2 28 j = -1 → (∀ n' who', now ≤ n' → n' < n0 → ¬ (zCan (b 1) (b 2) (b 19) (b 20) (b 21) (b 22) (b 23) (b 24) (b 25) (b 26) P SP (t 4) (t 5)) (b' 27) (b' 28) j n' who') → X0 36 [some (.ref 56), some (.int (nI (zlf (b' 27) j))), some (.int (nI j)), some (.int (nI n0)), o4] [] (HX s a w ++ HM (va_up t 0 0) b2 u c) := by
        intro cc
        induction cc with
        | zero =>
          intro n0 b2 o4 y1 y2 y3 r2 r3 r4 r5 r6
          have hN0 : (nI n0).toInt = (n0 : Int) := nI_toInt (by omega)
          iterate 5 refine hX0 _ _ _ _ ?_
          have e2' : va_up t 0 0 2 = nI now := hnw
          rw [e2']
          refine hX0 _ _ _ _ ?_
          refine And.intro (fun c1 => ?_) (fun c1 => ?_)
          · exact tail b2 _ _ r2 r3 (by rw [r4, r5]; exact Or.inr ⟨rfl, rfl, fun n' who' x1 x2 => r6 n' who' x1 (by omega)⟩)
          · exfalso
            rw [fa_le, h300] at c1
            omega
        | succ cc ih2 =>
          intro n0 b2 o4 y1 y2 y3 r2 r3 r4 r5 r6
          have hN0 : (nI n0).toInt = (n0 : Int) := nI_toInt (by omega)
          have rlo : ∀ o, o < j → b' 27 o = b2 27 o ∧ b' 28 o = b2 28 o := fun o ho => ⟨(r3 o (by omega)).1.symm, (r3 o (by omega)).2.symm⟩
          have rB : ∀ i, i < j → -1 ≤ (b2 27 i).toInt ∧ (b2 27 i).toInt < 3000 := fun i hi => by rw [(r3 i (by omega)).1]; exact zPl_b hnow (q3 i hi)
          have e2' : va_up t 0 0 2 = nI now := hnw
          have cv : ∀ who, zCan (b2 1) (b2 2) (b2 19) (b2 20) (b2 21) (b2 22) (b2 23) (b2 24) (b2 25) (b2 26) P SP (t 4) (t 5) (b2 27) (b2 28) j n0 who ↔ (zCan (b 1) (b 2) (b 19) (b 20) (b 21) (b 22) (b 23) (b 24) (b 25) (b 26) P SP (t 4) (t 5)) (b' 27) (b' 28) j n0 who := by
            intro who
            rw [r2 1 (by decide), r2 2 (by decide), r2 19 (by decide), r2 20 (by decide), r2 21 (by decide), r2 22 (by decide), r2 23 (by decide), r2 24 (by decide), r2 25 (by decide), r2 26 (by decide)]
            exact (zCan_c rlo).symm
          iterate 5 refine hX0 _ _ _ _ ?_
          rw [e2']
          refine hX0 _ _ _ _ ?_
          refine And.intro (fun c1 => ?_) (fun c1 => ?_)
          · exfalso
            rw [fa_le, h300] at c1
            omega
          · iterate 4 refine hX0 _ _ _ _ ?_
            refine And.intro (by exact vp_in_nI (by omega) (by omega)) ?_
            rw [hcl, r4]
            refine hX0 _ _ _ _ ?_
            refine And.intro (fun c => absurd c (by decide)) (fun _ => ?_)
            iterate 4 refine hX0 _ _ _ _ ?_
            refine y_whoAt (P := P) (SP := SP) (v := j) (n0 := n0) hP hP2 hN hN2 (by omega) (by omega) hre (by rw [r2 23 (by decide)]; exact fun i hi => (hH i (by omega)).1) (by rw [r2 24 (by decide)]; exact (hH j (by omega)).2) rB (fun who hwho c2 => ?_) (fun c2 => ?_)
            · iterate 3 refine hX0 _ _ _ _ ?_
              refine And.intro (fun c3 => ?_) (fun c3 => ?_)
              · exact absurd c3 (nI_pos (by omega))
              · have c2' := (cv who).mp c2
                iterate 5 refine hX0 _ _ _ _ ?_
                refine And.intro (by exact vp_in_nI (by omega) (by omega)) ?_
                refine zcast (X := X0) yb_27 ?_
                rw [hcl]
                iterate 5 refine hX0 _ _ _ _ ?_
                refine And.intro (by exact vp_in_nI (by omega) (by omega)) ?_
                refine zcast (X := X0) yb_28 ?_
                rw [hcl]
                have fin : ∀ (b3 : Nat → Nat → Int32) (o3 o4 : Option Value), zSm [27, 28] b b3 → b3 27 = upd (b2 27) j (nI n0) → b3 28 = upd (b2 28) j (nI who) → X0 91 [some (.ref 56), some (.int (nI (zlf (b' 27) j))), some (.int (nI j)), o3, o4] [] (HX s a w ++ HM (va_up t 0 0) b3 u c) := by
                  intro b3 o3 o4 x1 x2 x3
                  refine tail b3 o3 o4 x1 (fun i hi => ?_) ?_
                  · rw [x2, x3, upd_at, upd_at, if_neg hi, if_neg hi]
                    exact r3 i hi
                  · rw [x2, x3, upd_at, upd_at, if_pos rfl, if_pos rfl]
                    exact Or.inl ⟨n0, who, ⟨y2, by omega⟩, hwho, rfl, rfl, c2', r6⟩
                have back : ∀ (b3 : Nat → Nat → Int32) (o4 : Option Value) (n1 : Int32), zSm [27, 28] b b3 → b3 27 = upd (b2 27) j (nI n0) → b3 28 = upd (b2 28) j (nI who) → X0 36 [some (.ref 56), some (.int (nI (zlf (b' 27) j))), some (.int (nI j)), some (.int n1), o4] [] (HX s a w ++ HM (va_up t 0 0) b3 u c) := by
                  intro b3 o4 n1 x1 x2 x3
                  iterate 6 refine hX0 _ _ _ _ ?_
                  refine And.intro (fun c4 => ?_) (fun c4 => ?_)
                  · exact fin b3 _ _ x1 x2 x3
                  · iterate 4 refine hX0 _ _ _ _ ?_
                    refine And.intro (by exact vp_in_nI (by omega) (by omega)) ?_
                    rw [hcl]
                    refine hX0 _ _ _ _ ?_
                    refine And.intro (fun c5 => ?_) (fun c5 => ?_)
                    · exact fin b3 _ _ x1 x2 x3
                    · exfalso
                      rw [x2, upd_at, if_pos rfl] at c5
                      exact c5 (nI_pos' (by omega))
                iterate 2 refine hX0 _ _ _ _ ?_
                exact back _ _ _ (zSm_up (by decide) (zSm_up (by decide) r2)) rfl rfl
            · iterate 3 refine hX0 _ _ _ _ ?_
              refine And.intro (fun c3 => ?_) (fun c3 => absurd (by decide) c3)
              iterate 2 refine hX0 _ _ _ _ ?_
              rw [nI_1]
              refine ih2 (n0 + 1) b2 _ (by omega) (by omega) (by omega) r2 r3 r4 r5 (fun n' who' x1 x2 => ?_)
              rcases Nat.lt_or_ge n' n0 with x3 | x3
              · exact r6 n' who' x1 x3
              · rw [show n' = n0 by omega]
                exact fun x4 => c2 who' ((cv who').mpr x4)
      iterate 4 refine hX0 _ _ _ _ ?_
      refine And.intro (fun c1 => ?_) (fun c1 => ?_)
      · exfalso
        rw [fa_le] at c1
        change (t 13).toInt ≤ _ at c1
        omega
      · iterate 5 refine hX0 _ _ _ _ ?_
        refine And.intro (by exact vp_in_nI (by omega) (by omega)) ?_
        refine zcast (X := X0) yb_27 ?_
        rw [hcl]
        iterate 5 refine hX0 _ _ _ _ ?_
        refine And.intro (by exact vp_in_nI (by omega) (by omega)) ?_
        refine zcast (X := X0) yb_28 ?_
        rw [hcl]
        iterate 3 refine hX0 _ _ _ _ ?_
        have e2' : va_up t 0 0 2 = nI now := hnw
        rw [e2']
        refine inner 300 now _ _ (by omega) (by omega) (by omega) (zSm_up (by decide) (zSm_up (by decide) q1)) (fun i hi => ?_) ?_ ?_ (fun n' who' x1 x2 => absurd x1 (by omega))
        · show upd (b' 27) j (-1) i = b' 27 i ∧ upd (b' 28) j (-1) i = b' 28 i
          rw [upd_at, upd_at, if_neg hi, if_neg hi]
          exact ⟨rfl, rfl⟩
        · show upd (b' 27) j (-1) j = -1
          rw [upd_at, if_pos rfl]
        · show upd (b' 28) j (-1) j = -1
          rw [upd_at, if_pos rfl]
  iterate 3 refine hX0 _ _ _ _ ?_
  refine zcast (X := X0) yt_0 ?_
  iterate 4 refine hX0 _ _ _ _ ?_
  have kk := key W 0 b none none rfl (by omega) zSm_refl (fun i _ => ⟨rfl, rfl⟩) (fun w hw => absurd hw (Nat.not_lt_zero w))
  exact kk
