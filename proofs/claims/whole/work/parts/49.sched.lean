/-! THE SCHEDULE OF THE STATION -/
theorem zPl_v {C : Nat → Nat → Prop} {now : Nat} {r1 r2 : Int32} (hn : now < 2400) (h : zPl C now r1 r2) : (r1 = -1 ∨ ∃ m q : Nat, m < 16384 ∧ r2 = nI m ∧ q < 3000 ∧ r1 = nI q) := by
  rcases h with ⟨b, who, h1, hw, h2, h3, h4, h5⟩ | ⟨h1, h2, h3⟩
  · exact Or.inr ⟨who, b, hw, h3, by omega, h2⟩
  · exact Or.inl h1
theorem zCan_one {li co sk pP pF pT wH wP wS wT : Nat → Int32} {PE SP : Nat} {re bo : Int32} (f g : Nat → Int32) (w b w1 w2 : Nat) (h1 : zCan li co sk pP pF pT wH wP wS wT PE SP re bo f g w b w1) (h2 : zCan li co sk pP pF pT wH wP wS wT PE SP re bo f g w b w2) : w1 = w2 := by
  have e := h1.2.2.symm.trans h2.2.2
  exact congrArg Prod.fst e
theorem zSch_s {C : (Nat → Int32) → (Nat → Int32) → Nat → Nat → Nat → Prop} {now j : Nat} {f g f' g' : Nat → Int32} (h2 : ∀ f g f' g' w b who, (∀ o, o < w → f o = f' o ∧ g o = g' o) → (C f g w b who ↔ C f' g' w b who)) (hs : zSch C now j f g) (he : ∀ i, i ≠ j → f' i = f i ∧ g' i = g i) (hp : zPl (C f g j) now (f' j) (g' j)) : zSch C now (j + 1) f' g' := by
  intro w hw
  have hlo : ∀ o, o < w → f o = f' o ∧ g o = g' o := fun o ho => ⟨(he o (by omega)).1.symm, (he o (by omega)).2.symm⟩
  rcases Nat.lt_or_ge w j with c | c
  · have := hs w c
    rw [← (he w (by omega)).1, ← (he w (by omega)).2] at this
    exact zPl_c (fun b who => h2 f g f' g' w b who hlo) this
  · have e : w = j := by omega
    subst e
    exact zPl_c (fun b who => h2 f g f' g' w b who hlo) hp

set_option maxRecDepth 100000 in
theorem x_makeSchA {d : Nat} {s : Nat → Int32} {a : Nat → Nat → Int32} {w : Bool} {Z : zH} {wi li co : Nat → Int32} {P SP W now : Nat} {Q : zQ} (hS : ISky (a 0) wi li co) (hP : s 9 = nI P) (hP2 : P ≤ 14) (hN : s 10 = nI SP) (hN2 : SP ≤ 30) (hp : ∀ i, i < SP → 0 ≤ (a 14 i).toInt ∧ (a 14 i).toInt < (P : Int)) (hre : 0 ≤ (s 26).toInt ∧ (s 26).toInt ≤ 1000) (hW : s 11 = nI W) (hW2 : W ≤ 30) (hnow : now < 2400) (hH : ∀ i, i < W → (1 ≤ (a 17 i).toInt ∧ (a 17 i).toInt ≤ 24) ∧ (1 ≤ (a 18 i).toInt ∧ (a 18 i).toInt ≤ 4)) (h0 : ∀ a' : Nat → Nat → Int32, zSm [21, 22] a a' → (∀ i, W ≤ i → a' 21 i = a 21 i ∧ a' 22 i = a 22 i) → zSch (zCan li co (a 13) (a 14) (a 15) (a 16) (a 17) (a 18) (a 19) (a 20) P SP (s 26) (s 27)) now W (a' 21) (a' 22) → Q (some (.int (nI (zlf (a' 21) W)))) (HX (va_up s 12 (nI W)) a' w ++ Z)) : zG (d + 4) 15 [.ref 17, .int (nI now), .ref 1, .ref 42] (HX s a w ++ Z) Q := by
  refine g_15 (Nat.le_of_ble_eq_true rfl) ?_
  intro X0 hX0
  have hWI : (s 11).toInt = (W : Int) := by rw [hW, nI_toInt (by omega)]
  have key : ∀ (cc j : Nat) (a' : Nat → Nat → Int32), W - j = cc → j ≤ W → zSm [21, 22] a a' → (∀ i, j ≤ i → a' 21 i = a 21 i ∧ a' 22 i = a 22 i) → zSch (zCan li co (a 13) (a 14) (a 15) (a 16) (a 17) (a 18) (a 19) (a 20) P SP (s 26) (s 27)) now j (a' 21) (a' 22) → X0 6 [some (.ref 17), some (.int (nI now)), some (.ref 1), some (.ref 42), some (.int (nI (zlf (a' 21) j))), some (.int (nI j))] [] (HX s a' w ++ Z) := by
    intro cc
    induction cc with
    | zero =>
      intro j a' z1 z2 q1 q2 q3
      have hJ : (nI j).toInt = (j : Int) := nI_toInt (by omega)
      have ej : j = W := by omega
      iterate 4 refine hX0 _ _ _ _ ?_
      refine And.intro (fun c1 => ?_) (fun c1 => ?_)
      · iterate 4 refine hX0 _ _ _ _ ?_
        rw [hW]
        refine zcast (X := X0) xs_12 ?_
        iterate 2 refine hX0 _ _ _ _ ?_
        rw [ej] at q2 q3 ⊢
        exact h0 a' q1 q2 q3
      · exfalso
        rw [fa_le] at c1
        omega
    | succ cc ih =>
      intro j a' z1 z2 q1 q2 q3
      have hJ : (nI j).toInt = (j : Int) := nI_toInt (by omega)
      have hcl : (nI j).toNatClampNeg = j := nI_clamp (by omega)
      have e0 : a' 0 = a 0 := q1 0 (by decide)
      have e13 : a' 13 = a 13 := q1 13 (by decide)
      have e14 : a' 14 = a 14 := q1 14 (by decide)
      have e15 : a' 15 = a 15 := q1 15 (by decide)
      have e16 : a' 16 = a 16 := q1 16 (by decide)
      have e17 : a' 17 = a 17 := q1 17 (by decide)
      have e18 : a' 18 = a 18 := q1 18 (by decide)
      have e19 : a' 19 = a 19 := q1 19 (by decide)
      have e20 : a' 20 = a 20 := q1 20 (by decide)
      iterate 4 refine hX0 _ _ _ _ ?_
      refine And.intro (fun c1 => ?_) (fun c1 => ?_)
      · exfalso
        rw [fa_le] at c1
        omega
      · iterate 6 refine hX0 _ _ _ _ ?_
        refine x_placeA (by rw [e0]; exact hS) hP hP2 hN hN2 (by rw [e14]; exact hp) hre (by omega) hnow (by rw [e17, e18]; exact fun i hi => hH i (by omega)) (fun i hi => zPl_v hnow (q3 i hi)) (fun a2 p1 p2 p3 => ?_)
        rw [e13, e14, e15, e16, e17, e18, e19, e20] at p3
        have q3' := zSch_s (C := (zCan li co (a 13) (a 14) (a 15) (a 16) (a 17) (a 18) (a 19) (a 20) P SP (s 26) (s 27))) (fun f g f' g' w b who h => zCan_c h) q3 p2 p3
        iterate 4 refine hX0 _ _ _ _ ?_
        refine And.intro (by exact vp_in_nI (by omega) (by omega)) ?_
        rw [hcl]
        iterate 2 refine hX0 _ _ _ _ ?_
        have el : zlf (a2 21) j = zlf (a' 21) j := zlf_c j (fun w hw => (p2 w (by omega)).1)
        have fin : ∀ n : Nat, n = zlf (a2 21) (j + 1) → X0 38 [some (.ref 17), some (.int (nI now)), some (.ref 1), some (.ref 42), some (.int (nI n)), some (.int (nI j))] [] (HX s a2 w ++ Z) := by
          intro n hn
          subst hn
          iterate 2 refine hX0 _ _ _ _ ?_
          rw [nI_1]
          exact ih (j + 1) a2 (by omega) (by omega) (zSm_trans q1 p1) (fun i hi => by rw [(p2 i (by omega)).1, (p2 i (by omega)).2]; exact q2 i (by omega)) q3'
        refine And.intro (fun c2 => ?_) (fun c2 => ?_)
        · refine fin _ ?_
          show _ = zlf (a2 21) j + (if a2 21 j = -1 then 1 else 0)
          rw [if_neg c2, el]
          rfl
        · refine hX0 _ _ _ _ ?_
          have kk := fin (zlf (a' 21) j + 1) (by show _ = zlf (a2 21) j + (if a2 21 j = -1 then 1 else 0); rw [if_pos c2, el])
          rw [← nI_1] at kk
          exact kk
  iterate 4 refine hX0 _ _ _ _ ?_
  have kk := key W 0 a rfl (by omega) zSm_refl (fun i _ => ⟨rfl, rfl⟩) (fun w hw => absurd hw (Nat.not_lt_zero w))
  exact kk
set_option maxRecDepth 100000 in
theorem x_scheduleA {d : Nat} {s : Nat → Int32} {a : Nat → Nat → Int32} {Z : zH} {wi li co : Nat → Int32} {P SP W now : Nat} {Q : zQ} (hS : ISky (a 0) wi li co) (hP : s 9 = nI P) (hP2 : P ≤ 14) (hN : s 10 = nI SP) (hN2 : SP ≤ 30) (hp : ∀ i, i < SP → 0 ≤ (a 14 i).toInt ∧ (a 14 i).toInt < (P : Int)) (hre : 0 ≤ (s 26).toInt ∧ (s 26).toInt ≤ 1000) (hW : s 11 = nI W) (hW2 : W ≤ 30) (hn0 : s 0 = nI now) (hnow : now < 2400) (hH : ∀ i, i < W → (1 ≤ (a 17 i).toInt ∧ (a 17 i).toInt ≤ 24) ∧ (1 ≤ (a 18 i).toInt ∧ (a 18 i).toInt ≤ 4)) (h0 : ∀ a' : Nat → Nat → Int32, zSm [21, 22] a a' → (∀ i, W ≤ i → a' 21 i = a 21 i ∧ a' 22 i = a 22 i) → zSch (zCan li co (a 13) (a 14) (a 15) (a 16) (a 17) (a 18) (a 19) (a 20) P SP (s 26) (s 27)) now W (a' 21) (a' 22) → Q (some (.int (nI (zlf (a' 21) W)))) (HX (va_up s 12 (nI W)) a' false ++ Z)) : zG (d + 5) 90 [.ref 0] (HX s a false ++ Z) Q := by
  refine g_90 (Nat.le_of_ble_eq_true rfl) ?_
  intro X0 hX0
  iterate 5 refine hX0 _ _ _ _ ?_
  rw [hn0]
  iterate 4 refine hX0 _ _ _ _ ?_
  refine x_makeSchA hS hP hP2 hN hN2 hp hre hW hW2 hnow hH (fun a' p1 p2 p3 => ?_)
  refine hX0 _ _ _ _ ?_
  exact h0 a' p1 p2 p3

set_option maxRecDepth 100000 in
theorem x_makeSchB {d : Nat} {s : Nat → Int32} {a : Nat → Nat → Int32} {w : Bool} {Z : zH} {wi li co : Nat → Int32} {P SP W now : Nat} {Q : zQ} (hS : ISky (a 0) wi li co) (hP : s 9 = nI P) (hP2 : P ≤ 14) (hN : s 10 = nI SP) (hN2 : SP ≤ 30) (hp : ∀ i, i < SP → 0 ≤ (a 14 i).toInt ∧ (a 14 i).toInt < (P : Int)) (hre : 0 ≤ (s 31).toInt ∧ (s 31).toInt ≤ 1000) (hW : s 11 = nI W) (hW2 : W ≤ 30) (hnow : now < 2400) (hH : ∀ i, i < W → (1 ≤ (a 17 i).toInt ∧ (a 17 i).toInt ≤ 24) ∧ (1 ≤ (a 18 i).toInt ∧ (a 18 i).toInt ≤ 4)) (h0 : ∀ a' : Nat → Nat → Int32, zSm [21, 22] a a' → (∀ i, W ≤ i → a' 21 i = a 21 i ∧ a' 22 i = a 22 i) → zSch (zCan li co (a 13) (a 14) (a 15) (a 16) (a 17) (a 18) (a 19) (a 20) P SP (s 31) (s 32)) now W (a' 21) (a' 22) → Q (some (.int (nI (zlf (a' 21) W)))) (HX (va_up s 12 (nI W)) a' w ++ Z)) : zG (d + 4) 15 [.ref 17, .int (nI now), .ref 1, .ref 49] (HX s a w ++ Z) Q := by
  refine g_15 (Nat.le_of_ble_eq_true rfl) ?_
  intro X0 hX0
  have hWI : (s 11).toInt = (W : Int) := by rw [hW, nI_toInt (by omega)]
  have key : ∀ (cc j : Nat) (a' : Nat → Nat → Int32), W - j = cc → j ≤ W → zSm [21, 22] a a' → (∀ i, j ≤ i → a' 21 i = a 21 i ∧ a' 22 i = a 22 i) → zSch (zCan li co (a 13) (a 14) (a 15) (a 16) (a 17) (a 18) (a 19) (a 20) P SP (s 31) (s 32)) now j (a' 21) (a' 22) → X0 6 [some (.ref 17), some (.int (nI now)), some (.ref 1), some (.ref 49), some (.int (nI (zlf (a' 21) j))), some (.int (nI j))] [] (HX s a' w ++ Z) := by
    intro cc
    induction cc with
    | zero =>
      intro j a' z1 z2 q1 q2 q3
      have hJ : (nI j).toInt = (j : Int) := nI_toInt (by omega)
      have ej : j = W := by omega
      iterate 4 refine hX0 _ _ _ _ ?_
      refine And.intro (fun c1 => ?_) (fun c1 => ?_)
      · iterate 4 refine hX0 _ _ _ _ ?_
        rw [hW]
        refine zcast (X := X0) xs_12 ?_
        iterate 2 refine hX0 _ _ _ _ ?_
        rw [ej] at q2 q3 ⊢
        exact h0 a' q1 q2 q3
      · exfalso
        rw [fa_le] at c1
        omega
    | succ cc ih =>
      intro j a' z1 z2 q1 q2 q3
      have hJ : (nI j).toInt = (j : Int) := nI_toInt (by omega)
      have hcl : (nI j).toNatClampNeg = j := nI_clamp (by omega)
      have e0 : a' 0 = a 0 := q1 0 (by decide)
      have e13 : a' 13 = a 13 := q1 13 (by decide)
      have e14 : a' 14 = a 14 := q1 14 (by decide)
      have e15 : a' 15 = a 15 := q1 15 (by decide)
      have e16 : a' 16 = a 16 := q1 16 (by decide)
      have e17 : a' 17 = a 17 := q1 17 (by decide)
      have e18 : a' 18 = a 18 := q1 18 (by decide)
      have e19 : a' 19 = a 19 := q1 19 (by decide)
      have e20 : a' 20 = a 20 := q1 20 (by decide)
      iterate 4 refine hX0 _ _ _ _ ?_
      refine And.intro (fun c1 => ?_) (fun c1 => ?_)
      · exfalso
        rw [fa_le] at c1
        omega
      · iterate 6 refine hX0 _ _ _ _ ?_
        refine x_placeB (by rw [e0]; exact hS) hP hP2 hN hN2 (by rw [e14]; exact hp) hre (by omega) hnow (by rw [e17, e18]; exact fun i hi => hH i (by omega)) (fun i hi => zPl_v hnow (q3 i hi)) (fun a2 p1 p2 p3 => ?_)
        rw [e13, e14, e15, e16, e17, e18, e19, e20] at p3
        have q3' := zSch_s (C := (zCan li co (a 13) (a 14) (a 15) (a 16) (a 17) (a 18) (a 19) (a 20) P SP (s 31) (s 32))) (fun f g f' g' w b who h => zCan_c h) q3 p2 p3
        iterate 4 refine hX0 _ _ _ _ ?_
        refine And.intro (by exact vp_in_nI (by omega) (by omega)) ?_
        rw [hcl]
        iterate 2 refine hX0 _ _ _ _ ?_
        have el : zlf (a2 21) j = zlf (a' 21) j := zlf_c j (fun w hw => (p2 w (by omega)).1)
        have fin : ∀ n : Nat, n = zlf (a2 21) (j + 1) → X0 38 [some (.ref 17), some (.int (nI now)), some (.ref 1), some (.ref 49), some (.int (nI n)), some (.int (nI j))] [] (HX s a2 w ++ Z) := by
          intro n hn
          subst hn
          iterate 2 refine hX0 _ _ _ _ ?_
          rw [nI_1]
          exact ih (j + 1) a2 (by omega) (by omega) (zSm_trans q1 p1) (fun i hi => by rw [(p2 i (by omega)).1, (p2 i (by omega)).2]; exact q2 i (by omega)) q3'
        refine And.intro (fun c2 => ?_) (fun c2 => ?_)
        · refine fin _ ?_
          show _ = zlf (a2 21) j + (if a2 21 j = -1 then 1 else 0)
          rw [if_neg c2, el]
          rfl
        · refine hX0 _ _ _ _ ?_
          have kk := fin (zlf (a' 21) j + 1) (by show _ = zlf (a2 21) j + (if a2 21 j = -1 then 1 else 0); rw [if_pos c2, el])
          rw [← nI_1] at kk
          exact kk
  iterate 4 refine hX0 _ _ _ _ ?_
  have kk := key W 0 a rfl (by omega) zSm_refl (fun i _ => ⟨rfl, rfl⟩) (fun w hw => absurd hw (Nat.not_lt_zero w))
  exact kk
set_option maxRecDepth 100000 in
theorem x_scheduleB {d : Nat} {s : Nat → Int32} {a : Nat → Nat → Int32} {Z : zH} {wi li co : Nat → Int32} {P SP W now : Nat} {Q : zQ} (hS : ISky (a 0) wi li co) (hP : s 9 = nI P) (hP2 : P ≤ 14) (hN : s 10 = nI SP) (hN2 : SP ≤ 30) (hp : ∀ i, i < SP → 0 ≤ (a 14 i).toInt ∧ (a 14 i).toInt < (P : Int)) (hre : 0 ≤ (s 31).toInt ∧ (s 31).toInt ≤ 1000) (hW : s 11 = nI W) (hW2 : W ≤ 30) (hn0 : s 0 = nI now) (hnow : now < 2400) (hH : ∀ i, i < W → (1 ≤ (a 17 i).toInt ∧ (a 17 i).toInt ≤ 24) ∧ (1 ≤ (a 18 i).toInt ∧ (a 18 i).toInt ≤ 4)) (h0 : ∀ a' : Nat → Nat → Int32, zSm [21, 22] a a' → (∀ i, W ≤ i → a' 21 i = a 21 i ∧ a' 22 i = a 22 i) → zSch (zCan li co (a 13) (a 14) (a 15) (a 16) (a 17) (a 18) (a 19) (a 20) P SP (s 31) (s 32)) now W (a' 21) (a' 22) → Q (some (.int (nI (zlf (a' 21) W)))) (HX (va_up s 12 (nI W)) a' true ++ Z)) : zG (d + 5) 90 [.ref 0] (HX s a true ++ Z) Q := by
  refine g_90 (Nat.le_of_ble_eq_true rfl) ?_
  intro X0 hX0
  iterate 5 refine hX0 _ _ _ _ ?_
  rw [hn0]
  iterate 4 refine hX0 _ _ _ _ ?_
  refine x_makeSchB hS hP hP2 hN hN2 hp hre hW hW2 hnow hH (fun a' p1 p2 p3 => ?_)
  refine hX0 _ _ _ _ ?_
  exact h0 a' p1 p2 p3
