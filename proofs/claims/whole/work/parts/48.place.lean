/-! A WORK IS PLACED: the station -/
theorem zwf_up {F : Nat → Bool} {n P : Nat} (h : ∀ p, P ≤ p → F p = false) : ∀ c, zwf F n (P + c) = zwf F n P
  | 0 => rfl
  | c + 1 => by
    have ih := zwf_up (n := n) h c
    show (if (zwf F n (P + c)).2 < n ∧ F (P + c) = true then ((zwf F n (P + c)).1 ||| 2 ^ (P + c), (zwf F n (P + c)).2 + 1) else zwf F n (P + c)) = _
    rw [if_neg (fun z => by rw [h (P + c) (by omega)] at z; exact Bool.noConfusion z.2)]
    exact ih
/-- a set of the free: enough of them, or not -/
theorem can_no {F : Nat → Bool} {n P m who : Nat} (hP : P ≤ 14) (hF : ∀ p, p < P → F p = true → m.testBit p = true) (h : zwf F n P = (who, n)) : n ≤ zcn m.testBit 14 := by
  have h2 := zwf_2 (F := F) (n := n) P
  rw [h] at h2
  have h3 : n = min n (zcn F P) := h2
  have h4 := zcn_le P hF
  have h5 := zcn_mono (F := m.testBit) hP
  omega
theorem can_yes {F : Nat → Bool} {n P m : Nat} (hP : P ≤ 14) (hm : m < 16384) (hF : ∀ p, p < P → (F p = true ↔ m.testBit p = true)) (hF2 : ∀ p, P ≤ p → p < 14 → m.testBit p = false) (h : n ≤ zcn m.testBit 14) : zwf F n P = ((zwf m.testBit n 14).1, n) := by
  have e1 : zwf F n P = zwf m.testBit n P := zwf_c P (fun p hp => by
    have := hF p hp
    cases h1 : F p <;> cases h2 : m.testBit p <;> rw [h1, h2] at this <;> simp at this ⊢)
  have e2 : zwf m.testBit n 14 = zwf m.testBit n P := by
    have := zwf_up (F := m.testBit) (n := n) (P := P) (fun p hp => by
      rcases Nat.lt_or_ge p 14 with z | z
      · exact hF2 p hp z
      · exact Nat.testBit_lt_two_pow (Nat.lt_of_lt_of_le hm (Nat.pow_le_pow_right (by omega) z : 2 ^ 14 ≤ 2 ^ p))) (14 - P)
    rw [show P + (14 - P) = 14 by omega] at this
    exact this
  have e3 := zwf_2 (F := m.testBit) (n := n) 14
  rw [e1, ← e2]
  refine Prod.ext rfl ?_
  rw [e3]
  show min n _ = n
  omega

set_option maxRecDepth 100000 in
theorem x_placeA {d : Nat} {s : Nat → Int32} {a : Nat → Nat → Int32} {w : Bool} {Z : zH} {wi li co : Nat → Int32} {P SP v now : Nat} {Q : zQ} (hS : ISky (a 0) wi li co) (hP : s 9 = nI P) (hP2 : P ≤ 14) (hN : s 10 = nI SP) (hN2 : SP ≤ 30) (hp : ∀ i, i < SP → 0 ≤ (a 14 i).toInt ∧ (a 14 i).toInt < (P : Int)) (hre : 0 ≤ (s 26).toInt ∧ (s 26).toInt ≤ 1000) (hv : v < 30) (hnow : now < 2400) (hH : ∀ i, i ≤ v → (1 ≤ (a 17 i).toInt ∧ (a 17 i).toInt ≤ 24) ∧ (1 ≤ (a 18 i).toInt ∧ (a 18 i).toInt ≤ 4)) (hB : ∀ i, i < v → (a 21 i = -1 ∨ ∃ m q : Nat, m < 16384 ∧ a 22 i = nI m ∧ q < 3000 ∧ a 21 i = nI q)) (h0 : ∀ a' : Nat → Nat → Int32, zSm [21, 22] a a' → (∀ i, i ≠ v → a' 21 i = a 21 i ∧ a' 22 i = a 22 i) → zPl (zCan li co (a 13) (a 14) (a 15) (a 16) (a 17) (a 18) (a 19) (a 20) P SP (s 26) (s 27) (a 21) (a 22) v) now (a' 21 v) (a' 22 v) → Q none (HX s a' w ++ Z)) : zG (d + 3) 14 [.ref 17, .int (nI v), .int (nI now), .ref 1, .ref 42] (HX s a w ++ Z) Q := by
  refine g_14 (Nat.le_of_ble_eq_true rfl) ?_
  intro X0 hX0
  have hcv : (nI v).toNatClampNeg = v := nI_clamp (by omega)
  have hHv := hH v (by omega)
  have hHc := cl_int (a 17 v) (by omega)
  have eH := nI_cl (a 17 v) (by omega)
  have hNc := cl_int (a 18 v) (by omega)
  have eN := nI_cl (a 18 v) (by omega)
  obtain ⟨Hn, hHn⟩ : ∃ k, k = (a 17 v).toNatClampNeg := ⟨_, rfl⟩
  obtain ⟨Nn, hNn⟩ : ∃ k, k = (a 18 v).toNatClampNeg := ⟨_, rfl⟩
  rw [← hHn] at hHc eH
  rw [← hNn] at hNc eN
  have hNI : (nI now).toInt = (now : Int) := nI_toInt (by omega)
  have main : ∀ a' : Nat → Nat → Int32, zSm [21, 22] a a' → a' 21 = upd (a 21) v (-1) → a' 22 = upd (a 22) v (-1) → X0 14 [some (.ref 17), some (.int (nI v)), some (.int (nI now)), some (.ref 1), some (.ref 42), none, none, none, none] [] (HX s a' w ++ Z) := by
    intro a' q1 q2 q3
    have e0 : a' 0 = a 0 := q1 0 (by decide)
    have e13 : a' 13 = a 13 := q1 13 (by decide)
    have e14 : a' 14 = a 14 := q1 14 (by decide)
    have e15 : a' 15 = a 15 := q1 15 (by decide)
    have e16 : a' 16 = a 16 := q1 16 (by decide)
    have e17 : a' 17 = a 17 := q1 17 (by decide)
    have e18 : a' 18 = a 18 := q1 18 (by decide)
    have e19 : a' 19 = a 19 := q1 19 (by decide)
    have e20 : a' 20 = a 20 := q1 20 (by decide)
    have hS' : ISky (a' 0) wi li co := by rw [e0]; exact hS
    have lo : ∀ o, o < v → a' 21 o = a 21 o ∧ a' 22 o = a 22 o := by
      intro o ho
      rw [q2, q3, upd_at, upd_at, if_neg (by omega), if_neg (by omega)]
      exact ⟨rfl, rfl⟩
    have at1 : a' 21 v = -1 := by rw [q2, upd_at, if_pos rfl]
    have at2 : a' 22 v = -1 := by rw [q3, upd_at, if_pos rfl]
    have none' : (∀ b' who', now ≤ b' → b' < now + 300 → ¬ (zCan li co (a 13) (a 14) (a 15) (a 16) (a 17) (a 18) (a 19) (a 20) P SP (s 26) (s 27) (a 21) (a 22) v) b' who') → Q none (HX s a' w ++ Z) := by
      intro hn
      refine h0 a' q1 (fun i hi => ?_) (Or.inr ⟨at1, at2, hn⟩)
      rw [q2, q3, upd_at, upd_at, if_neg hi, if_neg hi]
      exact ⟨rfl, rfl⟩
    iterate 3 refine hX0 _ _ _ _ ?_
    refine x_skilled hP hP2 hv (fun x hx => ?_)
    rw [e13, e19] at hx
    obtain ⟨m, hm, rfl, hmb⟩ := zMk_num hx
    iterate 3 refine hX0 _ _ _ _ ?_
    refine x_bitCount hm ?_
    have hcnt : zcn m.testBit 14 ≤ 14 := by
      have z := zcn_le (F := m.testBit) (G := fun _ => true) 14 (fun _ _ _ => rfl)
      exact Nat.le_trans z (by decide)
    iterate 4 refine hX0 _ _ _ _ ?_
    refine And.intro (by exact vp_in_nI (by omega) (by omega)) ?_
    rw [hcv, e18, eN]
    refine hX0 _ _ _ _ ?_
    refine And.intro (fun c1 => ?_) (fun c1 => ?_)
    rotate_left
    · refine hX0 _ _ _ _ ?_
      refine none' (fun b' who' y1 y2 y3 => ?_)
      rw [fa_le, nI_toInt (by omega), nI_toInt (by omega)] at c1
      have z := can_no (m := m) hP2 (fun p hp z => (hmb p (by omega)).mpr ⟨hp, (zdc_t.mp z).1⟩) y3.2.2
      omega
    · have loop : ∀ (L : Int32), (L.toInt ≤ (now : Int) + 299 ∧ L.toInt ≤ 2400 - (Hn : Int) ∧ (L.toInt = (now : Int) + 299 ∨ L.toInt = 2400 - (Hn : Int))) → ∀ (cc b : Nat) (o8 : Option Value), (L.toInt + 1 - (b : Int)).toNat = cc → now ≤ b → b ≤ now + 300 → (∀ b' who', now ≤ b' → b' < b → ¬ (zCan li co (a 13) (a 14) (a 15) (a 16) (a 17) (a 18) (a 19) (a 20) P SP (s 26) (s 27) (a 21) (a 22) v) b' who') → X0 61 [some (.ref 17), some (.int (nI v)), some (.int (nI now)), some (.ref 1), some (.ref 42), some (.int (nI m)), some (.int L), some (.int (nI b)), o8] [] (HX s a' w ++ Z) := by
        intro L hL cc
        induction cc with
        | zero =>
          intro b o8 z1 z2 z3 z4
          have hb : (nI b).toInt = (b : Int) := nI_toInt (by omega)
          iterate 3 refine hX0 _ _ _ _ ?_
          refine And.intro (fun c2 => ?_) (fun c2 => ?_)
          · refine hX0 _ _ _ _ ?_
            refine none' (fun b' who' y1 y2 y3 => ?_)
            rcases Nat.lt_or_ge b' b with y4 | y4
            · exact z4 b' who' y1 y4 y3
            · have y5 : (b' : Int) + (a 17 v).toInt ≤ 2400 := y3.1
              omega
          · exfalso
            rw [fa_lt] at c2
            omega
        | succ cc ih =>
          intro b o8 z1 z2 z3 z4
          have hb : (nI b).toInt = (b : Int) := nI_toInt (by omega)
          have hk : b + Hn ≤ 2400 := by omega
          have nxt : ∀ o8 : Option Value, (∀ who', ¬ (zCan li co (a 13) (a 14) (a 15) (a 16) (a 17) (a 18) (a 19) (a 20) P SP (s 26) (s 27) (a 21) (a 22) v) b who') → X0 163 [some (.ref 17), some (.int (nI v)), some (.int (nI now)), some (.ref 1), some (.ref 42), some (.int (nI m)), some (.int L), some (.int (nI b)), o8] [] (HX s a' w ++ Z) := by
            intro o8 y
            iterate 2 refine hX0 _ _ _ _ ?_
            rw [nI_1]
            refine ih (b + 1) o8 (by omega) (by omega) (by omega) (fun b' who' y1 y2 => ?_)
            rcases Nat.lt_or_ge b' b with y4 | y4
            · exact z4 b' who' y1 y4
            · rw [show b' = b by omega]
              exact y who'
          iterate 3 refine hX0 _ _ _ _ ?_
          refine And.intro (fun c2 => ?_) (fun c2 => ?_)
          · exfalso
            rw [fa_lt] at c2
            omega
          · iterate 7 refine hX0 _ _ _ _ ?_
            refine x_weatherFor (Hn := Hn) hS' hv (by rw [e17]; exact eH) (by omega) hk (fun c3 => ?_) (fun c3 => ?_)
            rotate_left
            · refine hX0 _ _ _ _ ?_
              refine And.intro (fun _ => ?_) (fun c => absurd c (by decide))
              rw [e17, e20] at c3
              exact nxt _ (fun who' y => c3 y.2.1)
            · refine hX0 _ _ _ _ ?_
              refine And.intro (fun c => absurd c (by decide)) (fun _ => ?_)
              rw [e17, e20] at c3
              iterate 8 refine hX0 _ _ _ _ ?_
              refine And.intro (by exact vp_in_nI (by omega) (by omega)) ?_
              rw [hcv, e17]
              iterate 4 refine hX0 _ _ _ _ ?_
              refine x_ill2 hN hN2 hP2 (by rw [e14]; exact hp) (fun x2 hx2 => ?_)
              have hl : (nI b + a 17 v - 1).toInt = (b : Int) + (a 17 v).toInt - 1 := by
                rw [i32_sub (by rw [i32_add (by rw [hb]; omega), hb]; have : (1 : Int32).toInt = 1 := rfl; omega), i32_add (by rw [hb]; omega), hb]
                rfl
              rw [e14, e15, e16, hl, hb] at hx2
              iterate 9 refine hX0 _ _ _ _ ?_
              refine x_busy hv (by omega) hre (by rw [e17]; exact fun i hi => (hH i hi).1) (fun i hi => by rw [(lo i hi).1, (lo i hi).2]; exact hB i hi) (fun x3 hx3 => ?_)
              rw [e17] at hx3
              have hfree := zMk_and (zMk_and hx hx2) hx3
              obtain ⟨m2, hm2, em2, hmb2⟩ := zMk_num hfree
              have hfr : ∀ p, p < 14 → (m2.testBit p = true ↔ p < P ∧ zFr (a 13) (a 14) (a 15) (a 16) (a 17) (a 19) SP (s 26) (a 21) (a 22) v b p) := by
                intro p hp14
                rw [hmb2 p hp14]
                constructor
                · rintro ⟨⟨⟨y1, y2⟩, y3⟩, y4⟩
                  refine ⟨y1, y2, fun k hk z => y3 ⟨k, hk, z.1, by omega, by omega⟩, fun o ho z => y4 ⟨o, ho, ?_⟩⟩
                  rw [(lo o ho).1, (lo o ho).2]
                  exact z
                · rintro ⟨y1, y2, y3, y4⟩
                  refine ⟨⟨⟨y1, y2⟩, ?_⟩, ?_⟩
                  · rintro ⟨k, hk, z1, z2, z3⟩
                    exact y3 k hk ⟨z1, by omega, by omega⟩
                  · rintro ⟨o, ho, z⟩
                    rw [(lo o ho).1, (lo o ho).2] at z
                    exact y4 o ho z
              iterate 4 refine hX0 _ _ _ _ ?_
              rw [em2]
              iterate 2 refine hX0 _ _ _ _ ?_
              refine x_bitCount hm2 ?_
              have hcnt2 : zcn m2.testBit 14 ≤ 14 := by
                have z := zcn_le (F := m2.testBit) (G := fun _ => true) 14 (fun _ _ _ => rfl)
                exact Nat.le_trans z (by decide)
              iterate 4 refine hX0 _ _ _ _ ?_
              refine And.intro (by exact vp_in_nI (by omega) (by omega)) ?_
              rw [hcv, e18, eN]
              refine hX0 _ _ _ _ ?_
              refine And.intro (fun c4 => ?_) (fun c4 => ?_)
              · rw [fa_lt, nI_toInt (by omega), nI_toInt (by omega)] at c4
                refine nxt _ (fun who' y => ?_)
                have z := can_no (m := m2) hP2 (fun p hp z => (hfr p (by omega)).mpr ⟨hp, zdc_t.mp z⟩) y.2.2
                omega
              · rw [fa_lt, nI_toInt (by omega), nI_toInt (by omega)] at c4
                have hyes := can_yes (F := fun p => zdc (zFr (a 13) (a 14) (a 15) (a 16) (a 17) (a 19) SP (s 26) (a 21) (a 22) v b p)) (n := Nn) (m := m2) hP2 hm2 (fun p hp => by rw [zdc_t, hfr p (by omega)]; exact ⟨fun z => ⟨hp, z⟩, fun z => z.2⟩) (fun p y1 y2 => by cases hb3 : m2.testBit p with
                  | false => rfl
                  | true => exact absurd ((hfr p y2).mp hb3).1 (by omega)) (by omega)
                iterate 5 refine hX0 _ _ _ _ ?_
                refine And.intro (by exact vp_in_nI (by omega) (by omega)) ?_
                refine zcast (X := X0) xa_21 ?_
                rw [hcv]
                iterate 8 refine hX0 _ _ _ _ ?_
                refine And.intro (by exact vp_in_nI (by omega) (by omega)) ?_
                rw [hcv]
                have e18' : va_up a' 21 (upd (a' 21) v (nI b)) 18 v = nI Nn := by
                  show a' 18 v = nI Nn
                  rw [e18]
                  exact eN
                rw [e18']
                refine hX0 _ _ _ _ ?_
                refine x_lowest hm2 (by omega) ?_
                refine hX0 _ _ _ _ ?_
                refine And.intro (by exact vp_in_nI (by omega) (by omega)) ?_
                refine zcast (X := X0) xa_22 ?_
                rw [hcv]
                refine hX0 _ _ _ _ ?_
                refine h0 _ (zSm_up (by decide) (zSm_up (by decide) q1)) (fun i hi => ?_) ?_
                · show upd (a' 21) v (nI b) i = a 21 i ∧ upd (a' 22) v (nI (zwf m2.testBit Nn 14).1) i = a 22 i
                  rw [q2, q3, upd_at, upd_at, upd_at, upd_at, if_neg hi, if_neg hi, if_neg hi, if_neg hi]
                  exact ⟨rfl, rfl⟩
                · refine Or.inl ⟨b, (zwf m2.testBit Nn 14).1, ⟨z2, by omega⟩, zwf_lt (P := 14), ?_, ?_, ⟨by omega, c3, by rw [← hNn]; exact hyes⟩, z4⟩
                  · show upd (a' 21) v (nI b) v = nI b
                    rw [upd_at, if_pos rfl]
                  · show upd (a' 22) v (nI (zwf m2.testBit Nn 14).1) v = nI (zwf m2.testBit Nn 14).1
                    rw [upd_at, if_pos rfl]
      iterate 10 refine hX0 _ _ _ _ ?_
      refine And.intro (by exact vp_in_nI (by omega) (by omega)) ?_
      rw [hcv, e17]
      iterate 5 refine hX0 _ _ _ _ ?_
      have h299 : (nI now + 300 - 1).toInt = (now : Int) + 299 := by
        rw [i32_sub (by rw [i32_add (by rw [hNI]; have : (300 : Int32).toInt = 300 := rfl; omega), hNI]; have : (1 : Int32).toInt = 1 := rfl; have : (300 : Int32).toInt = 300 := rfl; omega), i32_add (by rw [hNI]; have : (300 : Int32).toInt = 300 := rfl; omega), hNI]
        have h1 : (1 : Int32).toInt = 1 := rfl
        have h2 : (300 : Int32).toInt = 300 := rfl
        omega
      have h24 : (2400 - a 17 v).toInt = 2400 - (a 17 v).toInt := by
        rw [i32_sub (by have : (2400 : Int32).toInt = 2400 := rfl; omega)]
        rfl
      refine loop _ ?_ _ now none rfl (by omega) (by omega) (fun b' who' y1 y2 => absurd y1 (by omega))
      split
      · next c5 => rw [fa_lt, h299, h24] at c5; rw [h24]; omega
      · next c5 => rw [fa_lt, h299, h24] at c5; rw [h299]; omega
  iterate 5 refine hX0 _ _ _ _ ?_
  refine And.intro (by exact vp_in_nI (by omega) (by omega)) ?_
  refine zcast (X := X0) xa_21 ?_
  rw [hcv]
  iterate 5 refine hX0 _ _ _ _ ?_
  refine And.intro (by exact vp_in_nI (by omega) (by omega)) ?_
  refine zcast (X := X0) xa_22 ?_
  rw [hcv]
  exact main _ (zSm_up (by decide) (zSm_up (by decide) zSm_refl)) rfl rfl

set_option maxRecDepth 100000 in
theorem x_placeB {d : Nat} {s : Nat → Int32} {a : Nat → Nat → Int32} {w : Bool} {Z : zH} {wi li co : Nat → Int32} {P SP v now : Nat} {Q : zQ} (hS : ISky (a 0) wi li co) (hP : s 9 = nI P) (hP2 : P ≤ 14) (hN : s 10 = nI SP) (hN2 : SP ≤ 30) (hp : ∀ i, i < SP → 0 ≤ (a 14 i).toInt ∧ (a 14 i).toInt < (P : Int)) (hre : 0 ≤ (s 31).toInt ∧ (s 31).toInt ≤ 1000) (hv : v < 30) (hnow : now < 2400) (hH : ∀ i, i ≤ v → (1 ≤ (a 17 i).toInt ∧ (a 17 i).toInt ≤ 24) ∧ (1 ≤ (a 18 i).toInt ∧ (a 18 i).toInt ≤ 4)) (hB : ∀ i, i < v → (a 21 i = -1 ∨ ∃ m q : Nat, m < 16384 ∧ a 22 i = nI m ∧ q < 3000 ∧ a 21 i = nI q)) (h0 : ∀ a' : Nat → Nat → Int32, zSm [21, 22] a a' → (∀ i, i ≠ v → a' 21 i = a 21 i ∧ a' 22 i = a 22 i) → zPl (zCan li co (a 13) (a 14) (a 15) (a 16) (a 17) (a 18) (a 19) (a 20) P SP (s 31) (s 32) (a 21) (a 22) v) now (a' 21 v) (a' 22 v) → Q none (HX s a' w ++ Z)) : zG (d + 3) 14 [.ref 17, .int (nI v), .int (nI now), .ref 1, .ref 49] (HX s a w ++ Z) Q := by
  refine g_14 (Nat.le_of_ble_eq_true rfl) ?_
  intro X0 hX0
  have hcv : (nI v).toNatClampNeg = v := nI_clamp (by omega)
  have hHv := hH v (by omega)
  have hHc := cl_int (a 17 v) (by omega)
  have eH := nI_cl (a 17 v) (by omega)
  have hNc := cl_int (a 18 v) (by omega)
  have eN := nI_cl (a 18 v) (by omega)
  obtain ⟨Hn, hHn⟩ : ∃ k, k = (a 17 v).toNatClampNeg := ⟨_, rfl⟩
  obtain ⟨Nn, hNn⟩ : ∃ k, k = (a 18 v).toNatClampNeg := ⟨_, rfl⟩
  rw [← hHn] at hHc eH
  rw [← hNn] at hNc eN
  have hNI : (nI now).toInt = (now : Int) := nI_toInt (by omega)
  have main : ∀ a' : Nat → Nat → Int32, zSm [21, 22] a a' → a' 21 = upd (a 21) v (-1) → a' 22 = upd (a 22) v (-1) → X0 14 [some (.ref 17), some (.int (nI v)), some (.int (nI now)), some (.ref 1), some (.ref 49), none, none, none, none] [] (HX s a' w ++ Z) := by
    intro a' q1 q2 q3
    have e0 : a' 0 = a 0 := q1 0 (by decide)
    have e13 : a' 13 = a 13 := q1 13 (by decide)
    have e14 : a' 14 = a 14 := q1 14 (by decide)
    have e15 : a' 15 = a 15 := q1 15 (by decide)
    have e16 : a' 16 = a 16 := q1 16 (by decide)
    have e17 : a' 17 = a 17 := q1 17 (by decide)
    have e18 : a' 18 = a 18 := q1 18 (by decide)
    have e19 : a' 19 = a 19 := q1 19 (by decide)
    have e20 : a' 20 = a 20 := q1 20 (by decide)
    have hS' : ISky (a' 0) wi li co := by rw [e0]; exact hS
    have lo : ∀ o, o < v → a' 21 o = a 21 o ∧ a' 22 o = a 22 o := by
      intro o ho
      rw [q2, q3, upd_at, upd_at, if_neg (by omega), if_neg (by omega)]
      exact ⟨rfl, rfl⟩
    have at1 : a' 21 v = -1 := by rw [q2, upd_at, if_pos rfl]
    have at2 : a' 22 v = -1 := by rw [q3, upd_at, if_pos rfl]
    have none' : (∀ b' who', now ≤ b' → b' < now + 300 → ¬ (zCan li co (a 13) (a 14) (a 15) (a 16) (a 17) (a 18) (a 19) (a 20) P SP (s 31) (s 32) (a 21) (a 22) v) b' who') → Q none (HX s a' w ++ Z) := by
      intro hn
      refine h0 a' q1 (fun i hi => ?_) (Or.inr ⟨at1, at2, hn⟩)
      rw [q2, q3, upd_at, upd_at, if_neg hi, if_neg hi]
      exact ⟨rfl, rfl⟩
    iterate 3 refine hX0 _ _ _ _ ?_
    refine x_skilled hP hP2 hv (fun x hx => ?_)
    rw [e13, e19] at hx
    obtain ⟨m, hm, rfl, hmb⟩ := zMk_num hx
    iterate 3 refine hX0 _ _ _ _ ?_
    refine x_bitCount hm ?_
    have hcnt : zcn m.testBit 14 ≤ 14 := by
      have z := zcn_le (F := m.testBit) (G := fun _ => true) 14 (fun _ _ _ => rfl)
      exact Nat.le_trans z (by decide)
    iterate 4 refine hX0 _ _ _ _ ?_
    refine And.intro (by exact vp_in_nI (by omega) (by omega)) ?_
    rw [hcv, e18, eN]
    refine hX0 _ _ _ _ ?_
    refine And.intro (fun c1 => ?_) (fun c1 => ?_)
    rotate_left
    · refine hX0 _ _ _ _ ?_
      refine none' (fun b' who' y1 y2 y3 => ?_)
      rw [fa_le, nI_toInt (by omega), nI_toInt (by omega)] at c1
      have z := can_no (m := m) hP2 (fun p hp z => (hmb p (by omega)).mpr ⟨hp, (zdc_t.mp z).1⟩) y3.2.2
      omega
    · have loop : ∀ (L : Int32), (L.toInt ≤ (now : Int) + 299 ∧ L.toInt ≤ 2400 - (Hn : Int) ∧ (L.toInt = (now : Int) + 299 ∨ L.toInt = 2400 - (Hn : Int))) → ∀ (cc b : Nat) (o8 : Option Value), (L.toInt + 1 - (b : Int)).toNat = cc → now ≤ b → b ≤ now + 300 → (∀ b' who', now ≤ b' → b' < b → ¬ (zCan li co (a 13) (a 14) (a 15) (a 16) (a 17) (a 18) (a 19) (a 20) P SP (s 31) (s 32) (a 21) (a 22) v) b' who') → X0 61 [some (.ref 17), some (.int (nI v)), some (.int (nI now)), some (.ref 1), some (.ref 49), some (.int (nI m)), some (.int L), some (.int (nI b)), o8] [] (HX s a' w ++ Z) := by
        intro L hL cc
        induction cc with
        | zero =>
          intro b o8 z1 z2 z3 z4
          have hb : (nI b).toInt = (b : Int) := nI_toInt (by omega)
          iterate 3 refine hX0 _ _ _ _ ?_
          refine And.intro (fun c2 => ?_) (fun c2 => ?_)
          · refine hX0 _ _ _ _ ?_
            refine none' (fun b' who' y1 y2 y3 => ?_)
            rcases Nat.lt_or_ge b' b with y4 | y4
            · exact z4 b' who' y1 y4 y3
            · have y5 : (b' : Int) + (a 17 v).toInt ≤ 2400 := y3.1
              omega
          · exfalso
            rw [fa_lt] at c2
            omega
        | succ cc ih =>
          intro b o8 z1 z2 z3 z4
          have hb : (nI b).toInt = (b : Int) := nI_toInt (by omega)
          have hk : b + Hn ≤ 2400 := by omega
          have nxt : ∀ o8 : Option Value, (∀ who', ¬ (zCan li co (a 13) (a 14) (a 15) (a 16) (a 17) (a 18) (a 19) (a 20) P SP (s 31) (s 32) (a 21) (a 22) v) b who') → X0 163 [some (.ref 17), some (.int (nI v)), some (.int (nI now)), some (.ref 1), some (.ref 49), some (.int (nI m)), some (.int L), some (.int (nI b)), o8] [] (HX s a' w ++ Z) := by
            intro o8 y
            iterate 2 refine hX0 _ _ _ _ ?_
            rw [nI_1]
            refine ih (b + 1) o8 (by omega) (by omega) (by omega) (fun b' who' y1 y2 => ?_)
            rcases Nat.lt_or_ge b' b with y4 | y4
            · exact z4 b' who' y1 y4
            · rw [show b' = b by omega]
              exact y who'
          iterate 3 refine hX0 _ _ _ _ ?_
          refine And.intro (fun c2 => ?_) (fun c2 => ?_)
          · exfalso
            rw [fa_lt] at c2
            omega
          · iterate 7 refine hX0 _ _ _ _ ?_
            refine x_weatherFor (Hn := Hn) hS' hv (by rw [e17]; exact eH) (by omega) hk (fun c3 => ?_) (fun c3 => ?_)
            rotate_left
            · refine hX0 _ _ _ _ ?_
              refine And.intro (fun _ => ?_) (fun c => absurd c (by decide))
              rw [e17, e20] at c3
              exact nxt _ (fun who' y => c3 y.2.1)
            · refine hX0 _ _ _ _ ?_
              refine And.intro (fun c => absurd c (by decide)) (fun _ => ?_)
              rw [e17, e20] at c3
              iterate 8 refine hX0 _ _ _ _ ?_
              refine And.intro (by exact vp_in_nI (by omega) (by omega)) ?_
              rw [hcv, e17]
              iterate 4 refine hX0 _ _ _ _ ?_
              refine x_ill2 hN hN2 hP2 (by rw [e14]; exact hp) (fun x2 hx2 => ?_)
              have hl : (nI b + a 17 v - 1).toInt = (b : Int) + (a 17 v).toInt - 1 := by
                rw [i32_sub (by rw [i32_add (by rw [hb]; omega), hb]; have : (1 : Int32).toInt = 1 := rfl; omega), i32_add (by rw [hb]; omega), hb]
                rfl
              rw [e14, e15, e16, hl, hb] at hx2
              iterate 9 refine hX0 _ _ _ _ ?_
              refine x_busy hv (by omega) hre (by rw [e17]; exact fun i hi => (hH i hi).1) (fun i hi => by rw [(lo i hi).1, (lo i hi).2]; exact hB i hi) (fun x3 hx3 => ?_)
              rw [e17] at hx3
              have hfree := zMk_and (zMk_and hx hx2) hx3
              obtain ⟨m2, hm2, em2, hmb2⟩ := zMk_num hfree
              have hfr : ∀ p, p < 14 → (m2.testBit p = true ↔ p < P ∧ zFr (a 13) (a 14) (a 15) (a 16) (a 17) (a 19) SP (s 31) (a 21) (a 22) v b p) := by
                intro p hp14
                rw [hmb2 p hp14]
                constructor
                · rintro ⟨⟨⟨y1, y2⟩, y3⟩, y4⟩
                  refine ⟨y1, y2, fun k hk z => y3 ⟨k, hk, z.1, by omega, by omega⟩, fun o ho z => y4 ⟨o, ho, ?_⟩⟩
                  rw [(lo o ho).1, (lo o ho).2]
                  exact z
                · rintro ⟨y1, y2, y3, y4⟩
                  refine ⟨⟨⟨y1, y2⟩, ?_⟩, ?_⟩
                  · rintro ⟨k, hk, z1, z2, z3⟩
                    exact y3 k hk ⟨z1, by omega, by omega⟩
                  · rintro ⟨o, ho, z⟩
                    rw [(lo o ho).1, (lo o ho).2] at z
                    exact y4 o ho z
              iterate 4 refine hX0 _ _ _ _ ?_
              rw [em2]
              iterate 2 refine hX0 _ _ _ _ ?_
              refine x_bitCount hm2 ?_
              have hcnt2 : zcn m2.testBit 14 ≤ 14 := by
                have z := zcn_le (F := m2.testBit) (G := fun _ => true) 14 (fun _ _ _ => rfl)
                exact Nat.le_trans z (by decide)
              iterate 4 refine hX0 _ _ _ _ ?_
              refine And.intro (by exact vp_in_nI (by omega) (by omega)) ?_
              rw [hcv, e18, eN]
              refine hX0 _ _ _ _ ?_
              refine And.intro (fun c4 => ?_) (fun c4 => ?_)
              · rw [fa_lt, nI_toInt (by omega), nI_toInt (by omega)] at c4
                refine nxt _ (fun who' y => ?_)
                have z := can_no (m := m2) hP2 (fun p hp z => (hfr p (by omega)).mpr ⟨hp, zdc_t.mp z⟩) y.2.2
                omega
              · rw [fa_lt, nI_toInt (by omega), nI_toInt (by omega)] at c4
                have hyes := can_yes (F := fun p => zdc (zFr (a 13) (a 14) (a 15) (a 16) (a 17) (a 19) SP (s 31) (a 21) (a 22) v b p)) (n := Nn) (m := m2) hP2 hm2 (fun p hp => by rw [zdc_t, hfr p (by omega)]; exact ⟨fun z => ⟨hp, z⟩, fun z => z.2⟩) (fun p y1 y2 => by cases hb3 : m2.testBit p with
                  | false => rfl
                  | true => exact absurd ((hfr p y2).mp hb3).1 (by omega)) (by omega)
                iterate 5 refine hX0 _ _ _ _ ?_
                refine And.intro (by exact vp_in_nI (by omega) (by omega)) ?_
                refine zcast (X := X0) xa_21 ?_
                rw [hcv]
                iterate 8 refine hX0 _ _ _ _ ?_
                refine And.intro (by exact vp_in_nI (by omega) (by omega)) ?_
                rw [hcv]
                have e18' : va_up a' 21 (upd (a' 21) v (nI b)) 18 v = nI Nn := by
                  show a' 18 v = nI Nn
                  rw [e18]
                  exact eN
                rw [e18']
                refine hX0 _ _ _ _ ?_
                refine x_lowest hm2 (by omega) ?_
                refine hX0 _ _ _ _ ?_
                refine And.intro (by exact vp_in_nI (by omega) (by omega)) ?_
                refine zcast (X := X0) xa_22 ?_
                rw [hcv]
                refine hX0 _ _ _ _ ?_
                refine h0 _ (zSm_up (by decide) (zSm_up (by decide) q1)) (fun i hi => ?_) ?_
                · show upd (a' 21) v (nI b) i = a 21 i ∧ upd (a' 22) v (nI (zwf m2.testBit Nn 14).1) i = a 22 i
                  rw [q2, q3, upd_at, upd_at, upd_at, upd_at, if_neg hi, if_neg hi, if_neg hi, if_neg hi]
                  exact ⟨rfl, rfl⟩
                · refine Or.inl ⟨b, (zwf m2.testBit Nn 14).1, ⟨z2, by omega⟩, zwf_lt (P := 14), ?_, ?_, ⟨by omega, c3, by rw [← hNn]; exact hyes⟩, z4⟩
                  · show upd (a' 21) v (nI b) v = nI b
                    rw [upd_at, if_pos rfl]
                  · show upd (a' 22) v (nI (zwf m2.testBit Nn 14).1) v = nI (zwf m2.testBit Nn 14).1
                    rw [upd_at, if_pos rfl]
      iterate 10 refine hX0 _ _ _ _ ?_
      refine And.intro (by exact vp_in_nI (by omega) (by omega)) ?_
      rw [hcv, e17]
      iterate 5 refine hX0 _ _ _ _ ?_
      have h299 : (nI now + 300 - 1).toInt = (now : Int) + 299 := by
        rw [i32_sub (by rw [i32_add (by rw [hNI]; have : (300 : Int32).toInt = 300 := rfl; omega), hNI]; have : (1 : Int32).toInt = 1 := rfl; have : (300 : Int32).toInt = 300 := rfl; omega), i32_add (by rw [hNI]; have : (300 : Int32).toInt = 300 := rfl; omega), hNI]
        have h1 : (1 : Int32).toInt = 1 := rfl
        have h2 : (300 : Int32).toInt = 300 := rfl
        omega
      have h24 : (2400 - a 17 v).toInt = 2400 - (a 17 v).toInt := by
        rw [i32_sub (by have : (2400 : Int32).toInt = 2400 := rfl; omega)]
        rfl
      refine loop _ ?_ _ now none rfl (by omega) (by omega) (fun b' who' y1 y2 => absurd y1 (by omega))
      split
      · next c5 => rw [fa_lt, h299, h24] at c5; rw [h24]; omega
      · next c5 => rw [fa_lt, h299, h24] at c5; rw [h299]; omega
  iterate 5 refine hX0 _ _ _ _ ?_
  refine And.intro (by exact vp_in_nI (by omega) (by omega)) ?_
  refine zcast (X := X0) xa_21 ?_
  rw [hcv]
  iterate 5 refine hX0 _ _ _ _ ?_
  refine And.intro (by exact vp_in_nI (by omega) (by omega)) ?_
  refine zcast (X := X0) xa_22 ?_
  rw [hcv]
  exact main _ (zSm_up (by decide) (zSm_up (by decide) zSm_refl)) rfl rfl
