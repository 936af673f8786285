/-! A PLAN OF THE STATION, whole -/
theorem zbs_e (P : Nat → Bool) (f : Nat → Int) (k : Nat) : zbs P f (k + 1) = if P k = true ∧ f k < (zbs P f k).1 then (f k, k) else zbs P f k := rfl
theorem zbs_c {P P' : Nat → Bool} {f f' : Nat → Int} : ∀ K, (∀ j, j < K → P j = P' j ∧ f j = f' j) → zbs P f K = zbs P' f' K
  | 0, _ => rfl
  | K + 1, h => by
    rw [zbs_e, zbs_e, zbs_c K (fun j hj => h j (by omega)), (h K (by omega)).1, (h K (by omega)).2]
theorem zfv_e (L : Nat → Nat → Int32) (S B : Nat → Int32) (K n i bf st : Nat) : zfv L S B K n i bf st = (B st).toInt + zFu L S B K n (n - (i + 1)) st + (S (zdf st bf)).toInt := rfl
theorem zPm_e (L : Nat → Nat → Int32) (K i st : Nat) : zPm L K i st = decide (L i st = L i (K - 1)) := rfl
theorem zFu_0 (L : Nat → Nat → Int32) (S B : Nat → Int32) (K n st : Nat) : zFu L S B K n 0 st = 0 := rfl
theorem zWz_0 (L : Nat → Nat → Int32) (S B : Nat → Int32) (K n on : Nat) : zWz L S B K n on 0 = on := rfl
theorem zWz_s (L : Nat → Nat → Int32) (S B : Nat → Int32) (K n on i : Nat) : zWz L S B K n on (i + 1) = zCh L S B K n i (zWz L S B K n on i) := rfl
theorem nm1 {n : Nat} (hn : n < 2 ^ 30) : (nI n - 1).toInt = (n : Int) - 1 := by
  have h1 : (1 : Int32).toInt = 1 := rfl
  rw [i32_sub (by rw [nI_toInt (by omega)]; omega), nI_toInt (by omega), h1]
theorem pm1 {k : Nat} (hk : k < 2 ^ 30) : (nI k + -1).toInt = (k : Int) - 1 := by
  have h1 : (-1 : Int32).toInt = -1 := rfl
  rw [i32_add (by rw [nI_toInt (by omega)]; omega), nI_toInt (by omega), h1]
  rfl
theorem zacc_i {L : Nat → Nat → Int32} {S B : Nat → Int32} {K n : Nat} {f : Nat → Int32} (h : zPD L S B K n) (hf : ∀ i, i < n → f i = L i (K - 1)) : ∀ i, i ≤ n → (zacc f i).toInt + zLm L K n (n - i) = zLm L K n n ∧ 0 ≤ (zacc f i).toInt
  | 0, _ => by
    show (0 : Int32).toInt + _ = _ ∧ 0 ≤ (0 : Int32).toInt
    rw [show (0 : Int32).toInt = 0 from rfl]
    exact ⟨by rw [Nat.sub_zero]; omega, Int.le_refl _⟩
  | i + 1, hi => by
    have ih := zacc_i h hf i (by omega)
    have e := zLm_s (L := L) (K := K) (show i < n by omega)
    have b1 := zLm_b h n (Nat.le_refl n)
    have b2 := zLm_b h (n - (i + 1)) (by omega)
    have b3 := (h.2.2.2.2 i (K - 1) (by omega) (by have := h.1; omega)).1
    have h100 := h.2.2.1
    have e2 : (zacc f (i + 1)).toInt = (zacc f i).toInt + (L i (K - 1)).toInt := by
      show (zacc f i + f i).toInt = _
      rw [hf i (by omega), i32_add (by omega)]
    omega

set_option maxRecDepth 100000 in
theorem x_makePlanA {d : Nat} {s : Nat → Int32} {a : Nat → Nat → Int32} {w : Bool} {Z : zH} {wi li co : Nat → Int32} {E K now on : Nat} {ND : Nat → Int32} {x : Int32} {Q : zQ} (hS : ISky (a 0) wi li co) {I : Nat} {F : Nat → Nat} (hI : s 25 = nI I) (hI20 : I ≤ 20) (hF0 : F 0 = 0) (hF : ∀ i, i < I → F i ≤ F (i + 1) ∧ a 38 i = nI (F (i + 1))) (hF60 : ∀ i, i ≤ I → F i ≤ 60) (hND : ∀ k, k < 2400 → a 5 (k % 24) - a 5 (k % 24) * (zra (fun i => zhd (fun j => zTs (zsee (a 34 j) (wi k) (co k) (nI (k % 24))) (a 36 j) (a 35 j)) (fun j => decide (¬ a 37 j = 0)) (F (i + 1) - F i) (F i) true) (a 39) I 0 0) / 100 - a 4 (wi k).toNatClampNeg = ND k) (hE : s 6 = nI E) (hE4 : E ≤ 4) (hK : K = 2 ^ E) (hon : s 5 = nI on) (hon2 : on < K) (hnow : now < 2400) (hPD : ∀ n, n ≤ 100 → now + n ≤ 2400 → zPD (fun i st => zlk (ND (now + i)) (a 1 st)) (a 2) (a 3) K n) (h0 : ¬ ((1 ≤ x.toInt ∧ x.toInt ≤ 100) ∧ (now : Int) + x.toInt ≤ 2400) → Q (some (.int (-1))) (HX s a w ++ Z)) (h1 : ∀ (n : Nat) (s' : Nat → Int32) (a' : Nat → Nat → Int32) (r : Int32), x = nI n → ((1 ≤ n ∧ n ≤ 100) ∧ now + n ≤ 2400) → zSm [3, 4] s s' → zSm [6, 7, 8, 9, 10] a a' → s' 3 = nI n → (s' 4).toInt = zLm (fun i st => zlk (ND (now + i)) (a 1 st)) K n n → (∀ i, i < n → a' 9 i = nI (zWz (fun i st => zlk (ND (now + i)) (a 1 st)) (a 2) (a 3) K n on (i + 1)) ∧ a' 10 i = zlk (ND (now + i)) (a 1 (K - 1))) → r.toInt = zFu (fun i st => zlk (ND (now + i)) (a 1 st)) (a 2) (a 3) K n n on → Q (some (.int r)) (HX s' a' w ++ Z)) : zG (d + 6) 31 [.ref 3, .int (nI now), .int x, .ref 1, .ref 42] (HX s a w ++ Z) Q := by
  refine g_31 (Nat.le_of_ble_eq_true rfl) ?_
  intro X0 hX0
  have hK16 : K ≤ 16 := by rw [hK]; exact (pow_sh E hE4).2.2
  have hNW : (nI now).toInt = (now : Int) := nI_toInt (by omega)
  by_cases hx : (1 ≤ x.toInt ∧ x.toInt ≤ 100) ∧ (now : Int) + x.toInt ≤ 2400
  · have hxc := cl_int x (by omega)
    have ex := nI_cl x (by omega)
    generalize x.toNatClampNeg = n at *
    subst ex
    have hD := hPD n (by omega) (by omega)
    have hn : n ≤ 100 := by omega
    have main : ∀ (k : Nat) (iv : Int32) (o6 : Option Value) (a' : Nat → Nat → Int32), iv.toInt = (k : Int) - 1 → k ≤ n → zSm [6, 7, 8, 10] a a' → (∀ bf, bf < K → (a' 8 bf).toInt = zFu (fun i st => zlk (ND (now + i)) (a 1 st)) (a 2) (a 3) K n (n - k) bf) → (∀ i, k ≤ i → i < n → (∀ bf, bf < K → a' 6 (16 * i + bf) = nI (zCh (fun i st => zlk (ND (now + i)) (a 1 st)) (a 2) (a 3) K n i bf)) ∧ a' 10 i = zlk (ND (now + i)) (a 1 (K - 1))) → X0 50 [some (.ref 3), some (.int (nI now)), some (.int (nI n)), some (.ref 1), some (.ref 42), some (.int iv), o6] [] (HX s a' w ++ Z) := by
      intro k
      induction k with
      | zero =>
        intro iv o6 a' z1 z2 q1 q2 q3
        have hz0 : (0 : Int32).toInt = 0 := rfl
        rw [Nat.sub_zero] at q2
        iterate 2 refine hX0 _ _ _ _ ?_
        refine And.intro (fun c1 => ?_) (fun c1 => ?_)
        · iterate 3 refine hX0 _ _ _ _ ?_
          refine x_keepPlan (n := n) (Wf := zWz (fun i st => zlk (ND (now + i)) (a 1 st)) (a 2) (a 3) K n on) hn (by rw [zWz_0]; exact hon) (fun i hi => by have := zWz_lt hD hon2 i hi; omega) (fun i hi => by rw [zWz_s]; exact (q3 i (by omega) hi).1 _ (zWz_lt hD hon2 i (by omega))) (fun s2 a2 p1 p2 p3 p4 p5 => ?_)
          iterate 5 refine hX0 _ _ _ _ ?_
          have e5 : s2 5 = nI on := by rw [p1 5 (by decide)]; exact hon
          rw [e5]
          refine And.intro (by exact vp_in_nI (by omega) (by omega)) ?_
          rw [nI_clamp (by omega)]
          refine hX0 _ _ _ _ ?_
          refine h1 n s2 a2 _ rfl ⟨by omega, by omega⟩ p1 (zSm_trans (zSm_more q1 (by decide)) (zSm_more p2 (by decide))) p3 ?_ (fun i hi => ⟨p5 i hi, by rw [p2 10 (by decide)]; exact (q3 i (by omega) hi).2⟩) (by rw [p2 8 (by decide)]; exact q2 on hon2)
          have zz := zacc_i hD (f := a' 10) (fun i hi => (q3 i (by omega) hi).2) n (Nat.le_refl n)
          rw [Nat.sub_self] at zz
          have z0 : zLm (fun i st => zlk (ND (now + i)) (a 1 st)) K n 0 = 0 := rfl
          rw [p4]
          omega
        · exfalso
          rw [fa_lt] at c1
          omega
      | succ k ih =>
        intro iv o6 a' z1 z2 q1 q2 q3
        have hz0 : (0 : Int32).toInt = 0 := rfl
        have eiv : iv = nI k := by
          rw [fa_eq, nI_toInt (by omega)]
          omega
        have hkk : now + k < 2400 := by omega
        have e0 : a' 0 = a 0 := q1 0 (by decide)
        have e1 : a' 1 = a 1 := q1 1 (by decide)
        have e2 : a' 2 = a 2 := q1 2 (by decide)
        have e3 : a' 3 = a 3 := q1 3 (by decide)
        have e4 : a' 4 = a 4 := q1 4 (by decide)
        have e5 : a' 5 = a 5 := q1 5 (by decide)
        have hS' : ISky (a' 0) wi li co := by rw [e0]; exact hS
        iterate 2 refine hX0 _ _ _ _ ?_
        refine And.intro (fun c1 => ?_) (fun c1 => ?_)
        · exfalso
          rw [fa_lt] at c1
          omega
        · iterate 4 refine hX0 _ _ _ _ ?_
          rw [eiv, nI_add]
          iterate 7 refine hX0 _ _ _ _ ?_
          refine x_dleftA (k := now + k) hS' hkk hI hI20 hF0 (by rw [q1 38 (by decide)]; exact hF) hF60 ?_
          iterate 4 refine hX0 _ _ _ _ ?_
          refine x_millAt (k := now + k) hS' hkk ?_
          rw [q1 34 (by decide), q1 35 (by decide), q1 36 (by decide), q1 37 (by decide), q1 39 (by decide), e5, e4]
          refine hX0 _ _ _ _ ?_
          refine hX0 _ _ _ _ ?_
          rw [hND (now + k) hkk]
          refine x_weighHour (E := E) (K := K) hE hE4 hK hK16 (fun y hy => ⟨by rw [e3]; exact (hD.2.2.2.1 y hy).1, by rw [e2]; exact (hD.2.2.2.1 y hy).2, by rw [q2 y hy]; have := zFu_b hD (n - (k + 1)) (by omega) y hy; omega⟩) (by omega) (fun a2 p1 p2 p3 p4 => ?_)
          iterate 2 refine hX0 _ _ _ _ ?_
          have hfv : ∀ bf, zbs (fun st => decide (zlk (ND (now + k)) (a' 1 st) = zlk (ND (now + k)) (a' 1 (K - 1)))) (fun st => (a' 3 st).toInt + (a' 8 st).toInt + (a' 2 (zdf st bf)).toInt) K = zbs (zPm (fun i st => zlk (ND (now + i)) (a 1 st)) K k) (zfv (fun i st => zlk (ND (now + i)) (a 1 st)) (a 2) (a 3) K n k bf) K := by
            intro bf
            refine zbs_c K (fun j hj => ⟨?_, ?_⟩)
            · rw [e1, zPm_e]
            · rw [q2 j hj, e3, e2, zfv_e]
          refine ih _ _ a2 (pm1 (by omega)) (by omega) (zSm_trans q1 p1) (fun bf hbf => ?_) (fun i hi1 hi2 => ?_)
          · have := (p3 bf hbf).1
            rw [hfv bf] at this
            rw [this]
            have z := zFu_s (L := (fun i st => zlk (ND (now + i)) (a 1 st))) (S := a 2) (B := a 3) (K := K) (n := n) (i := k) (bf := bf) (by omega)
            exact z.symm
          · rcases Nat.lt_or_ge k i with c2 | c2
            · have q := q3 i (by omega) hi2
              refine ⟨fun bf hbf => ?_, ?_⟩
              · rw [p4 (16 * i + bf) (by omega)]
                exact q.1 bf hbf
              · rw [p2, upd_at, if_neg (by omega)]
                exact q.2
            · have ei : i = k := by omega
              subst ei
              refine ⟨fun bf hbf => ?_, ?_⟩
              · have h3 := (p3 bf hbf).2
                rw [hfv bf] at h3
                refine h3 ?_
                have z := zFu_s (L := (fun i st => zlk (ND (now + i)) (a 1 st))) (S := a 2) (B := a 3) (K := K) (n := n) (i := i) (bf := bf) (by omega)
                rw [← z]
                have z2 := zFu_b hD (n - i) (by omega) bf hbf
                omega
              · rw [p2, upd_at, if_pos rfl, e1]
    have fill : ∀ (cc j : Nat) (o6 : Option Value) (a' : Nat → Nat → Int32), 16 - j = cc → j ≤ 16 → zSm [8] a a' → (∀ bf, bf < j → a' 8 bf = 0) → X0 24 [some (.ref 3), some (.int (nI now)), some (.int (nI n)), some (.ref 1), some (.ref 42), some (.int (nI j)), o6] [] (HX s a' w ++ Z) := by
      intro cc
      induction cc with
      | zero =>
        intro j o6 a' z1 z2 q1 q2
        have hJ : (nI j).toInt = (j : Int) := nI_toInt (by omega)
        have h16 : (16 : Int32).toInt = 16 := rfl
        iterate 3 refine hX0 _ _ _ _ ?_
        refine And.intro (fun c1 => ?_) (fun c1 => ?_)
        · iterate 4 refine hX0 _ _ _ _ ?_
          refine main n _ _ a' ?_ (Nat.le_refl n) (zSm_more q1 (by decide)) (fun bf hbf => ?_) (fun i h1 h2 => absurd h1 (by omega))
          · exact nm1 (by omega)
          · rw [q2 bf (by omega), Nat.sub_self, zFu_0]
            rfl
        · exfalso
          rw [fa_le] at c1
          omega
      | succ cc ih =>
        intro j o6 a' z1 z2 q1 q2
        have hJ : (nI j).toInt = (j : Int) := nI_toInt (by omega)
        have hcl : (nI j).toNatClampNeg = j := nI_clamp (by omega)
        have h16 : (16 : Int32).toInt = 16 := rfl
        iterate 3 refine hX0 _ _ _ _ ?_
        refine And.intro (fun c1 => ?_) (fun c1 => ?_)
        · exfalso
          rw [fa_le] at c1
          omega
        · iterate 5 refine hX0 _ _ _ _ ?_
          refine And.intro (by exact vp_in_nI (by omega) (by omega)) ?_
          refine zcast (X := X0) xa_8 ?_
          rw [hcl]
          iterate 2 refine hX0 _ _ _ _ ?_
          rw [nI_1]
          refine ih (j + 1) _ _ (by omega) (by omega) (zSm_up (by decide) q1) (fun bf hbf => ?_)
          show upd (a' 8) j 0 bf = 0
          rw [upd_at]
          split
          · rfl
          · exact q2 bf (by omega)
    iterate 4 refine hX0 _ _ _ _ ?_
    refine r_within 1 100 rfl rfl (fun c1 => ?_) (fun c1 => absurd hx.1 c1)
    refine hX0 _ _ _ _ ?_
    refine And.intro (fun c => absurd c (by decide)) (fun _ => ?_)
    iterate 4 refine hX0 _ _ _ _ ?_
    have h24 : (2400 : Int32).toInt = 2400 := rfl
    refine hX0 _ _ _ _ ?_
    refine And.intro (fun c2 => ?_) (fun c2 => ?_)
    · iterate 2 refine hX0 _ _ _ _ ?_
      have kk := fill 16 0 none a rfl (by omega) zSm_refl (fun bf hbf => absurd hbf (Nat.not_lt_zero bf))
      rw [nI_0] at kk
      exact kk
    · exfalso
      rw [nI_add, fa_le, nI_toInt (by omega)] at c2
      omega
  · iterate 4 refine hX0 _ _ _ _ ?_
    refine r_within 1 100 rfl rfl (fun c1 => ?_) (fun c1 => ?_)
    · refine hX0 _ _ _ _ ?_
      refine And.intro (fun c => absurd c (by decide)) (fun _ => ?_)
      iterate 4 refine hX0 _ _ _ _ ?_
      have h24 : (2400 : Int32).toInt = 2400 := rfl
      refine hX0 _ _ _ _ ?_
      refine And.intro (fun c2 => ?_) (fun c2 => ?_)
      · exfalso
        rw [fa_le, i32_add (by omega)] at c2
        exact hx ⟨c1, by omega⟩
      · iterate 2 refine hX0 _ _ _ _ ?_
        exact h0 hx
    · refine hX0 _ _ _ _ ?_
      refine And.intro (fun _ => ?_) (fun c => absurd c (by decide))
      iterate 2 refine hX0 _ _ _ _ ?_
      exact h0 hx

set_option maxRecDepth 100000 in
theorem x_planA {d : Nat} {s : Nat → Int32} {a : Nat → Nat → Int32} {Z : zH} {wi li co : Nat → Int32} {E K now on : Nat} {ND : Nat → Int32} {x : Int32} {Q : zQ} (hn0 : s 0 = nI now) (hS : ISky (a 0) wi li co) {I : Nat} {F : Nat → Nat} (hI : s 25 = nI I) (hI20 : I ≤ 20) (hF0 : F 0 = 0) (hF : ∀ i, i < I → F i ≤ F (i + 1) ∧ a 38 i = nI (F (i + 1))) (hF60 : ∀ i, i ≤ I → F i ≤ 60) (hND : ∀ k, k < 2400 → a 5 (k % 24) - a 5 (k % 24) * (zra (fun i => zhd (fun j => zTs (zsee (a 34 j) (wi k) (co k) (nI (k % 24))) (a 36 j) (a 35 j)) (fun j => decide (¬ a 37 j = 0)) (F (i + 1) - F i) (F i) true) (a 39) I 0 0) / 100 - a 4 (wi k).toNatClampNeg = ND k) (hE : s 6 = nI E) (hE4 : E ≤ 4) (hK : K = 2 ^ E) (hon : s 5 = nI on) (hon2 : on < K) (hnow : now < 2400) (hPD : ∀ n, n ≤ 100 → now + n ≤ 2400 → zPD (fun i st => zlk (ND (now + i)) (a 1 st)) (a 2) (a 3) K n) (h0 : ¬ ((1 ≤ x.toInt ∧ x.toInt ≤ 100) ∧ (now : Int) + x.toInt ≤ 2400) → Q (some (.int (-1))) (HX (va_up s 2 (zcode (-1))) a false ++ Z)) (h1 : ∀ (n : Nat) (s' : Nat → Int32) (a' : Nat → Nat → Int32) (r : Int32), x = nI n → ((1 ≤ n ∧ n ≤ 100) ∧ now + n ≤ 2400) → zSm [3, 4] s s' → zSm [6, 7, 8, 9, 10] a a' → s' 3 = nI n → (s' 4).toInt = zLm (fun i st => zlk (ND (now + i)) (a 1 st)) K n n → (∀ i, i < n → a' 9 i = nI (zWz (fun i st => zlk (ND (now + i)) (a 1 st)) (a 2) (a 3) K n on (i + 1)) ∧ a' 10 i = zlk (ND (now + i)) (a 1 (K - 1))) → r.toInt = zFu (fun i st => zlk (ND (now + i)) (a 1 st)) (a 2) (a 3) K n n on → Q (some (.int r)) (HX (va_up s' 2 (zcode r)) a' false ++ Z)) : zG (d + 7) 82 [.ref 0, .int x] (HX s a false ++ Z) Q := by
  refine g_82 (Nat.le_of_ble_eq_true rfl) ?_
  intro X0 hX0
  iterate 6 refine hX0 _ _ _ _ ?_
  rw [hn0]
  iterate 5 refine hX0 _ _ _ _ ?_
  refine x_makePlanA hS hI hI20 hF0 hF hF60 hND hE hE4 hK hon hon2 hnow hPD (fun c1 => ?_) (fun n s' a' r c1 c2 p1 p2 p3 p4 p5 p6 => ?_)
  · refine hX0 _ _ _ _ ?_
    refine r_answered ?_
    refine hX0 _ _ _ _ ?_
    exact h0 c1
  · refine hX0 _ _ _ _ ?_
    refine r_answered ?_
    refine hX0 _ _ _ _ ?_
    exact h1 n s' a' r c1 c2 p1 p2 p3 p4 p5 p6

set_option maxRecDepth 100000 in
theorem x_makePlanB {d : Nat} {s : Nat → Int32} {a : Nat → Nat → Int32} {w : Bool} {Z : zH} {wi li co : Nat → Int32} {E K now on : Nat} {ND : Nat → Int32} {x : Int32} {Q : zQ} (hS : ISky (a 0) wi li co) {I : Nat} {F : Nat → Nat} (hI : s 30 = nI I) (hI20 : I ≤ 20) (hF0 : F 0 = 0) (hF : ∀ i, i < I → F i ≤ F (i + 1) ∧ a 44 i = nI (F (i + 1))) (hF60 : ∀ i, i ≤ I → F i ≤ 60) (hND : ∀ k, k < 2400 → a 5 (k % 24) - a 5 (k % 24) * (zra (fun i => zhd (fun j => zTs (zsee (a 40 j) (wi k) (co k) (nI (k % 24))) (a 42 j) (a 41 j)) (fun j => decide (¬ a 43 j = 0)) (F (i + 1) - F i) (F i) true) (a 45) I 0 0) / 100 - a 4 (wi k).toNatClampNeg = ND k) (hE : s 6 = nI E) (hE4 : E ≤ 4) (hK : K = 2 ^ E) (hon : s 5 = nI on) (hon2 : on < K) (hnow : now < 2400) (hPD : ∀ n, n ≤ 100 → now + n ≤ 2400 → zPD (fun i st => zlk (ND (now + i)) (a 1 st)) (a 2) (a 3) K n) (h0 : ¬ ((1 ≤ x.toInt ∧ x.toInt ≤ 100) ∧ (now : Int) + x.toInt ≤ 2400) → Q (some (.int (-1))) (HX s a w ++ Z)) (h1 : ∀ (n : Nat) (s' : Nat → Int32) (a' : Nat → Nat → Int32) (r : Int32), x = nI n → ((1 ≤ n ∧ n ≤ 100) ∧ now + n ≤ 2400) → zSm [3, 4] s s' → zSm [6, 7, 8, 9, 10] a a' → s' 3 = nI n → (s' 4).toInt = zLm (fun i st => zlk (ND (now + i)) (a 1 st)) K n n → (∀ i, i < n → a' 9 i = nI (zWz (fun i st => zlk (ND (now + i)) (a 1 st)) (a 2) (a 3) K n on (i + 1)) ∧ a' 10 i = zlk (ND (now + i)) (a 1 (K - 1))) → r.toInt = zFu (fun i st => zlk (ND (now + i)) (a 1 st)) (a 2) (a 3) K n n on → Q (some (.int r)) (HX s' a' w ++ Z)) : zG (d + 6) 31 [.ref 3, .int (nI now), .int x, .ref 1, .ref 49] (HX s a w ++ Z) Q := by
  refine g_31 (Nat.le_of_ble_eq_true rfl) ?_
  intro X0 hX0
  have hK16 : K ≤ 16 := by rw [hK]; exact (pow_sh E hE4).2.2
  have hNW : (nI now).toInt = (now : Int) := nI_toInt (by omega)
  by_cases hx : (1 ≤ x.toInt ∧ x.toInt ≤ 100) ∧ (now : Int) + x.toInt ≤ 2400
  · have hxc := cl_int x (by omega)
    have ex := nI_cl x (by omega)
    generalize x.toNatClampNeg = n at *
    subst ex
    have hD := hPD n (by omega) (by omega)
    have hn : n ≤ 100 := by omega
    have main : ∀ (k : Nat) (iv : Int32) (o6 : Option Value) (a' : Nat → Nat → Int32), iv.toInt = (k : Int) - 1 → k ≤ n → zSm [6, 7, 8, 10] a a' → (∀ bf, bf < K → (a' 8 bf).toInt = zFu (fun i st => zlk (ND (now + i)) (a 1 st)) (a 2) (a 3) K n (n - k) bf) → (∀ i, k ≤ i → i < n → (∀ bf, bf < K → a' 6 (16 * i + bf) = nI (zCh (fun i st => zlk (ND (now + i)) (a 1 st)) (a 2) (a 3) K n i bf)) ∧ a' 10 i = zlk (ND (now + i)) (a 1 (K - 1))) → X0 50 [some (.ref 3), some (.int (nI now)), some (.int (nI n)), some (.ref 1), some (.ref 49), some (.int iv), o6] [] (HX s a' w ++ Z) := by
      intro k
      induction k with
      | zero =>
        intro iv o6 a' z1 z2 q1 q2 q3
        have hz0 : (0 : Int32).toInt = 0 := rfl
        rw [Nat.sub_zero] at q2
        iterate 2 refine hX0 _ _ _ _ ?_
        refine And.intro (fun c1 => ?_) (fun c1 => ?_)
        · iterate 3 refine hX0 _ _ _ _ ?_
          refine x_keepPlan (n := n) (Wf := zWz (fun i st => zlk (ND (now + i)) (a 1 st)) (a 2) (a 3) K n on) hn (by rw [zWz_0]; exact hon) (fun i hi => by have := zWz_lt hD hon2 i hi; omega) (fun i hi => by rw [zWz_s]; exact (q3 i (by omega) hi).1 _ (zWz_lt hD hon2 i (by omega))) (fun s2 a2 p1 p2 p3 p4 p5 => ?_)
          iterate 5 refine hX0 _ _ _ _ ?_
          have e5 : s2 5 = nI on := by rw [p1 5 (by decide)]; exact hon
          rw [e5]
          refine And.intro (by exact vp_in_nI (by omega) (by omega)) ?_
          rw [nI_clamp (by omega)]
          refine hX0 _ _ _ _ ?_
          refine h1 n s2 a2 _ rfl ⟨by omega, by omega⟩ p1 (zSm_trans (zSm_more q1 (by decide)) (zSm_more p2 (by decide))) p3 ?_ (fun i hi => ⟨p5 i hi, by rw [p2 10 (by decide)]; exact (q3 i (by omega) hi).2⟩) (by rw [p2 8 (by decide)]; exact q2 on hon2)
          have zz := zacc_i hD (f := a' 10) (fun i hi => (q3 i (by omega) hi).2) n (Nat.le_refl n)
          rw [Nat.sub_self] at zz
          have z0 : zLm (fun i st => zlk (ND (now + i)) (a 1 st)) K n 0 = 0 := rfl
          rw [p4]
          omega
        · exfalso
          rw [fa_lt] at c1
          omega
      | succ k ih =>
        intro iv o6 a' z1 z2 q1 q2 q3
        have hz0 : (0 : Int32).toInt = 0 := rfl
        have eiv : iv = nI k := by
          rw [fa_eq, nI_toInt (by omega)]
          omega
        have hkk : now + k < 2400 := by omega
        have e0 : a' 0 = a 0 := q1 0 (by decide)
        have e1 : a' 1 = a 1 := q1 1 (by decide)
        have e2 : a' 2 = a 2 := q1 2 (by decide)
        have e3 : a' 3 = a 3 := q1 3 (by decide)
        have e4 : a' 4 = a 4 := q1 4 (by decide)
        have e5 : a' 5 = a 5 := q1 5 (by decide)
        have hS' : ISky (a' 0) wi li co := by rw [e0]; exact hS
        iterate 2 refine hX0 _ _ _ _ ?_
        refine And.intro (fun c1 => ?_) (fun c1 => ?_)
        · exfalso
          rw [fa_lt] at c1
          omega
        · iterate 4 refine hX0 _ _ _ _ ?_
          rw [eiv, nI_add]
          iterate 7 refine hX0 _ _ _ _ ?_
          refine x_dleftB (k := now + k) hS' hkk hI hI20 hF0 (by rw [q1 44 (by decide)]; exact hF) hF60 ?_
          iterate 4 refine hX0 _ _ _ _ ?_
          refine x_millAt (k := now + k) hS' hkk ?_
          rw [q1 40 (by decide), q1 41 (by decide), q1 42 (by decide), q1 43 (by decide), q1 45 (by decide), e5, e4]
          refine hX0 _ _ _ _ ?_
          refine hX0 _ _ _ _ ?_
          rw [hND (now + k) hkk]
          refine x_weighHour (E := E) (K := K) hE hE4 hK hK16 (fun y hy => ⟨by rw [e3]; exact (hD.2.2.2.1 y hy).1, by rw [e2]; exact (hD.2.2.2.1 y hy).2, by rw [q2 y hy]; have := zFu_b hD (n - (k + 1)) (by omega) y hy; omega⟩) (by omega) (fun a2 p1 p2 p3 p4 => ?_)
          iterate 2 refine hX0 _ _ _ _ ?_
          have hfv : ∀ bf, zbs (fun st => decide (zlk (ND (now + k)) (a' 1 st) = zlk (ND (now + k)) (a' 1 (K - 1)))) (fun st => (a' 3 st).toInt + (a' 8 st).toInt + (a' 2 (zdf st bf)).toInt) K = zbs (zPm (fun i st => zlk (ND (now + i)) (a 1 st)) K k) (zfv (fun i st => zlk (ND (now + i)) (a 1 st)) (a 2) (a 3) K n k bf) K := by
            intro bf
            refine zbs_c K (fun j hj => ⟨?_, ?_⟩)
            · rw [e1, zPm_e]
            · rw [q2 j hj, e3, e2, zfv_e]
          refine ih _ _ a2 (pm1 (by omega)) (by omega) (zSm_trans q1 p1) (fun bf hbf => ?_) (fun i hi1 hi2 => ?_)
          · have := (p3 bf hbf).1
            rw [hfv bf] at this
            rw [this]
            have z := zFu_s (L := (fun i st => zlk (ND (now + i)) (a 1 st))) (S := a 2) (B := a 3) (K := K) (n := n) (i := k) (bf := bf) (by omega)
            exact z.symm
          · rcases Nat.lt_or_ge k i with c2 | c2
            · have q := q3 i (by omega) hi2
              refine ⟨fun bf hbf => ?_, ?_⟩
              · rw [p4 (16 * i + bf) (by omega)]
                exact q.1 bf hbf
              · rw [p2, upd_at, if_neg (by omega)]
                exact q.2
            · have ei : i = k := by omega
              subst ei
              refine ⟨fun bf hbf => ?_, ?_⟩
              · have h3 := (p3 bf hbf).2
                rw [hfv bf] at h3
                refine h3 ?_
                have z := zFu_s (L := (fun i st => zlk (ND (now + i)) (a 1 st))) (S := a 2) (B := a 3) (K := K) (n := n) (i := i) (bf := bf) (by omega)
                rw [← z]
                have z2 := zFu_b hD (n - i) (by omega) bf hbf
                omega
              · rw [p2, upd_at, if_pos rfl, e1]
    have fill : ∀ (cc j : Nat) (o6 : Option Value) (a' : Nat → Nat → Int32), 16 - j = cc → j ≤ 16 → zSm [8] a a' → (∀ bf, bf < j → a' 8 bf = 0) → X0 24 [some (.ref 3), some (.int (nI now)), some (.int (nI n)), some (.ref 1), some (.ref 49), some (.int (nI j)), o6] [] (HX s a' w ++ Z) := by
      intro cc
      induction cc with
      | zero =>
        intro j o6 a' z1 z2 q1 q2
        have hJ : (nI j).toInt = (j : Int) := nI_toInt (by omega)
        have h16 : (16 : Int32).toInt = 16 := rfl
        iterate 3 refine hX0 _ _ _ _ ?_
        refine And.intro (fun c1 => ?_) (fun c1 => ?_)
        · iterate 4 refine hX0 _ _ _ _ ?_
          refine main n _ _ a' ?_ (Nat.le_refl n) (zSm_more q1 (by decide)) (fun bf hbf => ?_) (fun i h1 h2 => absurd h1 (by omega))
          · exact nm1 (by omega)
          · rw [q2 bf (by omega), Nat.sub_self, zFu_0]
            rfl
        · exfalso
          rw [fa_le] at c1
          omega
      | succ cc ih =>
        intro j o6 a' z1 z2 q1 q2
        have hJ : (nI j).toInt = (j : Int) := nI_toInt (by omega)
        have hcl : (nI j).toNatClampNeg = j := nI_clamp (by omega)
        have h16 : (16 : Int32).toInt = 16 := rfl
        iterate 3 refine hX0 _ _ _ _ ?_
        refine And.intro (fun c1 => ?_) (fun c1 => ?_)
        · exfalso
          rw [fa_le] at c1
          omega
        · iterate 5 refine hX0 _ _ _ _ ?_
          refine And.intro (by exact vp_in_nI (by omega) (by omega)) ?_
          refine zcast (X := X0) xa_8 ?_
          rw [hcl]
          iterate 2 refine hX0 _ _ _ _ ?_
          rw [nI_1]
          refine ih (j + 1) _ _ (by omega) (by omega) (zSm_up (by decide) q1) (fun bf hbf => ?_)
          show upd (a' 8) j 0 bf = 0
          rw [upd_at]
          split
          · rfl
          · exact q2 bf (by omega)
    iterate 4 refine hX0 _ _ _ _ ?_
    refine r_within 1 100 rfl rfl (fun c1 => ?_) (fun c1 => absurd hx.1 c1)
    refine hX0 _ _ _ _ ?_
    refine And.intro (fun c => absurd c (by decide)) (fun _ => ?_)
    iterate 4 refine hX0 _ _ _ _ ?_
    have h24 : (2400 : Int32).toInt = 2400 := rfl
    refine hX0 _ _ _ _ ?_
    refine And.intro (fun c2 => ?_) (fun c2 => ?_)
    · iterate 2 refine hX0 _ _ _ _ ?_
      have kk := fill 16 0 none a rfl (by omega) zSm_refl (fun bf hbf => absurd hbf (Nat.not_lt_zero bf))
      rw [nI_0] at kk
      exact kk
    · exfalso
      rw [nI_add, fa_le, nI_toInt (by omega)] at c2
      omega
  · iterate 4 refine hX0 _ _ _ _ ?_
    refine r_within 1 100 rfl rfl (fun c1 => ?_) (fun c1 => ?_)
    · refine hX0 _ _ _ _ ?_
      refine And.intro (fun c => absurd c (by decide)) (fun _ => ?_)
      iterate 4 refine hX0 _ _ _ _ ?_
      have h24 : (2400 : Int32).toInt = 2400 := rfl
      refine hX0 _ _ _ _ ?_
      refine And.intro (fun c2 => ?_) (fun c2 => ?_)
      · exfalso
        rw [fa_le, i32_add (by omega)] at c2
        exact hx ⟨c1, by omega⟩
      · iterate 2 refine hX0 _ _ _ _ ?_
        exact h0 hx
    · refine hX0 _ _ _ _ ?_
      refine And.intro (fun _ => ?_) (fun c => absurd c (by decide))
      iterate 2 refine hX0 _ _ _ _ ?_
      exact h0 hx

set_option maxRecDepth 100000 in
theorem x_planB {d : Nat} {s : Nat → Int32} {a : Nat → Nat → Int32} {Z : zH} {wi li co : Nat → Int32} {E K now on : Nat} {ND : Nat → Int32} {x : Int32} {Q : zQ} (hn0 : s 0 = nI now) (hS : ISky (a 0) wi li co) {I : Nat} {F : Nat → Nat} (hI : s 30 = nI I) (hI20 : I ≤ 20) (hF0 : F 0 = 0) (hF : ∀ i, i < I → F i ≤ F (i + 1) ∧ a 44 i = nI (F (i + 1))) (hF60 : ∀ i, i ≤ I → F i ≤ 60) (hND : ∀ k, k < 2400 → a 5 (k % 24) - a 5 (k % 24) * (zra (fun i => zhd (fun j => zTs (zsee (a 40 j) (wi k) (co k) (nI (k % 24))) (a 42 j) (a 41 j)) (fun j => decide (¬ a 43 j = 0)) (F (i + 1) - F i) (F i) true) (a 45) I 0 0) / 100 - a 4 (wi k).toNatClampNeg = ND k) (hE : s 6 = nI E) (hE4 : E ≤ 4) (hK : K = 2 ^ E) (hon : s 5 = nI on) (hon2 : on < K) (hnow : now < 2400) (hPD : ∀ n, n ≤ 100 → now + n ≤ 2400 → zPD (fun i st => zlk (ND (now + i)) (a 1 st)) (a 2) (a 3) K n) (h0 : ¬ ((1 ≤ x.toInt ∧ x.toInt ≤ 100) ∧ (now : Int) + x.toInt ≤ 2400) → Q (some (.int (-1))) (HX (va_up s 2 (zcode (-1))) a true ++ Z)) (h1 : ∀ (n : Nat) (s' : Nat → Int32) (a' : Nat → Nat → Int32) (r : Int32), x = nI n → ((1 ≤ n ∧ n ≤ 100) ∧ now + n ≤ 2400) → zSm [3, 4] s s' → zSm [6, 7, 8, 9, 10] a a' → s' 3 = nI n → (s' 4).toInt = zLm (fun i st => zlk (ND (now + i)) (a 1 st)) K n n → (∀ i, i < n → a' 9 i = nI (zWz (fun i st => zlk (ND (now + i)) (a 1 st)) (a 2) (a 3) K n on (i + 1)) ∧ a' 10 i = zlk (ND (now + i)) (a 1 (K - 1))) → r.toInt = zFu (fun i st => zlk (ND (now + i)) (a 1 st)) (a 2) (a 3) K n n on → Q (some (.int r)) (HX (va_up s' 2 (zcode r)) a' true ++ Z)) : zG (d + 7) 82 [.ref 0, .int x] (HX s a true ++ Z) Q := by
  refine g_82 (Nat.le_of_ble_eq_true rfl) ?_
  intro X0 hX0
  iterate 6 refine hX0 _ _ _ _ ?_
  rw [hn0]
  iterate 5 refine hX0 _ _ _ _ ?_
  refine x_makePlanB hS hI hI20 hF0 hF hF60 hND hE hE4 hK hon hon2 hnow hPD (fun c1 => ?_) (fun n s' a' r c1 c2 p1 p2 p3 p4 p5 p6 => ?_)
  · refine hX0 _ _ _ _ ?_
    refine r_answered ?_
    refine hX0 _ _ _ _ ?_
    exact h0 c1
  · refine hX0 _ _ _ _ ?_
    refine r_answered ?_
    refine hX0 _ _ _ _ ?_
    exact h1 n s' a' r c1 c2 p1 p2 p3 p4 p5 p6
