/-! THE PLAN OF THE STATION -/

theorem zbs_r {P : Nat → Bool} {f : Nat → Int} : ∀ k, (∀ b, b < k → 0 ≤ f b) → 0 ≤ (zbs P f k).1 ∧ (zbs P f k).1 ≤ 1000000
  | 0, _ => ⟨(by decide : (0 : Int) ≤ 1000000), Int.le_refl _⟩
  | k + 1, h => by
    have ih := zbs_r (P := P) k (fun b hb => h b (by omega))
    have h0 := h k (by omega)
    show 0 ≤ (if P k = true ∧ f k < (zbs P f k).1 then (f k, k) else zbs P f k).1 ∧ (if P k = true ∧ f k < (zbs P f k).1 then (f k, k) else zbs P f k).1 ≤ 1000000
    split
    · next h1 => exact ⟨h0, by show f k ≤ _; omega⟩
    · exact ih
set_option maxRecDepth 100000 in
theorem x_lackOf {d : Nat} {s : Nat → Int32} {a : Nat → Nat → Int32} {w : Bool} {Z : zH} {nd : Int32} {st : Nat} {Q : zQ} (hst : st < 16) (h0 : Q (some (.int (zlk nd (a 1 st)))) (HX s a w ++ Z)) : zG (d + 1) 27 [.ref 3, .int nd, .int (nI st)] (HX s a w ++ Z) Q := by
  refine g_27 (Nat.le_of_ble_eq_true rfl) ?_
  intro X0 hX0
  have hcl : (nI st).toNatClampNeg = st := nI_clamp (by omega)
  iterate 6 refine hX0 _ _ _ _ ?_
  refine And.intro (by exact vp_in_nI (by omega) (by omega)) ?_
  rw [hcl]
  iterate 3 refine hX0 _ _ _ _ ?_
  exact h0

set_option maxRecDepth 100000 in
theorem x_weighSet {d : Nat} {s : Nat → Int32} {a : Nat → Nat → Int32} {w : Bool} {Z : zH} {E K i st : Nat} {Q : zQ} (hE : s 6 = nI E) (hE4 : E ≤ 4) (hK : K = 2 ^ E) (hK16 : K ≤ 16) (hb : ∀ x, x < K → (0 ≤ (a 3 x).toInt ∧ (a 3 x).toInt ≤ 4000) ∧ (0 ≤ (a 2 x).toInt ∧ (a 2 x).toInt ≤ 4000) ∧ (0 ≤ (a 8 x).toInt ∧ (a 8 x).toInt ≤ 900000)) (hst : st < K) (hi : i < 100) (h0 : ∀ a' : Nat → Nat → Int32, zSm [6, 7] a a' → (∀ bf, bf < K → (((a 3 st).toInt + (a 8 st).toInt + (a 2 (zdf st bf)).toInt < (a 7 bf).toInt → (a' 7 bf).toInt = (a 3 st).toInt + (a 8 st).toInt + (a 2 (zdf st bf)).toInt ∧ a' 6 (16 * i + bf) = nI st) ∧ (¬ (a 3 st).toInt + (a 8 st).toInt + (a 2 (zdf st bf)).toInt < (a 7 bf).toInt → a' 7 bf = a 7 bf ∧ a' 6 (16 * i + bf) = a 6 (16 * i + bf)))) → (∀ q, q < 16 * i ∨ 16 * i + 16 ≤ q → a' 6 q = a 6 q) → Q none (HX s a' w ++ Z)) : zG (d + 1) 28 [.ref 3, .int (nI i), .int (nI st)] (HX s a w ++ Z) Q := by
  refine g_28 (Nat.le_of_ble_eq_true rfl) ?_
  intro X0 hX0
  have hcs : (nI st).toNatClampNeg = st := nI_clamp (by omega)
  have hKI : (nI K).toInt = (K : Int) := nI_toInt (by omega)
  have hsh : (1 : Int32) <<< (s 6 &&& 31) = nI K := by rw [hE, sh_pow (by omega), hK]
  have hbs := hb st hst
  have hF : (a 3 st + a 8 st).toInt = (a 3 st).toInt + (a 8 st).toInt := i32_add (by omega)
  have key : ∀ (cc j : Nat) (a' : Nat → Nat → Int32) (o6 : Option Value), K - j = cc → j ≤ K → zSm [6, 7] a a' → (∀ bf, bf < j → (((a 3 st).toInt + (a 8 st).toInt + (a 2 (zdf st bf)).toInt < (a 7 bf).toInt → (a' 7 bf).toInt = (a 3 st).toInt + (a 8 st).toInt + (a 2 (zdf st bf)).toInt ∧ a' 6 (16 * i + bf) = nI st) ∧ (¬ (a 3 st).toInt + (a 8 st).toInt + (a 2 (zdf st bf)).toInt < (a 7 bf).toInt → a' 7 bf = a 7 bf ∧ a' 6 (16 * i + bf) = a 6 (16 * i + bf)))) → (∀ bf, j ≤ bf → bf < K → a' 7 bf = a 7 bf ∧ a' 6 (16 * i + bf) = a 6 (16 * i + bf)) → (∀ q, q < 16 * i ∨ 16 * i + 16 ≤ q → a' 6 q = a 6 q) → X0 25 [some (.ref 3), some (.int (nI i)), some (.int (nI st)), some (.int (nI K)), some (.int (a 3 st + a 8 st)), some (.int (nI j)), o6] [] (HX s a' w ++ Z) := by
    intro cc
    induction cc with
    | zero =>
      intro j a' o6 z1 z2 q1 q2 q3 q4
      have hJ : (nI j).toInt = (j : Int) := nI_toInt (by omega)
      iterate 3 refine hX0 _ _ _ _ ?_
      refine And.intro (fun c1 => ?_) (fun c1 => ?_)
      · refine hX0 _ _ _ _ ?_
        exact h0 a' q1 (fun bf hbf => q2 bf (by omega)) q4
      · exfalso
        rw [fa_le] at c1
        omega
    | succ cc ih =>
      intro j a' o6 z1 z2 q1 q2 q3 q4
      have hJ : (nI j).toInt = (j : Int) := nI_toInt (by omega)
      have hcl : (nI j).toNatClampNeg = j := nI_clamp (by omega)
      have e2 : a' 2 = a 2 := q1 2 (by decide)
      have hdf := Nat.lt_of_le_of_lt (zdf_le st j) hst
      have hcd : (nI (zdf st j)).toNatClampNeg = zdf st j := nI_clamp (by omega)
      have hbd := (hb (zdf st j) hdf).2.1
      have hFF : (a 3 st + a 8 st + a 2 (zdf st j)).toInt = (a 3 st).toInt + (a 8 st).toInt + (a 2 (zdf st j)).toInt := by rw [i32_add (by omega), hF]
      have q3j := q3 j (by omega) (by omega)
      have hix : nI i * 16 + nI j = nI (16 * i + j) := by
        rw [show (16 : Int32) = nI 16 from rfl, pk_mul, nI_add]
        exact congrArg nI (by omega)
      have hcx : (nI (16 * i + j)).toNatClampNeg = 16 * i + j := nI_clamp (by omega)
      iterate 3 refine hX0 _ _ _ _ ?_
      refine And.intro (fun c1 => ?_) (fun c1 => ?_)
      · exfalso
        rw [fa_le] at c1
        omega
      · iterate 9 refine hX0 _ _ _ _ ?_
        refine And.intro (by rw [zdf_i]; exact vp_in_nI (by omega) (by omega)) ?_
        rw [zdf_i, hcd, e2]
        iterate 7 refine hX0 _ _ _ _ ?_
        refine And.intro (by exact vp_in_nI (by omega) (by omega)) ?_
        rw [hcl]
        refine hX0 _ _ _ _ ?_
        refine And.intro (fun c2 => ?_) (fun c2 => ?_)
        · iterate 2 refine hX0 _ _ _ _ ?_
          rw [fa_le, hFF, q3j.1] at c2
          rw [nI_1]
          refine ih (j + 1) a' _ (by omega) (by omega) q1 (fun bf hbf => ?_) (fun bf h1 h2 => q3 bf (by omega) h2) q4
          rcases Nat.lt_or_ge bf j with y | y
          · exact q2 bf y
          · rw [show bf = j by omega]
            exact ⟨fun z => absurd z (by omega), fun _ => q3j⟩
        · iterate 5 refine hX0 _ _ _ _ ?_
          refine And.intro (by exact vp_in_nI (by omega) (by omega)) ?_
          refine zcast (X := X0) xa_7 ?_
          rw [hcl]
          iterate 10 refine hX0 _ _ _ _ ?_
          refine And.intro (by rw [hix]; exact vp_in_nI (by omega) (by omega)) ?_
          refine zcast (X := X0) xa_6 ?_
          rw [hix, hcx, if_neg (by decide), nar8 (by omega)]
          iterate 2 refine hX0 _ _ _ _ ?_
          rw [fa_le, hFF, q3j.1] at c2
          rw [nI_1]
          refine ih (j + 1) _ _ (by omega) (by omega) (zSm_up (by decide) (zSm_up (by decide) q1)) (fun bf hbf => ?_) (fun bf h1 h2 => ?_) (fun q hq => ?_)
          · show ((a 3 st).toInt + (a 8 st).toInt + (a 2 (zdf st bf)).toInt < (a 7 bf).toInt → (upd (a' 7) j (a 3 st + a 8 st + a 2 (zdf st j)) bf).toInt = (a 3 st).toInt + (a 8 st).toInt + (a 2 (zdf st bf)).toInt ∧ upd (a' 6) (16 * i + j) (nI st) (16 * i + bf) = nI st) ∧ (¬ (a 3 st).toInt + (a 8 st).toInt + (a 2 (zdf st bf)).toInt < (a 7 bf).toInt → upd (a' 7) j (a 3 st + a 8 st + a 2 (zdf st j)) bf = a 7 bf ∧ upd (a' 6) (16 * i + j) (nI st) (16 * i + bf) = a 6 (16 * i + bf))
            rw [upd_at, upd_at]
            rcases Nat.lt_or_ge bf j with y | y
            · rw [if_neg (by omega), if_neg (by omega)]
              exact q2 bf y
            · rw [show bf = j by omega, if_pos rfl, if_pos rfl]
              exact ⟨fun _ => ⟨hFF, rfl⟩, fun z => absurd (show (a 3 st).toInt + (a 8 st).toInt + (a 2 (zdf st j)).toInt < (a 7 j).toInt by omega) z⟩
          · show upd (a' 7) j _ bf = a 7 bf ∧ upd (a' 6) (16 * i + j) _ (16 * i + bf) = a 6 (16 * i + bf)
            rw [upd_at, upd_at, if_neg (by omega), if_neg (by omega)]
            exact q3 bf (by omega) h2
          · show upd (a' 6) (16 * i + j) _ q = a 6 q
            rw [upd_at, if_neg (by omega)]
            exact q4 q hq
  iterate 9 refine hX0 _ _ _ _ ?_
  refine And.intro (by exact vp_in_nI (by omega) (by omega)) ?_
  rw [hcs]
  iterate 4 refine hX0 _ _ _ _ ?_
  refine And.intro (by exact vp_in_nI (by omega) (by omega)) ?_
  rw [hcs]
  iterate 4 refine hX0 _ _ _ _ ?_
  rw [hsh]
  have kk := key K 0 a none rfl (by omega) zSm_refl (fun bf hbf => absurd hbf (Nat.not_lt_zero bf)) (fun bf _ _ => ⟨rfl, rfl⟩) (fun q _ => rfl)
  rw [nI_0] at kk
  exact kk

set_option maxRecDepth 100000 in
theorem x_weighHour {d : Nat} {s : Nat → Int32} {a : Nat → Nat → Int32} {w : Bool} {Z : zH} {E K i : Nat} {nd : Int32} {Q : zQ} (hE : s 6 = nI E) (hE4 : E ≤ 4) (hK : K = 2 ^ E) (hK16 : K ≤ 16) (hb : ∀ x, x < K → (0 ≤ (a 3 x).toInt ∧ (a 3 x).toInt ≤ 4000) ∧ (0 ≤ (a 2 x).toInt ∧ (a 2 x).toInt ≤ 4000) ∧ (0 ≤ (a 8 x).toInt ∧ (a 8 x).toInt ≤ 900000)) (hi : i < 100) (h0 : ∀ a' : Nat → Nat → Int32, zSm [6, 7, 8, 10] a a' → a' 10 = upd (a 10) i (zlk nd (a 1 (K - 1))) → (∀ bf, bf < K → ((a' 8 bf).toInt = (zbs (fun st => decide (zlk nd (a 1 st) = zlk nd (a 1 (K - 1)))) (fun st => (a 3 st).toInt + (a 8 st).toInt + (a 2 (zdf st bf)).toInt) K).1 ∧ ((zbs (fun st => decide (zlk nd (a 1 st) = zlk nd (a 1 (K - 1)))) (fun st => (a 3 st).toInt + (a 8 st).toInt + (a 2 (zdf st bf)).toInt) K).1 < 1000000 → a' 6 (16 * i + bf) = nI (zbs (fun st => decide (zlk nd (a 1 st) = zlk nd (a 1 (K - 1)))) (fun st => (a 3 st).toInt + (a 8 st).toInt + (a 2 (zdf st bf)).toInt) K).2))) → (∀ q, q < 16 * i ∨ 16 * i + 16 ≤ q → a' 6 q = a 6 q) → Q none (HX s a' w ++ Z)) : zG (d + 3) 29 [.ref 3, .int (nI i), .int nd] (HX s a w ++ Z) Q := by
  refine g_29 (Nat.le_of_ble_eq_true rfl) ?_
  intro X0 hX0
  have hK0 : 0 < K := by rw [hK]; exact Nat.two_pow_pos E
  have hci : (nI i).toNatClampNeg = i := nI_clamp (by omega)
  have hKI : (nI K).toInt = (K : Int) := nI_toInt (by omega)
  have hsh : (1 : Int32) <<< (s 6 &&& 31) = nI K := by rw [hE, sh_pow (by omega), hK]
  have hf0 : ∀ bf b, b < K → 0 ≤ ((fun st => (a 3 st).toInt + (a 8 st).toInt + (a 2 (zdf st bf)).toInt)) b := by
    intro bf b hb2
    have z1 := hb b hb2
    have z2 := (hb (zdf b bf) (Nat.lt_of_le_of_lt (zdf_le b bf) hb2)).2.1
    dsimp only
    omega
  have sets : ∀ (cc k : Nat) (a' : Nat → Nat → Int32), K - k = cc → k ≤ K → zSm [6, 7, 10] a a' → a' 10 = upd (a 10) i (zlk nd (a 1 (K - 1))) → (∀ bf, bf < K → ((a' 7 bf).toInt = (zbs (fun st => decide (zlk nd (a 1 st) = zlk nd (a 1 (K - 1)))) (fun st => (a 3 st).toInt + (a 8 st).toInt + (a 2 (zdf st bf)).toInt) k).1 ∧ ((zbs (fun st => decide (zlk nd (a 1 st) = zlk nd (a 1 (K - 1)))) (fun st => (a 3 st).toInt + (a 8 st).toInt + (a 2 (zdf st bf)).toInt) k).1 < 1000000 → a' 6 (16 * i + bf) = nI (zbs (fun st => decide (zlk nd (a 1 st) = zlk nd (a 1 (K - 1)))) (fun st => (a 3 st).toInt + (a 8 st).toInt + (a 2 (zdf st bf)).toInt) k).2))) → (∀ q, q < 16 * i ∨ 16 * i + 16 ≤ q → a' 6 q = a 6 q) → X0 52 [some (.ref 3), some (.int (nI i)), some (.int nd), some (.int (nI K)), some (.int (zlk nd (a 1 (K - 1)))), some (.int (nI k))] [] (HX s a' w ++ Z) := by
    intro cc
    induction cc with
    | zero =>
      intro k a' z1 z2 q1 q2 q3 q4
      have hJ : (nI k).toInt = (k : Int) := nI_toInt (by omega)
      have ek : k = K := by omega
      iterate 3 refine hX0 _ _ _ _ ?_
      refine And.intro (fun c1 => ?_) (fun c1 => ?_)
      · iterate 8 refine hX0 _ _ _ _ ?_
        have hz0 : (0 : Int32).toInt = 0 := rfl
        have hcK : (nI K).toNatClampNeg = K := nI_clamp (by omega)
        have hc0 : (0 : Int32).toNatClampNeg = 0 := rfl
        refine And.intro ⟨by decide, by decide, nI_pos (by omega), by rw [hcK, hc0]; omega, by rw [hcK, hc0]; omega⟩ ?_
        refine zcast (X := X0) xa_8 ?_
        rw [hcK, hc0]
        refine hX0 _ _ _ _ ?_
        rw [ek] at q3
        refine h0 _ (zSm_up (by decide) (zSm_more q1 (by decide))) q2 (fun bf hbf => ?_) q4
        have e8 : va_cpy (a' 7) (a' 8) 0 0 K bf = a' 7 bf := by
          rw [pk_cpy_in (Nat.zero_le _) (by omega)]
          exact congrArg _ (by omega)
        show (va_cpy (a' 7) (a' 8) 0 0 K bf).toInt = _ ∧ _
        rw [e8]
        exact q3 bf hbf
      · exfalso
        rw [fa_le] at c1
        omega
    | succ cc ih =>
      intro k a' z1 z2 q1 q2 q3 q4
      have hJ : (nI k).toInt = (k : Int) := nI_toInt (by omega)
      have e1 : a' 1 = a 1 := q1 1 (by decide)
      have e2 : a' 2 = a 2 := q1 2 (by decide)
      have e3 : a' 3 = a 3 := q1 3 (by decide)
      have e8 : a' 8 = a 8 := q1 8 (by decide)
      have zs : ∀ bf, (zbs (fun st => decide (zlk nd (a 1 st) = zlk nd (a 1 (K - 1)))) (fun st => (a 3 st).toInt + (a 8 st).toInt + (a 2 (zdf st bf)).toInt) (k + 1)) = if (fun st => decide (zlk nd (a 1 st) = zlk nd (a 1 (K - 1)))) k = true ∧ (fun st => (a 3 st).toInt + (a 8 st).toInt + (a 2 (zdf st bf)).toInt) k < (zbs (fun st => decide (zlk nd (a 1 st) = zlk nd (a 1 (K - 1)))) (fun st => (a 3 st).toInt + (a 8 st).toInt + (a 2 (zdf st bf)).toInt) k).1 then ((fun st => (a 3 st).toInt + (a 8 st).toInt + (a 2 (zdf st bf)).toInt) k, k) else (zbs (fun st => decide (zlk nd (a 1 st) = zlk nd (a 1 (K - 1)))) (fun st => (a 3 st).toInt + (a 8 st).toInt + (a 2 (zdf st bf)).toInt) k) := fun bf => rfl
      iterate 3 refine hX0 _ _ _ _ ?_
      refine And.intro (fun c1 => ?_) (fun c1 => ?_)
      · exfalso
        rw [fa_le] at c1
        omega
      · iterate 4 refine hX0 _ _ _ _ ?_
        refine x_lackOf (by omega) ?_
        rw [e1]
        iterate 2 refine hX0 _ _ _ _ ?_
        refine And.intro (fun c2 => ?_) (fun c2 => ?_)
        · iterate 2 refine hX0 _ _ _ _ ?_
          rw [nI_1]
          refine ih (k + 1) a' (by omega) (by omega) q1 q2 (fun bf hbf => ?_) q4
          rw [zs bf, if_neg (fun z => c2 (of_decide_eq_true z.1))]
          exact q3 bf hbf
        · iterate 4 refine hX0 _ _ _ _ ?_
          refine x_weighSet (E := E) (K := K) hE hE4 hK hK16 (by rw [e2, e3, e8]; exact hb) (by omega) hi (fun a2 p1 p2 p3 => ?_)
          iterate 2 refine hX0 _ _ _ _ ?_
          rw [nI_1]
          refine ih (k + 1) a2 (by omega) (by omega) (zSm_trans q1 (zSm_more p1 (by decide))) (by rw [p1 10 (by decide)]; exact q2) (fun bf hbf => ?_) (fun q hq => by rw [p3 q hq]; exact q4 q hq)
          have pb := p2 bf hbf
          rw [e2, e3, e8, (q3 bf hbf).1] at pb
          rw [zs bf]
          by_cases hlt : ((fun st => (a 3 st).toInt + (a 8 st).toInt + (a 2 (zdf st bf)).toInt)) k < (zbs (fun st => decide (zlk nd (a 1 st) = zlk nd (a 1 (K - 1)))) (fun st => (a 3 st).toInt + (a 8 st).toInt + (a 2 (zdf st bf)).toInt) k).1
          · rw [if_pos ⟨decide_eq_true c2, hlt⟩]
            have pp := pb.1 hlt
            exact ⟨pp.1, fun _ => pp.2⟩
          · rw [if_neg (fun z => hlt z.2)]
            have pp := pb.2 hlt
            rw [pp.1, pp.2]
            exact q3 bf hbf
  have fill : ∀ (cc j : Nat) (a' : Nat → Nat → Int32), K - j = cc → j ≤ K → zSm [7, 10] a a' → a' 10 = upd (a 10) i (zlk nd (a 1 (K - 1))) → (∀ bf, bf < j → a' 7 bf = 1000000) → X0 28 [some (.ref 3), some (.int (nI i)), some (.int nd), some (.int (nI K)), some (.int (zlk nd (a 1 (K - 1)))), some (.int (nI j))] [] (HX s a' w ++ Z) := by
    intro cc
    induction cc with
    | zero =>
      intro j a' z1 z2 q1 q2 q3
      have hJ : (nI j).toInt = (j : Int) := nI_toInt (by omega)
      iterate 3 refine hX0 _ _ _ _ ?_
      refine And.intro (fun c1 => ?_) (fun c1 => ?_)
      · iterate 2 refine hX0 _ _ _ _ ?_
        have kk := sets K 0 a' rfl (by omega) (zSm_more q1 (by decide)) q2 (fun bf hbf => ⟨by rw [q3 bf (by omega)]; rfl, fun z => absurd (show (1000000 : Int) < 1000000 from z) (by decide)⟩) (fun q _ => congrFun (q1 6 (by decide)) q)
        rw [nI_0] at kk
        exact kk
      · exfalso
        rw [fa_le] at c1
        omega
    | succ cc ih =>
      intro j a' z1 z2 q1 q2 q3
      have hJ : (nI j).toInt = (j : Int) := nI_toInt (by omega)
      have hcl : (nI j).toNatClampNeg = j := nI_clamp (by omega)
      iterate 3 refine hX0 _ _ _ _ ?_
      refine And.intro (fun c1 => ?_) (fun c1 => ?_)
      · exfalso
        rw [fa_le] at c1
        omega
      · iterate 5 refine hX0 _ _ _ _ ?_
        refine And.intro (by exact vp_in_nI (by omega) (by omega)) ?_
        refine zcast (X := X0) xa_7 ?_
        rw [hcl]
        iterate 2 refine hX0 _ _ _ _ ?_
        rw [nI_1]
        refine ih (j + 1) _ (by omega) (by omega) (zSm_up (by decide) q1) q2 (fun bf hbf => ?_)
        show upd (a' 7) j 1000000 bf = 1000000
        rw [upd_at]
        split
        · rfl
        · exact q3 bf (by omega)
  iterate 5 refine hX0 _ _ _ _ ?_
  rw [hsh]
  iterate 6 refine hX0 _ _ _ _ ?_
  rw [show nI K - 1 = nI (K - 1) from pk_sub (a := K) (b := 1) hK0]
  refine x_lackOf (by omega) ?_
  iterate 6 refine hX0 _ _ _ _ ?_
  refine And.intro (by exact vp_in_nI (by omega) (by omega)) ?_
  refine zcast (X := X0) xa_10 ?_
  rw [hci]
  iterate 2 refine hX0 _ _ _ _ ?_
  have kk := fill K 0 (va_up a 10 (upd (a 10) i (zlk nd (a 1 (K - 1))))) rfl (by omega) (zSm_up (by decide) zSm_refl) rfl (fun bf hbf => absurd hbf (Nat.not_lt_zero bf))
  rw [nI_0] at kk
  exact kk

def zacc (f : Nat → Int32) : Nat → Int32
  | 0 => 0
  | n + 1 => zacc f n + f n
set_option maxRecDepth 100000 in
theorem x_keepPlan {d : Nat} {s : Nat → Int32} {a : Nat → Nat → Int32} {w : Bool} {Z : zH} {n : Nat} {Wf : Nat → Nat} {Q : zQ} (hn : n ≤ 100) (hW0 : s 5 = nI (Wf 0)) (hW : ∀ i, i ≤ n → Wf i < 16) (hWs : ∀ i, i < n → a 6 (16 * i + Wf i) = nI (Wf (i + 1))) (h0 : ∀ (s' : Nat → Int32) (a' : Nat → Nat → Int32), zSm [3, 4] s s' → zSm [9] a a' → s' 3 = nI n → s' 4 = zacc (a 10) n → (∀ i, i < n → a' 9 i = nI (Wf (i + 1))) → Q none (HX s' a' w ++ Z)) : zG (d + 1) 30 [.ref 3, .int (nI n)] (HX s a w ++ Z) Q := by
  refine g_30 (Nat.le_of_ble_eq_true rfl) ?_
  intro X0 hX0
  have hNI : (nI n).toInt = (n : Int) := nI_toInt (by omega)
  have key : ∀ (cc j : Nat) (s' : Nat → Int32) (a' : Nat → Nat → Int32), n - j = cc → j ≤ n → zSm [4] s s' → zSm [9] a a' → s' 4 = zacc (a 10) j → (∀ i, i < j → a' 9 i = nI (Wf (i + 1))) → X0 12 [some (.ref 3), some (.int (nI n)), some (.int (nI (Wf j))), some (.int (nI j))] [] (HX s' a' w ++ Z) := by
    intro cc
    induction cc with
    | zero =>
      intro j s' a' z1 z2 q1 q2 q3 q4
      have hJ : (nI j).toInt = (j : Int) := nI_toInt (by omega)
      have ej : j = n := by omega
      iterate 3 refine hX0 _ _ _ _ ?_
      refine And.intro (fun c1 => ?_) (fun c1 => ?_)
      · iterate 3 refine hX0 _ _ _ _ ?_
        refine zcast (X := X0) xs_3 ?_
        refine hX0 _ _ _ _ ?_
        rw [ej] at q3 q4
        exact h0 _ a' (zSm_up (by decide) (zSm_more q1 (by decide))) q2 rfl q3 q4
      · exfalso
        rw [fa_le] at c1
        omega
    | succ cc ih =>
      intro j s' a' z1 z2 q1 q2 q3 q4
      have hJ : (nI j).toInt = (j : Int) := nI_toInt (by omega)
      have hcl : (nI j).toNatClampNeg = j := nI_clamp (by omega)
      have hWj := hW j (by omega)
      have e6 : a' 6 = a 6 := q2 6 (by decide)
      have e10 : a' 10 = a 10 := q2 10 (by decide)
      have hix : nI j * 16 + nI (Wf j) = nI (16 * j + Wf j) := by
        rw [show (16 : Int32) = nI 16 from rfl, pk_mul, nI_add]
        exact congrArg nI (by omega)
      have hcx : (nI (16 * j + Wf j)).toNatClampNeg = 16 * j + Wf j := nI_clamp (by omega)
      iterate 3 refine hX0 _ _ _ _ ?_
      refine And.intro (fun c1 => ?_) (fun c1 => ?_)
      · exfalso
        rw [fa_le] at c1
        omega
      · iterate 8 refine hX0 _ _ _ _ ?_
        refine And.intro (by rw [hix]; exact vp_in_nI (by omega) (by omega)) ?_
        rw [hix, hcx, e6, hWs j (by omega)]
        iterate 6 refine hX0 _ _ _ _ ?_
        refine And.intro (by exact vp_in_nI (by omega) (by omega)) ?_
        refine zcast (X := X0) xa_9 ?_
        rw [hcl]
        iterate 7 refine hX0 _ _ _ _ ?_
        refine And.intro (by exact vp_in_nI (by omega) (by omega)) ?_
        rw [hcl]
        iterate 2 refine hX0 _ _ _ _ ?_
        refine zcast (X := X0) xs_4 ?_
        iterate 2 refine hX0 _ _ _ _ ?_
        rw [nI_1]
        refine ih (j + 1) _ _ (by omega) (by omega) (zSm_up (by decide) q1) (zSm_up (by decide) q2) ?_ (fun i hi => ?_)
        · show s' 4 + a' 10 j = zacc (a 10) j + a 10 j
          rw [q3, e10]
        · show upd (a' 9) j (nI (Wf (j + 1))) i = nI (Wf (i + 1))
          rw [upd_at]
          split
          · next e => rw [e]
          · exact q4 i (by omega)
  iterate 3 refine hX0 _ _ _ _ ?_
  rw [hW0]
  iterate 3 refine hX0 _ _ _ _ ?_
  refine zcast (X := X0) xs_4 ?_
  iterate 2 refine hX0 _ _ _ _ ?_
  have kk := key n 0 (va_up s 4 0) a rfl (by omega) (zSm_up (by decide) zSm_refl) zSm_refl rfl (fun i hi => absurd hi (Nat.not_lt_zero i))
  rw [nI_0] at kk
  exact kk
