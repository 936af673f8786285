/-! A PLAN OF THE REFERENCE, whole -/

set_option maxRecDepth 100000 in
theorem y_plan {d : Nat} {s : Nat → Int32} {a : Nat → Nat → Int32} {w : Bool} {t : Nat → Int32} {b : Nat → Nat → Int32} {u : Nat → Int64} {c : Nat → Nat → Int64} {ND Oz Sz Bz : Nat → Int32} {E K now n : Nat} {P : Nat → Int32} {on : Nat} {Q : zQ} (hS : ISky P (b 0) (b 1) (b 2)) {I : Nat} {F : Nat → Nat} (hI : t 6 = nI I) (hI20 : I ≤ 20) (hF : ∀ i, i < I → F i ≤ F (i + 1)) (hF60 : ∀ i, i ≤ I → b 3 i = nI (F i) ∧ F i ≤ 60) (hND : ∀ k, k < 2400 → b 13 (k % 24) - b 13 (k % 24) * (zra (fun i => zhm (fun j => zTm (zseM (b 5 j) (b 0 k) (b 2 k) (nI (k % 24))) (b 7 j) (b 6 j)) (fun j => decide (¬ b 8 j = 0)) (F (i + 1) - F i) (F i) false true) (b 4) I 0 0) / 100 - b 12 (b 0 k).toNatClampNeg = ND k) (hE : t 7 = nI E) (hE4 : E ≤ 4) (hK : K = 2 ^ E) (hO : ∀ st, st < K → zsum (b 9) st E = Oz st) (hSs : ∀ st, st < K → zsum (b 10) st E = Sz st) (hBs : ∀ st, st < K → zsum (b 11) st E = Bz st) (hon : t 8 = nI on) (hon2 : on < K) (hnw : t 2 = nI now) (hn : 1 ≤ n ∧ n ≤ 100) (hnn : now + n ≤ 2400) (hD : zPD (fun i st => zlk (ND (now + i)) (Oz st)) Sz Bz K n) (h1 : ∀ (b' : Nat → Nat → Int32) (c' : Nat → Nat → Int64) (xx : Int64) (r : Int32), zSm [14, 15, 16] b b' → xx.toInt = zLm (fun i st => zlk (ND (now + i)) (Oz st)) K n n → (∀ i, i < n → b' 14 i = nI (zWz (fun i st => zlk (ND (now + i)) (Oz st)) Sz Bz K n on (i + 1)) ∧ b' 15 i = zlk (ND (now + i)) (Oz (K - 1))) → r.toInt = zFu (fun i st => zlk (ND (now + i)) (Oz st)) Sz Bz K n n on → Q (some (.int r)) (HX s a w ++ HM (va_up (va_up (va_up t 0 0) 9 (nI n)) 1 (zcode r)) b' (va_up u 0 xx) c')) : zG (d + 5) 119 [.ref 56, .int (nI n)] (HX s a w ++ HM t b u c) Q := by
  refine g_119 (Nat.le_of_ble_eq_true rfl) ?_
  intro X0 hX0
  have hK16 : K ≤ 16 := by rw [hK]; exact (pow_sh E hE4).2.2
  have hNI : (nI n).toInt = (n : Int) := nI_toInt (by omega)
  have h16 : (16 : Int32).toInt = 16 := rfl
  have h24 : (2400 : Int32).toInt = 2400 := rfl
  iterate 3 refine hX0 _ _ _ _ ?_
  refine zcast (X := X0) yt_0 ?_
  obtain ⟨t0, ht0⟩ : ∃ z, z = va_up t 0 0 := ⟨_, rfl⟩
  rw [← ht0]
  have n2 : t0 2 = nI now := by rw [ht0]; exact hnw
  have n7 : t0 7 = nI E := by rw [ht0]; exact hE
  have fill : ∀ (cc j : Nat) (c' : Nat → Nat → Int64), 16 - j = cc → j ≤ 16 → (∀ st, st < j → (c' 0 (16 * n + st)).toInt = 0 ∧ (c' 1 (16 * n + st)).toInt = 0) → X0 44 [some (.ref 56), some (.int (nI n)), some (.int (nI K)), some (.int (nI j)), none, none, none, none, none, none, none, none, none, none] [] (HX s a w ++ HM t0 b u c') := by
    intro cc
    induction cc with
    | zero =>
      intro j c' z1 z2 q1
      have hJ : (nI j).toInt = (j : Int) := nI_toInt (by omega)
      iterate 3 refine hX0 _ _ _ _ ?_
      refine And.intro (fun c1 => ?_) (fun c1 => ?_)
      · iterate 4 refine hX0 _ _ _ _ ?_
        refine y_plan1 (t := t) (b := b) (ND := ND) (Oz := Oz) (Sz := Sz) (Bz := Bz) (E := E) (K := K) (now := now) (n := n) (P := P) (I := I) (F := F) (on := on) hS hI hI20 hF hF60 hND hE hE4 hK hO hSs hBs hon hon2 hnw hn hnn hD hX0 ht0 h1 n _ b c' _ _ _ _ _ _ _ _ _ _ (nm1 (by omega)) (Nat.le_refl n) zSm_refl (fun r hr1 hr2 st hst => ?_)
        rw [show r = n by omega, Nat.sub_self, zLm_0, zFu_0]
        exact q1 st (by omega)
      · exfalso
        rw [fa_le] at c1
        omega
    | succ cc ih =>
      intro j c' z1 z2 q1
      have hJ : (nI j).toInt = (j : Int) := nI_toInt (by omega)
      have hcx : (nI (16 * n + j)).toNatClampNeg = 16 * n + j := nI_clamp (by omega)
      iterate 3 refine hX0 _ _ _ _ ?_
      refine And.intro (fun c1 => ?_) (fun c1 => ?_)
      · exfalso
        rw [fa_le] at c1
        omega
      · iterate 9 refine hX0 _ _ _ _ ?_
        rw [ix16]
        refine And.intro (by exact vp_in_nI (by omega) (by omega)) ?_
        refine zcast (X := X0) yc_0 ?_
        rw [hcx]
        iterate 9 refine hX0 _ _ _ _ ?_
        rw [ix16]
        refine And.intro (by exact vp_in_nI (by omega) (by omega)) ?_
        refine zcast (X := X0) yc_1 ?_
        rw [hcx]
        iterate 2 refine hX0 _ _ _ _ ?_
        rw [nI_1]
        refine ih (j + 1) _ (by omega) (by omega) (fun st hst => ?_)
        show (vp_updL (c' 0) (16 * n + j) 0 (16 * n + st)).toInt = 0 ∧ (vp_updL (c' 1) (16 * n + j) 0 (16 * n + st)).toInt = 0
        by_cases e : st = j
        · rw [e, pk_uLs, pk_uLs]
          exact ⟨rfl, rfl⟩
        · rw [pk_uLn (by omega), pk_uLn (by omega)]
          exact q1 st (by omega)
  iterate 5 refine hX0 _ _ _ _ ?_
  refine r_in 1 100 rfl rfl (fun c1 => ?_) (fun c1 => absurd (show 1 ≤ (nI n).toInt ∧ (nI n).toInt ≤ 100 by omega) c1)
  refine hX0 _ _ _ _ ?_
  refine And.intro (fun c => absurd c (by decide)) (fun _ => ?_)
  iterate 5 refine hX0 _ _ _ _ ?_
  rw [n2, nI_add]
  refine hX0 _ _ _ _ ?_
  refine And.intro (fun c2 => ?_) (fun c2 => ?_)
  · iterate 5 refine hX0 _ _ _ _ ?_
    rw [n7, sh_pow (by omega), ← hK]
    iterate 2 refine hX0 _ _ _ _ ?_
    have kk := fill 16 0 c rfl (by omega) (fun st hst => absurd hst (Nat.not_lt_zero st))
    rw [nI_0] at kk
    exact kk
  · exfalso
    rw [fa_le, nI_toInt (by omega)] at c2
    omega
set_option maxRecDepth 100000 in
theorem y_planNo {d : Nat} {s : Nat → Int32} {a : Nat → Nat → Int32} {w : Bool} {t : Nat → Int32} {b : Nat → Nat → Int32} {u : Nat → Int64} {c : Nat → Nat → Int64} {now : Nat} {x : Int32} {Q : zQ} (hnw : t 2 = nI now) (hnow : now < 2400) (hx : ¬ ((1 ≤ x.toInt ∧ x.toInt ≤ 100) ∧ (now : Int) + x.toInt ≤ 2400)) (h0 : Q (some (.int (-1))) (HX s a w ++ HM (va_up (va_up t 0 0) 1 (zcode (-1))) b u c)) : zG (d + 5) 119 [.ref 56, .int x] (HX s a w ++ HM t b u c) Q := by
  refine g_119 (Nat.le_of_ble_eq_true rfl) ?_
  intro X0 hX0
  iterate 3 refine hX0 _ _ _ _ ?_
  refine zcast (X := X0) yt_0 ?_
  iterate 5 refine hX0 _ _ _ _ ?_
  refine r_in 1 100 rfl rfl (fun c1 => ?_) (fun c1 => ?_)
  · refine hX0 _ _ _ _ ?_
    refine And.intro (fun c => absurd c (by decide)) (fun _ => ?_)
    iterate 6 refine hX0 _ _ _ _ ?_
    have e24 : (2400 : Int32).toInt = 2400 := rfl
    refine And.intro (fun c2 => ?_) (fun c2 => ?_)
    · exfalso
      have c3 : t 2 + x ≤ 2400 := c2
      rw [hnw, fa_le, i32_add (by rw [nI_toInt (by omega)]; omega), nI_toInt (by omega)] at c3
      exact hx ⟨c1, by omega⟩
    · iterate 3 refine hX0 _ _ _ _ ?_
      refine r_told ?_
      refine hX0 _ _ _ _ ?_
      exact h0
  · refine hX0 _ _ _ _ ?_
    refine And.intro (fun _ => ?_) (fun c => absurd c (by decide))
    iterate 3 refine hX0 _ _ _ _ ?_
    refine r_told ?_
    refine hX0 _ _ _ _ ?_
    exact h0
