/-! A PLAN OF THE REFERENCE, from the last hour back -/

set_option maxRecDepth 100000 in
theorem y_plan1 {d : Nat} {s : Nat → Int32} {a : Nat → Nat → Int32} {w : Bool} {t : Nat → Int32} {b : Nat → Nat → Int32} {u : Nat → Int64} {ND Oz Sz Bz : Nat → Int32} {E K now n : Nat} {P : Nat → Int32} {on : Nat} {Q : zQ} (hS : ISky P (b 0) (b 1) (b 2)) {I : Nat} {F : Nat → Nat} (hI : t 6 = nI I) (hI20 : I ≤ 20) (hF : ∀ i, i < I → F i ≤ F (i + 1)) (hF60 : ∀ i, i ≤ I → b 3 i = nI (F i) ∧ F i ≤ 60) (hND : ∀ k, k < 2400 → b 13 (k % 24) - b 13 (k % 24) * (zra (fun i => zhm (fun j => zTm (zseM (b 5 j) (b 0 k) (b 2 k) (nI (k % 24))) (b 7 j) (b 6 j)) (fun j => decide (¬ b 8 j = 0)) (F (i + 1) - F i) (F i) false true) (b 4) I 0 0) / 100 - b 12 (b 0 k).toNatClampNeg = ND k) (hE : t 7 = nI E) (hE4 : E ≤ 4) (hK : K = 2 ^ E) (hO : ∀ st, st < K → zsum (b 9) st E = Oz st) (hSs : ∀ st, st < K → zsum (b 10) st E = Sz st) (hBs : ∀ st, st < K → zsum (b 11) st E = Bz st) (hon : t 8 = nI on) (hon2 : on < K) (hnw : t 2 = nI now) (hn : 1 ≤ n ∧ n ≤ 100) (hnn : now + n ≤ 2400) (hD : zPD (fun i st => zlk (ND (now + i)) (Oz st)) Sz Bz K n) {X0 : zX} (hX0 : ∀ pc L S h, zstep kX9_plan (zG (d + 4)) Q X0 pc L S h → X0 pc L S h) {t0 : Nat → Int32} (ht0 : t0 = va_up t 0 0) (h1 : ∀ (b' : Nat → Nat → Int32) (c' : Nat → Nat → Int64) (xx : Int64) (r : Int32), zSm [14, 15, 16] b b' → xx.toInt = zLm (fun i st => zlk (ND (now + i)) (Oz st)) K n n → (∀ i, i < n → b' 14 i = nI (zWz (fun i st => zlk (ND (now + i)) (Oz st)) Sz Bz K n on (i + 1)) ∧ b' 15 i = zlk (ND (now + i)) (Oz (K - 1))) → r.toInt = zFu (fun i st => zlk (ND (now + i)) (Oz st)) Sz Bz K n n on → Q (some (.int r)) (HX s a w ++ HM (va_up (va_up (va_up t 0 0) 9 (nI n)) 1 (zcode r)) b' (va_up u 0 xx) c')) : ∀ (k : Nat) (iv : Int32) (b' : Nat → Nat → Int32) (c' : Nat → Nat → Int64) (o4 o5 o6 o7 o8 o9 o10 o11 o12 o13 : Option Value), iv.toInt = (k : Int) - 1 → k ≤ n → zSm [14, 15, 16] b b' → (∀ r, k ≤ r → r ≤ n → ∀ st, st < K → (c' 0 (16 * r + st)).toInt = zLm (fun i st => zlk (ND (now + i)) (Oz st)) K n (n - r) ∧ (c' 1 (16 * r + st)).toInt = zFu (fun i st => zlk (ND (now + i)) (Oz st)) Sz Bz K n (n - r) st) → X0 84 [some (.ref 56), some (.int (nI n)), some (.int (nI K)), some (.int iv), o4, o5, o6, o7, o8, o9, o10, o11, o12, o13] [] (HX s a w ++ HM t0 b' u c') := by
  have hK16 : K ≤ 16 := by rw [hK]; exact (pow_sh E hE4).2.2
  have hNI : (nI n).toInt = (n : Int) := nI_toInt (by omega)
  have hKI : (nI K).toInt = (K : Int) := nI_toInt (by omega)
  have hz0 : (0 : Int32).toInt = 0 := rfl
  have n2 : t0 2 = nI now := by rw [ht0]; exact hnw
  have n6 : t0 6 = t 6 := by rw [ht0]; rfl
  have n7 : t0 7 = t 7 := by rw [ht0]; rfl
  intro k
  induction k with
  | zero =>
    intro iv b' c' o4 o5 o6 o7 o8 o9 o10 o11 o12 o13 z1 z2 q1 q2
    iterate 2 refine hX0 _ _ _ _ ?_
    refine And.intro (fun c1 => ?_) (fun c1 => ?_)
    · exact y_plan2 (ND := ND) (Oz := Oz) (Sz := Sz) (Bz := Bz) (E := E) (K := K) (now := now) (n := n) (P := P) (I := I) (F := F) (on := on) hS hI hI20 hF hF60 hND hE hE4 hK hO hSs hBs hon hon2 hnw hn hnn hD hX0 ht0 h1 b' c' iv o4 o5 o6 o7 o8 o9 o10 o11 o12 o13 q1 q2
    · exfalso
      rw [fa_lt] at c1
      omega
  | succ k ih =>
    intro iv b' c' o4 o5 o6 o7 o8 o9 o10 o11 o12 o13 z1 z2 q1 q2
    have eiv : iv = nI k := by
      rw [fa_eq, nI_toInt (by omega)]
      omega
    subst eiv
    have hkn : k < n := by omega
    have Lb : ∀ x, x < K → 0 ≤ (zlk (ND (now + k)) (Oz x)).toInt ∧ (zlk (ND (now + k)) (Oz x)).toInt ≤ 10000 := fun x hx => (hD.2.2.2.2 k x hkn hx).1
    have Lmb := zLm_b hD (n - (k + 1)) (by omega)
    -- a row of the table is made
    have rowB : ∀ (cc j : Nat) (b' : Nat → Nat → Int32) (c' : Nat → Nat → Int64) (o5 o6 o7 o8 o9 o10 o11 o12 o13 : Option Value), K - j = cc → j ≤ K → zSm [14, 15, 16] b b' → (∀ x, x < K → b' 16 x = zlk (ND (now + k)) (Oz x)) → (∀ r, (k + 1) ≤ r → r ≤ n → ∀ st, st < K → (c' 0 (16 * r + st)).toInt = zLm (fun i st => zlk (ND (now + i)) (Oz st)) K n (n - r) ∧ (c' 1 (16 * r + st)).toInt = zFu (fun i st => zlk (ND (now + i)) (Oz st)) Sz Bz K n (n - r) st) → (∀ st, st < j → (c' 0 (16 * k + st)).toInt = zLm (fun i st => zlk (ND (now + i)) (Oz st)) K n (n - k) ∧ (c' 1 (16 * k + st)).toInt = zFu (fun i st => zlk (ND (now + i)) (Oz st)) Sz Bz K n (n - k) st) → X0 125 [some (.ref 56), some (.int (nI n)), some (.int (nI K)), some (.int (nI k)), some (.int (nI j)), o5, o6, o7, o8, o9, o10, o11, o12, o13] [] (HX s a w ++ HM t0 b' u c') := by
      intro cc
      induction cc with
      | zero =>
        intro j b' c' o5 o6 o7 o8 o9 o10 o11 o12 o13 y1 y2 p1 p2 p3 p4
        have hJ : (nI j).toInt = (j : Int) := nI_toInt (by omega)
        iterate 3 refine hX0 _ _ _ _ ?_
        refine And.intro (fun c1 => ?_) (fun c1 => ?_)
        · iterate 2 refine hX0 _ _ _ _ ?_
          refine ih _ b' c' _ o5 o6 o7 o8 o9 o10 o11 o12 o13 (pm1 (by omega)) (by omega) p1 (fun r hr1 hr2 st hst => ?_)
          rcases Nat.lt_or_ge k r with h2 | h2
          · exact p3 r (by omega) hr2 st hst
          · rw [show r = k by omega]
            exact p4 st (by omega)
        · exfalso
          rw [fa_le] at c1
          omega
      | succ cc ih2 =>
        intro ws b' c' o5 o6 o7 o8 o9 o10 o11 o12 o13 y1 y2 p1 p2 p3 p4
        have hJ : (nI ws).toInt = (ws : Int) := nI_toInt (by omega)
        have hws : ws < K := by omega
        have hcW : (nI (16 * k + ws)).toNatClampNeg = 16 * k + ws := nI_clamp (by omega)
        have fold : ∀ (cc bb : Nat) (lack fuel : Int64) (o10 o11 o12 o13 : Option Value), K - bb = cc → bb ≤ K → zRf ((fun i st => zlk (ND (now + i)) (Oz st)) k) (zfv (fun i st => zlk (ND (now + i)) (Oz st)) Sz Bz K n k ws) (zLm (fun i st => zlk (ND (now + i)) (Oz st)) K n (n - (k + 1))) bb lack.toInt fuel.toInt → X0 142 [some (.ref 56), some (.int (nI n)), some (.int (nI K)), some (.int (nI k)), some (.int (nI ws)), some (.long lack), none, some (.long fuel), none, some (.int (nI bb)), o10, o11, o12, o13] [] (HX s a w ++ HM t0 b' u c') := by
          intro cc
          induction cc with
          | zero =>
            intro bb lack fuel o10 o11 o12 o13 x1 x2 x3
            have hB : (nI bb).toInt = (bb : Int) := nI_toInt (by omega)
            have eb : bb = K := by omega
            rw [eb] at x3
            have fin := zRf_end hD hkn x3
            iterate 3 refine hX0 _ _ _ _ ?_
            refine And.intro (fun c1 => ?_) (fun c1 => ?_)
            · iterate 9 refine hX0 _ _ _ _ ?_
              rw [ix16]
              refine And.intro (by exact vp_in_nI (by omega) (by omega)) ?_
              refine zcast (X := X0) yc_0 ?_
              rw [hcW]
              iterate 9 refine hX0 _ _ _ _ ?_
              rw [ix16]
              refine And.intro (by exact vp_in_nI (by omega) (by omega)) ?_
              refine zcast (X := X0) yc_1 ?_
              rw [hcW]
              iterate 2 refine hX0 _ _ _ _ ?_
              rw [nI_1]
              refine ih2 (ws + 1) b' _ _ _ _ _ _ _ _ _ _ (by omega) (by omega) p1 p2 (fun r hr1 hr2 st hst => ?_) (fun st hst => ?_)
              · show (vp_updL (c' 0) (16 * k + ws) lack (16 * r + st)).toInt = _ ∧ (vp_updL (c' 1) (16 * k + ws) fuel (16 * r + st)).toInt = _
                rw [pk_uLn (by omega), pk_uLn (by omega)]
                exact p3 r hr1 hr2 st hst
              · show (vp_updL (c' 0) (16 * k + ws) lack (16 * k + st)).toInt = _ ∧ (vp_updL (c' 1) (16 * k + ws) fuel (16 * k + st)).toInt = _
                by_cases e : st = ws
                · rw [e, pk_uLs, pk_uLs, zLm_s hkn]
                  exact fin
                · rw [pk_uLn (by omega), pk_uLn (by omega)]
                  exact p4 st (by omega)
            · exfalso
              rw [fa_le] at c1
              omega
          | succ cc ih3 =>
            intro bb lack fuel o10 o11 o12 o13 x1 x2 x3
            have hB : (nI bb).toInt = (bb : Int) := nI_toInt (by omega)
            have hcb : (nI bb).toNatClampNeg = bb := nI_clamp (by omega)
            have hcA : (nI (16 * (k + 1) + bb)).toNatClampNeg = 16 * (k + 1) + bb := nI_clamp (by omega)
            have hbK : bb < K := by omega
            have rowx := p3 (k + 1) (Nat.le_refl _) (by omega) bb hbK
            have z64 : (0 : Int64).toInt = 0 := rfl
            have nxt : ∀ (lack' fuel' : Int64) (o10 o11 o12 o13 : Option Value), zRf ((fun i st => zlk (ND (now + i)) (Oz st)) k) (zfv (fun i st => zlk (ND (now + i)) (Oz st)) Sz Bz K n k ws) (zLm (fun i st => zlk (ND (now + i)) (Oz st)) K n (n - (k + 1))) (bb + 1) lack'.toInt fuel'.toInt → X0 240 [some (.ref 56), some (.int (nI n)), some (.int (nI K)), some (.int (nI k)), some (.int (nI ws)), some (.long lack'), none, some (.long fuel'), none, some (.int (nI bb)), o10, o11, o12, o13] [] (HX s a w ++ HM t0 b' u c') := by
              intro lack' fuel' o10 o11 o12 o13 x4
              iterate 2 refine hX0 _ _ _ _ ?_
              rw [nI_1]
              exact ih3 (bb + 1) lack' fuel' o10 o11 o12 o13 (by omega) (by omega) x4
            have cmp : ∀ (lv fv : Int64), lv.toInt = ((fun i st => zlk (ND (now + i)) (Oz st)) k bb).toInt + zLm (fun i st => zlk (ND (now + i)) (Oz st)) K n (n - (k + 1)) → fv.toInt = zfv (fun i st => zlk (ND (now + i)) (Oz st)) Sz Bz K n k ws bb → X0 201 [some (.ref 56), some (.int (nI n)), some (.int (nI K)), some (.int (nI k)), some (.int (nI ws)), some (.long lack), none, some (.long fuel), none, some (.int (nI bb)), some (.long lv), none, some (.long fv), none] [] (HX s a w ++ HM t0 b' u c') := by
              intro lv fv hlv hfv
              have tk : (lack.toInt < 0 ∨ lv.toInt < lack.toInt ∨ (lv.toInt = lack.toInt ∧ fv.toInt < fuel.toInt)) → X0 232 [some (.ref 56), some (.int (nI n)), some (.int (nI K)), some (.int (nI k)), some (.int (nI ws)), some (.long lack), none, some (.long fuel), none, some (.int (nI bb)), some (.long lv), none, some (.long fv), none] [] (HX s a w ++ HM t0 b' u c') := by
                intro hc
                iterate 4 refine hX0 _ _ _ _ ?_
                refine nxt lv fv _ _ _ _ ?_
                rw [hlv, hfv] at hc ⊢
                exact zRf_a (fun b0 hb0 => (Lb b0 (by omega)).1) Lmb.1 x3 hc
              iterate 4 refine hX0 _ _ _ _ ?_
              refine And.intro (fun c1 => ?_) (fun c1 => ?_)
              · rw [lg_cmp_lt, fa_ltL, z64] at c1
                exact tk (Or.inl c1)
              · rw [lg_cmp_lt, fa_ltL, z64] at c1
                iterate 4 refine hX0 _ _ _ _ ?_
                refine And.intro (fun c2 => ?_) (fun c2 => ?_)
                · rw [lg_cmp_lt, fa_ltL] at c2
                  exact tk (Or.inr (Or.inl c2))
                · rw [lg_cmp_lt, fa_ltL] at c2
                  iterate 4 refine hX0 _ _ _ _ ?_
                  refine And.intro (fun c3 => ?_) (fun c3 => ?_)
                  · rw [lg_cmp_eq] at c3
                    refine nxt lack fuel _ _ _ _ (zRf_b x3 ⟨c1, by rw [← hlv]; exact c2, fun e => absurd ?_ c3⟩)
                    rw [← Int64.toInt_inj, hlv]
                    exact e
                  · rw [lg_cmp_eq] at c3
                    iterate 4 refine hX0 _ _ _ _ ?_
                    refine And.intro (fun c4 => ?_) (fun c4 => ?_)
                    · rw [lg_cmp_ge, fa_leL] at c4
                      exact nxt lack fuel _ _ _ _ (zRf_b x3 ⟨c1, by rw [← hlv]; exact c2, fun _ => by rw [← hfv]; exact Int.not_lt.mpr c4⟩)
                    · rw [lg_cmp_ge, fa_leL] at c4
                      exact tk (Or.inr (Or.inr ⟨by rw [c3], Int.not_le.mp c4⟩))
            iterate 3 refine hX0 _ _ _ _ ?_
            refine And.intro (fun c1 => ?_) (fun c1 => ?_)
            · exfalso
              rw [fa_le] at c1
              omega
            · iterate 4 refine hX0 _ _ _ _ ?_
              refine And.intro (by exact vp_in_nI (by omega) (by omega)) ?_
              rw [hcb, p2 bb hbK]
              iterate 11 refine hX0 _ _ _ _ ?_
              rw [ix17]
              refine And.intro (by exact vp_in_nI (by omega) (by omega)) ?_
              rw [hcA]
              iterate 6 refine hX0 _ _ _ _ ?_
              refine y_fuel2 (t := t) (b := b) (Sz := Sz) (Bz := Bz) (E := E) (K := K) (ws := ws) (st := bb) hE hE4 hK hSs hBs p1 n7 hws hbK ?_
              iterate 11 refine hX0 _ _ _ _ ?_
              rw [ix17]
              refine And.intro (by exact vp_in_nI (by omega) (by omega)) ?_
              rw [hcA]
              iterate 2 refine hX0 _ _ _ _ ?_
              refine cmp _ _ ?_ ?_
              · exact add64 rfl rowx.1 (by have := Lb bb hbK; dsimp only; omega) (by omega)
              · rw [zfv_e]
                exact fuel64 rowx.2 (hD.2.2.2.1 bb hbK).1 (hD.2.2.2.1 _ (Nat.lt_of_le_of_lt (zdf_le bb ws) hbK)).2 (by have := zFu_b hD (n - (k + 1)) (by omega) bb hbK; omega)
        iterate 3 refine hX0 _ _ _ _ ?_
        refine And.intro (fun c1 => ?_) (fun c1 => ?_)
        · exfalso
          rw [fa_le] at c1
          omega
        · iterate 6 refine hX0 _ _ _ _ ?_
          have kk := fold K 0 (-1) 0 o10 o11 o12 o13 rfl (by omega) (show zRf ((fun i st => zlk (ND (now + i)) (Oz st)) k) (zfv (fun i st => zlk (ND (now + i)) (Oz st)) Sz Bz K n k ws) (zLm (fun i st => zlk (ND (now + i)) (Oz st)) K n (n - (k + 1))) 0 (-1 : Int64).toInt (0 : Int64).toInt from zRf_0)
          rw [nI_0] at kk
          exact kk
    have rowA : ∀ (cc j : Nat) (b' : Nat → Nat → Int32), K - j = cc → j ≤ K → zSm [14, 15, 16] b b' → (∀ x, x < j → b' 16 x = zlk (ND (now + k)) (Oz x)) → X0 91 [some (.ref 56), some (.int (nI n)), some (.int (nI K)), some (.int (nI k)), some (.int (nI j)), o5, o6, o7, o8, o9, o10, o11, o12, o13] [] (HX s a w ++ HM t0 b' u c') := by
      intro cc
      induction cc with
      | zero =>
        intro j b' y1 y2 p1 p2
        have hJ : (nI j).toInt = (j : Int) := nI_toInt (by omega)
        iterate 3 refine hX0 _ _ _ _ ?_
        refine And.intro (fun c1 => ?_) (fun c1 => ?_)
        · iterate 2 refine hX0 _ _ _ _ ?_
          have kk := rowB K 0 b' c' o5 o6 o7 o8 o9 o10 o11 o12 o13 rfl (by omega) p1 (fun x hx => p2 x (by omega)) q2 (fun st hst => absurd hst (Nat.not_lt_zero st))
          rw [nI_0] at kk
          exact kk
        · exfalso
          rw [fa_le] at c1
          omega
      | succ cc ih2 =>
        intro j b' y1 y2 p1 p2
        have hJ : (nI j).toInt = (j : Int) := nI_toInt (by omega)
        have hcj : (nI j).toNatClampNeg = j := nI_clamp (by omega)
        iterate 3 refine hX0 _ _ _ _ ?_
        refine And.intro (fun c1 => ?_) (fun c1 => ?_)
        · exfalso
          rw [fa_le] at c1
          omega
        · iterate 9 refine hX0 _ _ _ _ ?_
          rw [n2, nI_add]
          refine hX0 _ _ _ _ ?_
          refine y_lack2 (t := t) (b := b) (ND := ND) (Oz := Oz) (Sz := Sz) (Bz := Bz) (E := E) (K := K) (now := now) (n := n) (P := P) (I := I) (F := F) (k := k) (st := j) hS hI hI20 hF hF60 hND hE hE4 hK hO hSs hBs p1 n6 n7 (by omega) (by omega) ?_
          refine hX0 _ _ _ _ ?_
          refine And.intro (by exact vp_in_nI (by omega) (by omega)) ?_
          refine zcast (X := X0) yb_16 ?_
          rw [hcj]
          iterate 2 refine hX0 _ _ _ _ ?_
          rw [nI_1]
          refine ih2 (j + 1) _ (by omega) (by omega) (zSm_up (by decide) p1) (fun x hx => ?_)
          show upd (b' 16) j (zlk (ND (now + k)) (Oz j)) x = _
          rw [upd_at]
          by_cases e : x = j
          · rw [if_pos e, e]
          · rw [if_neg e]
            exact p2 x (by omega)
    iterate 2 refine hX0 _ _ _ _ ?_
    refine And.intro (fun c1 => ?_) (fun c1 => ?_)
    · exfalso
      rw [fa_lt] at c1
      omega
    · iterate 2 refine hX0 _ _ _ _ ?_
      have kk := rowA K 0 b' rfl (by omega) q1 (fun x hx => absurd hx (Nat.not_lt_zero x))
      rw [nI_0] at kk
      exact kk
