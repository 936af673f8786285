/-! A PLAN OF THE REFERENCE -/
theorem ix16 (i j : Nat) : (16 : Int32) * nI i + nI j = nI (16 * i + j) := by
  rw [show (16 : Int32) = nI 16 from rfl, pk_mul, nI_add]
theorem ix17 (i j : Nat) : (16 : Int32) * nI i + 16 + nI j = nI (16 * (i + 1) + j) := by
  rw [show (16 : Int32) = nI 16 from rfl, pk_mul, nI_add, nI_add]
  exact congrArg nI (by omega)
theorem add64 {x : Int32} {y : Int64} {p q : Int} (hx : x.toInt = p) (hy : y.toInt = q) (h1 : 0 ≤ p ∧ p ≤ 1000000) (h2 : 0 ≤ q ∧ q ≤ 2000000) : (x.toInt64 + y).toInt = p + q := by
  have e := i64_of x
  rw [i64_add (by omega), e, hx, hy]
theorem fuel64 {x y : Int32} {z : Int64} {q : Int} (hz : z.toInt = q) (h1 : 0 ≤ x.toInt ∧ x.toInt ≤ 4000) (h2 : 0 ≤ y.toInt ∧ y.toInt ≤ 4000) (h3 : 0 ≤ q ∧ q ≤ 2000000) : ((x + y).toInt64 + z).toInt = x.toInt + q + y.toInt := by
  rw [add64 (i32_add (by omega)) hz (by omega) h3]
  omega
theorem l2i_i {x : Int64} (h : 0 ≤ x.toInt ∧ x.toInt ≤ 2000000000) : x.toInt32.toInt = x.toInt := by
  rw [Int64.toInt_toInt32]
  simp only [Int.bmod]
  split <;> omega
theorem zLm_0 (L : Nat → Nat → Int32) (K n : Nat) : zLm L K n 0 = 0 := rfl
theorem zRf_0 {L1 : Nat → Int32} {f : Nat → Int} {La fuel : Int} : zRf L1 f La 0 (-1) fuel := Or.inl ⟨rfl, rfl⟩
theorem zRf_a {L1 : Nat → Int32} {f : Nat → Int} {La lack fuel : Int} {k : Nat} (hL : ∀ b, b ≤ k → 0 ≤ (L1 b).toInt) (hLa : 0 ≤ La) (h : zRf L1 f La k lack fuel) (hc : lack < 0 ∨ (L1 k).toInt + La < lack ∨ ((L1 k).toInt + La = lack ∧ f k < fuel)) : zRf L1 f La (k + 1) ((L1 k).toInt + La) (f k) := by
  refine Or.inr ⟨k, Nat.lt_succ_self k, rfl, rfl, fun b hb => ?_⟩
  rcases Nat.lt_or_ge b k with c | c
  · rcases h with ⟨h1, -⟩ | ⟨b1, h1, h2, h3, h4⟩
    · omega
    · have h5 := h4 b c
      have h6 := hL b1 (by omega)
      rcases hc with hc | hc | hc
      · omega
      · omega
      · refine ⟨by omega, fun e => ?_⟩
        have h7 := h5.2 (by omega)
        omega
  · rw [show b = k by omega]
    exact ⟨Int.le_refl _, fun _ => Int.le_refl _⟩
theorem zRf_b {L1 : Nat → Int32} {f : Nat → Int} {La lack fuel : Int} {k : Nat} (h : zRf L1 f La k lack fuel) (hc : ¬ lack < 0 ∧ ¬ (L1 k).toInt + La < lack ∧ ((L1 k).toInt + La = lack → ¬ f k < fuel)) : zRf L1 f La (k + 1) lack fuel := by
  rcases h with ⟨h1, h2⟩ | ⟨b1, h1, h2, h3, h4⟩
  · exfalso
    omega
  · refine Or.inr ⟨b1, by omega, h2, h3, fun b hb => ?_⟩
    rcases Nat.lt_or_ge b k with c | c
    · exact h4 b c
    · rw [show b = k by omega]
      refine ⟨by omega, fun e => ?_⟩
      have := hc.2.2 (by omega)
      omega

set_option maxRecDepth 100000 in
theorem y_lack2 {d : Nat} {s : Nat → Int32} {a : Nat → Nat → Int32} {w : Bool} {t : Nat → Int32} {b : Nat → Nat → Int32} {t1 : Nat → Int32} {b' : Nat → Nat → Int32} {u1 : Nat → Int64} {c1 : Nat → Nat → Int64} {ND Oz Sz Bz : Nat → Int32} {E K now n : Nat} {P : Nat → Int32} {k st : Nat} {Q : zQ} (hS : ISky P (b 0) (b 1) (b 2)) {I : Nat} {F : Nat → Nat} (hI : t 6 = nI I) (hI20 : I ≤ 20) (hF : ∀ i, i < I → F i ≤ F (i + 1)) (hF60 : ∀ i, i ≤ I → b 3 i = nI (F i) ∧ F i ≤ 60) (hND : ∀ k, k < 2400 → b 13 (k % 24) - b 13 (k % 24) * (zra (fun i => zhm (fun j => zTm (zseM (b 5 j) (b 0 k) (b 2 k) (nI (k % 24))) (b 7 j) (b 6 j)) (fun j => decide (¬ b 8 j = 0)) (F (i + 1) - F i) (F i) false true) (b 4) I 0 0) / 100 - b 12 (b 0 k).toNatClampNeg = ND k) (hE : t 7 = nI E) (hE4 : E ≤ 4) (hK : K = 2 ^ E) (hO : ∀ st, st < K → zsum (b 9) st E = Oz st) (hSs : ∀ st, st < K → zsum (b 10) st E = Sz st) (hBs : ∀ st, st < K → zsum (b 11) st E = Bz st) (q : zSm [14, 15, 16] b b') (e6 : t1 6 = t 6) (e7 : t1 7 = t 7) (hk : now + k < 2400) (hst : st < K) (h0 : Q (some (.int (zlk (ND (now + k)) (Oz st)))) (HX s a w ++ HM t1 b' u1 c1)) : zG (d + 4) 117 [.ref 56, .int (nI (now + k)), .int (nI st)] (HX s a w ++ HM t1 b' u1 c1) Q := by
  have hK16 : K ≤ 16 := by rw [hK]; exact (pow_sh E hE4).2.2
  refine y_lackOf (ND := ND) (E := E) (P := P) (I := I) (F := F) (by rw [q 0 (by decide), q 1 (by decide), q 2 (by decide)]; exact hS) hk (by rw [e6]; exact hI) hI20 hF (by rw [q 3 (by decide)]; exact hF60) (by rw [q 0 (by decide), q 2 (by decide), q 4 (by decide), q 5 (by decide), q 6 (by decide), q 7 (by decide), q 8 (by decide), q 12 (by decide), q 13 (by decide)]; exact hND) (by rw [e7]; exact hE) hE4 (by omega) ?_
  rw [q 9 (by decide), hO st hst]
  exact h0
set_option maxRecDepth 100000 in
theorem y_fuel2 {d : Nat} {s : Nat → Int32} {a : Nat → Nat → Int32} {w : Bool} {t : Nat → Int32} {b : Nat → Nat → Int32} {t1 : Nat → Int32} {b' : Nat → Nat → Int32} {u1 : Nat → Int64} {c1 : Nat → Nat → Int64} {Sz Bz : Nat → Int32} {E K ws st : Nat} {Q : zQ} (hE : t 7 = nI E) (hE4 : E ≤ 4) (hK : K = 2 ^ E) (hSs : ∀ st, st < K → zsum (b 10) st E = Sz st) (hBs : ∀ st, st < K → zsum (b 11) st E = Bz st) (q : zSm [14, 15, 16] b b') (e7 : t1 7 = t 7) (hws : ws < K) (hst : st < K) (h0 : Q (some (.int (Bz st + Sz (zdf st ws)))) (HX s a w ++ HM t1 b' u1 c1)) : zG (d + 1) 118 [.ref 56, .int (nI ws), .int (nI st)] (HX s a w ++ HM t1 b' u1 c1) Q := by
  have hK16 : K ≤ 16 := by rw [hK]; exact (pow_sh E hE4).2.2
  refine y_fuelOf (E := E) (by rw [e7]; exact hE) hE4 (by omega) (by omega) ?_
  rw [q 10 (by decide), q 11 (by decide), hBs st hst, hSs _ (Nat.lt_of_le_of_lt (zdf_le st ws) hst)]
  exact h0

set_option maxRecDepth 100000 in
theorem y_plan2 {d : Nat} {s : Nat → Int32} {a : Nat → Nat → Int32} {w : Bool} {t : Nat → Int32} {b : Nat → Nat → Int32} {u : Nat → Int64} {ND Oz Sz Bz : Nat → Int32} {E K now n : Nat} {P : Nat → Int32} {on : Nat} {Q : zQ} (hS : ISky P (b 0) (b 1) (b 2)) {I : Nat} {F : Nat → Nat} (hI : t 6 = nI I) (hI20 : I ≤ 20) (hF : ∀ i, i < I → F i ≤ F (i + 1)) (hF60 : ∀ i, i ≤ I → b 3 i = nI (F i) ∧ F i ≤ 60) (hND : ∀ k, k < 2400 → b 13 (k % 24) - b 13 (k % 24) * (zra (fun i => zhm (fun j => zTm (zseM (b 5 j) (b 0 k) (b 2 k) (nI (k % 24))) (b 7 j) (b 6 j)) (fun j => decide (¬ b 8 j = 0)) (F (i + 1) - F i) (F i) false true) (b 4) I 0 0) / 100 - b 12 (b 0 k).toNatClampNeg = ND k) (hE : t 7 = nI E) (hE4 : E ≤ 4) (hK : K = 2 ^ E) (hO : ∀ st, st < K → zsum (b 9) st E = Oz st) (hSs : ∀ st, st < K → zsum (b 10) st E = Sz st) (hBs : ∀ st, st < K → zsum (b 11) st E = Bz st) (hon : t 8 = nI on) (hon2 : on < K) (hnw : t 2 = nI now) (hn : 1 ≤ n ∧ n ≤ 100) (hnn : now + n ≤ 2400) (hD : zPD (fun i st => zlk (ND (now + i)) (Oz st)) Sz Bz K n) {X0 : zX} (hX0 : ∀ pc L S h, zstep kX9_plan (zG (d + 4)) Q X0 pc L S h → X0 pc L S h) {t0 : Nat → Int32} (ht0 : t0 = va_up t 0 0) (h1 : ∀ (b' : Nat → Nat → Int32) (c' : Nat → Nat → Int64) (xx : Int64) (r : Int32), zSm [14, 15, 16] b b' → xx.toInt = zLm (fun i st => zlk (ND (now + i)) (Oz st)) K n n → (∀ i, i < n → b' 14 i = nI (zWz (fun i st => zlk (ND (now + i)) (Oz st)) Sz Bz K n on (i + 1)) ∧ b' 15 i = zlk (ND (now + i)) (Oz (K - 1))) → r.toInt = zFu (fun i st => zlk (ND (now + i)) (Oz st)) Sz Bz K n n on → Q (some (.int r)) (HX s a w ++ HM (va_up (va_up (va_up t 0 0) 9 (nI n)) 1 (zcode r)) b' (va_up u 0 xx) c')) : ∀ (b' : Nat → Nat → Int32) (c' : Nat → Nat → Int64) (v3 : Int32) (o4 o5 o6 o7 o8 o9 o10 o11 o12 o13 : Option Value), zSm [14, 15, 16] b b' → (∀ r, 0 ≤ r → r ≤ n → ∀ st, st < K → (c' 0 (16 * r + st)).toInt = zLm (fun i st => zlk (ND (now + i)) (Oz st)) K n (n - r) ∧ (c' 1 (16 * r + st)).toInt = zFu (fun i st => zlk (ND (now + i)) (Oz st)) Sz Bz K n (n - r) st) → X0 286 [some (.ref 56), some (.int (nI n)), some (.int (nI K)), some (.int v3), o4, o5, o6, o7, o8, o9, o10, o11, o12, o13] [] (HX s a w ++ HM t0 b' u c') := by
  intro b' c' v3 o4 o5 o6 o7 o8 o9 o10 o11 o12 o13 q1 q2
  have hK16 : K ≤ 16 := by rw [hK]; exact (pow_sh E hE4).2.2
  have hNI : (nI n).toInt = (n : Int) := nI_toInt (by omega)
  have hcon : (nI on).toNatClampNeg = on := nI_clamp (by omega)
  have z64 : (0 : Int64).toInt = 0 := rfl
  iterate 3 refine hX0 _ _ _ _ ?_
  refine zcast (X := X0) yt_9 ?_
  obtain ⟨t1, ht1⟩ : ∃ z, z = va_up t0 9 (nI n) := ⟨_, rfl⟩
  rw [← ht1]
  have n2 : t1 2 = nI now := by rw [ht1, ht0]; exact hnw
  have n6 : t1 6 = t 6 := by rw [ht1, ht0]; rfl
  have n7 : t1 7 = t 7 := by rw [ht1, ht0]; rfl
  have n8 : t1 8 = nI on := by rw [ht1, ht0]; exact hon
  have r0 := q2 0 (Nat.le_refl 0) (by omega) on hon2
  rw [Nat.mul_zero, Nat.zero_add, Nat.sub_zero] at r0
  have loop : ∀ (xx : Int64), xx.toInt = zLm (fun i st => zlk (ND (now + i)) (Oz st)) K n n → ∀ (cc i : Nat) (b' : Nat → Nat → Int32) (o5 o6 o7 o8 o9 o10 o11 o12 o13 : Option Value), n - i = cc → i ≤ n → zSm [14, 15, 16] b b' → (∀ x, x < i → b' 14 x = nI (zWz (fun i st => zlk (ND (now + i)) (Oz st)) Sz Bz K n on (x + 1)) ∧ b' 15 x = zlk (ND (now + x)) (Oz (K - 1))) → X0 312 [some (.ref 56), some (.int (nI n)), some (.int (nI K)), some (.int (nI (zWz (fun i st => zlk (ND (now + i)) (Oz st)) Sz Bz K n on i))), some (.int (nI i)), o5, o6, o7, o8, o9, o10, o11, o12, o13] [] (HX s a w ++ HM t1 b' (va_up u 0 xx) c') := by
    intro xx hxx cc
    induction cc with
    | zero =>
      intro i b' o5 o6 o7 o8 o9 o10 o11 o12 o13 z1 z2 q3 q4
      have hJ : (nI i).toInt = (i : Int) := nI_toInt (by omega)
      have ei : i = n := by omega
      iterate 3 refine hX0 _ _ _ _ ?_
      refine And.intro (fun c1 => ?_) (fun c1 => ?_)
      · iterate 6 refine hX0 _ _ _ _ ?_
        rw [n8]
        refine And.intro (by exact vp_in_nI (by omega) (by omega)) ?_
        rw [hcon]
        iterate 2 refine hX0 _ _ _ _ ?_
        refine r_told ?_
        refine hX0 _ _ _ _ ?_
        rw [ei] at q4
        rw [ht1, ht0]
        have zb := zFu_b hD n (Nat.le_refl n) on hon2
        exact h1 b' c' xx _ q3 hxx q4 (by rw [l2i_i (by rw [r0.2]; omega), r0.2])
      · exfalso
        rw [fa_le] at c1
        omega
    | succ cc ih =>
      intro i b' o5 o6 o7 o8 o9 o10 o11 o12 o13 z1 z2 q3 q4
      have hJ : (nI i).toInt = (i : Int) := nI_toInt (by omega)
      have hci : (nI i).toNatClampNeg = i := nI_clamp (by omega)
      have hin : i < n := by omega
      have hw := zWz_lt hD hon2 i z2
      have hch := zCh_p (bf := zWz (fun i st => zlk (ND (now + i)) (Oz st)) Sz Bz K n on i) hD hin
      have rowi := q2 i (Nat.zero_le i) z2 _ hw
      have wl := zWz_s (fun i st => zlk (ND (now + i)) (Oz st)) Sz Bz K n on i
      rw [← wl] at hch
      generalize hwi : zWz (fun i st => zlk (ND (now + i)) (Oz st)) Sz Bz K n on i = ws at *
      generalize hwj : zWz (fun i st => zlk (ND (now + i)) (Oz st)) Sz Bz K n on (i + 1) = wj at *
      have fnd : ∀ (cc x : Nat) (o6 o7 o8 o9 o10 o11 o12 o13 : Option Value), wj - x = cc → x ≤ wj → X0 321 [some (.ref 56), some (.int (nI n)), some (.int (nI K)), some (.int (nI ws)), some (.int (nI i)), some (.int (nI x)), o6, o7, o8, o9, o10, o11, o12, o13] [] (HX s a w ++ HM t1 b' (va_up u 0 xx) c') := by
        intro cc
        induction cc with
        | zero =>
          intro x o6 o7 o8 o9 o10 o11 o12 o13 y1 y2
          have ex : x = wj := by omega
          subst ex
          have rowx := q2 (i + 1) (Nat.zero_le _) (by omega) x hch.1
          have hcx : (nI x).toNatClampNeg = x := nI_clamp (by omega)
          have hcA : (nI (16 * (i + 1) + x)).toNatClampNeg = 16 * (i + 1) + x := nI_clamp (by omega)
          have hcB : (nI (16 * i + ws)).toNatClampNeg = 16 * i + ws := nI_clamp (by omega)
          iterate 6 refine hX0 _ _ _ _ ?_
          rw [n2, nI_add]
          refine hX0 _ _ _ _ ?_
          refine y_lack2 (ND := ND) (Oz := Oz) (Sz := Sz) (Bz := Bz) (E := E) (K := K) (now := now) (n := n) (P := P) (I := I) (F := F) (k := i) (st := x) hS hI hI20 hF hF60 hND hE hE4 hK hO hSs hBs q3 n6 n7 (by omega) (by have := hch.1; omega) ?_
          iterate 11 refine hX0 _ _ _ _ ?_
          rw [ix17]
          refine And.intro (by exact vp_in_nI (by omega) (by omega)) ?_
          rw [hcA]
          iterate 9 refine hX0 _ _ _ _ ?_
          rw [ix16]
          refine And.intro (by exact vp_in_nI (by omega) (by omega)) ?_
          rw [hcB]
          iterate 2 refine hX0 _ _ _ _ ?_
          refine And.intro (fun c1 => ?_) (fun c1 => ?_)
          · exfalso
            rw [lg_cmp_eq] at c1
            refine c1 ?_
            rw [← Int64.toInt_inj, rowi.1, zLm_s hin, hch.2.1]
            exact add64 rfl rowx.1 (by have := (hD.2.2.2.2 i (K - 1) hin (by omega)).1; dsimp only at this ⊢; omega) (by have := zLm_b hD (n - (i + 1)) (by omega); omega)
          · iterate 4 refine hX0 _ _ _ _ ?_
            refine y_fuel2 (Sz := Sz) (Bz := Bz) (E := E) (K := K) (ws := ws) (st := x) hE hE4 hK hSs hBs q3 n7 hw (by have := hch.1; omega) ?_
            iterate 11 refine hX0 _ _ _ _ ?_
            rw [ix17]
            refine And.intro (by exact vp_in_nI (by omega) (by omega)) ?_
            rw [hcA]
            iterate 9 refine hX0 _ _ _ _ ?_
            rw [ix16]
            refine And.intro (by exact vp_in_nI (by omega) (by omega)) ?_
            rw [hcB]
            iterate 2 refine hX0 _ _ _ _ ?_
            refine And.intro (fun c2 => ?_) (fun c2 => ?_)
            · iterate 5 refine hX0 _ _ _ _ ?_
              refine And.intro (by exact vp_in_nI (by omega) (by omega)) ?_
              refine zcast (X := X0) yb_14 ?_
              rw [hci]
              iterate 9 refine hX0 _ _ _ _ ?_
              rw [n2, nI_add]
              refine hX0 _ _ _ _ ?_
              refine y_lack2 (ND := ND) (Oz := Oz) (Sz := Sz) (Bz := Bz) (E := E) (K := K) (now := now) (n := n) (P := P) (I := I) (F := F) (k := i) (st := x) hS hI hI20 hF hF60 hND hE hE4 hK hO hSs hBs (zSm_up (by decide) q3) n6 n7 (by omega) hch.1 ?_
              have eL : zlk (ND (now + i)) (Oz x) = zlk (ND (now + i)) (Oz (K - 1)) := hch.2.1
              rw [eL]
              refine hX0 _ _ _ _ ?_
              refine And.intro (by exact vp_in_nI (by omega) (by omega)) ?_
              refine zcast (X := X0) yb_15 ?_
              rw [hci]
              iterate 4 refine hX0 _ _ _ _ ?_
              rw [nI_1]
              have kk := ih (i + 1) (va_up (va_up b' 14 (upd (b' 14) i (nI x))) 15 (upd (b' 15) i (zlk (ND (now + i)) (Oz (K - 1))))) (some (.int (nI x))) o6 o7 o8 o9 o10 o11 o12 o13 (by omega) (by omega) (zSm_up (by decide) (zSm_up (by decide) q3)) (fun y hy => ?_)
              · rw [hwj] at kk
                exact kk
              · show upd (b' 14) i (nI x) y = nI (zWz (fun i st => zlk (ND (now + i)) (Oz st)) Sz Bz K n on (y + 1)) ∧ upd (b' 15) i (zlk (ND (now + i)) (Oz (K - 1))) y = zlk (ND (now + y)) (Oz (K - 1))
                rw [upd_at, upd_at]
                by_cases e : y = i
                · rw [if_pos e, if_pos e, e, hwj]
                  exact ⟨rfl, rfl⟩
                · rw [if_neg e, if_neg e]
                  exact q4 y (by omega)
            · exfalso
              rw [lg_cmp_eq] at c2
              refine c2 ?_
              rw [← Int64.toInt_inj, rowi.2, ← hch.2.2.1, zfv_e]
              exact fuel64 rowx.2 (hD.2.2.2.1 x hch.1).1 (hD.2.2.2.1 _ (Nat.lt_of_le_of_lt (zdf_le x ws) hch.1)).2 (by have := zFu_b hD (n - (i + 1)) (by omega) x hch.1; omega)
        | succ cc ih2 =>
          intro x o6 o7 o8 o9 o10 o11 o12 o13 y1 y2
          have hxK : x < K := by have := hch.1; omega
          have rowx := q2 (i + 1) (Nat.zero_le _) (by omega) x hxK
          have hcx : (nI x).toNatClampNeg = x := nI_clamp (by omega)
          have hcA : (nI (16 * (i + 1) + x)).toNatClampNeg = 16 * (i + 1) + x := nI_clamp (by omega)
          have hcB : (nI (16 * i + ws)).toNatClampNeg = 16 * i + ws := nI_clamp (by omega)
          iterate 6 refine hX0 _ _ _ _ ?_
          rw [n2, nI_add]
          refine hX0 _ _ _ _ ?_
          refine y_lack2 (ND := ND) (Oz := Oz) (Sz := Sz) (Bz := Bz) (E := E) (K := K) (now := now) (n := n) (P := P) (I := I) (F := F) (k := i) (st := x) hS hI hI20 hF hF60 hND hE hE4 hK hO hSs hBs q3 n6 n7 (by omega) (by have := hch.1; omega) ?_
          iterate 11 refine hX0 _ _ _ _ ?_
          rw [ix17]
          refine And.intro (by exact vp_in_nI (by omega) (by omega)) ?_
          rw [hcA]
          iterate 9 refine hX0 _ _ _ _ ?_
          rw [ix16]
          refine And.intro (by exact vp_in_nI (by omega) (by omega)) ?_
          rw [hcB]
          iterate 2 refine hX0 _ _ _ _ ?_
          refine And.intro (fun c1 => ?_) (fun c1 => ?_)
          · iterate 2 refine hX0 _ _ _ _ ?_
            rw [nI_1]
            exact ih2 (x + 1) o6 o7 o8 o9 o10 o11 o12 o13 (by omega) (by omega)
          · iterate 4 refine hX0 _ _ _ _ ?_
            refine y_fuel2 (Sz := Sz) (Bz := Bz) (E := E) (K := K) (ws := ws) (st := x) hE hE4 hK hSs hBs q3 n7 hw (by have := hch.1; omega) ?_
            iterate 11 refine hX0 _ _ _ _ ?_
            rw [ix17]
            refine And.intro (by exact vp_in_nI (by omega) (by omega)) ?_
            rw [hcA]
            iterate 9 refine hX0 _ _ _ _ ?_
            rw [ix16]
            refine And.intro (by exact vp_in_nI (by omega) (by omega)) ?_
            rw [hcB]
            iterate 2 refine hX0 _ _ _ _ ?_
            refine And.intro (fun c2 => ?_) (fun c2 => ?_)
            · exfalso
              rw [lg_cmp_eq, ← Int64.toInt_inj, rowi.1, zLm_s hin, add64 rfl rowx.1 (by have := (hD.2.2.2.2 i x hin hxK).1; dsimp only at this ⊢; omega) (by have := zLm_b hD (n - (i + 1)) (by omega); omega)] at c1
              rw [lg_cmp_eq, ← Int64.toInt_inj, rowi.2, fuel64 rowx.2 (hD.2.2.2.1 x hxK).1 (hD.2.2.2.1 _ (Nat.lt_of_le_of_lt (zdf_le x ws) hxK)).2 (by have := zFu_b hD (n - (i + 1)) (by omega) x hxK; omega)] at c2
              have e1 : zlk (ND (now + i)) (Oz x) = zlk (ND (now + i)) (Oz (K - 1)) := by
                rw [fa_eq]
                generalize (zlk (ND (now + i)) (Oz x)).toInt = A1 at *
                generalize (zlk (ND (now + i)) (Oz (K - 1))).toInt = A2 at *
                clear hch rowi rowx q4 hD
                omega
              have e2 := hch.2.2.2.2 x (by omega) e1
              rw [zfv_e] at e2
              omega
            · iterate 2 refine hX0 _ _ _ _ ?_
              rw [nI_1]
              exact ih2 (x + 1) o6 o7 o8 o9 o10 o11 o12 o13 (by omega) (by omega)
      iterate 3 refine hX0 _ _ _ _ ?_
      refine And.intro (fun c1 => ?_) (fun c1 => ?_)
      · exfalso
        rw [fa_le] at c1
        omega
      · iterate 2 refine hX0 _ _ _ _ ?_
        have kk := fnd wj 0 o6 o7 o8 o9 o10 o11 o12 o13 rfl (by omega)
        rw [nI_0] at kk
        exact kk
  iterate 6 refine hX0 _ _ _ _ ?_
  rw [n8]
  refine And.intro (by exact vp_in_nI (by omega) (by omega)) ?_
  rw [hcon]
  refine hX0 _ _ _ _ ?_
  refine zcast (X := X0) yu_0 ?_
  iterate 3 refine hX0 _ _ _ _ ?_
  rw [n8]
  iterate 2 refine hX0 _ _ _ _ ?_
  have kk := loop (c' 0 on) r0.1 n 0 b' o5 o6 o7 o8 o9 o10 o11 o12 o13 rfl (by omega) q1 (fun x hx => absurd hx (Nat.not_lt_zero x))
  rw [zWz_0, nI_0] at kk
  exact kk
