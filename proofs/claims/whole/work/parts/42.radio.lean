/-! THE RADIO, HOUR BY HOUR -/
/-- the message whose turn it is: the first of the highest rank of those not all sent -/
def zNx (mB mR mS : Nat → Int32) (M m : Nat) : Prop := m < M ∧ (mS m).toInt < (mB m).toInt ∧ ∀ m', m' < M → (mS m').toInt < (mB m').toInt → (mR m').toInt ≤ (mR m).toInt ∧ (m' < m → (mR m').toInt < (mR m).toInt)
theorem zNx_one {mB mR mS : Nat → Int32} {M m m' : Nat} (h : zNx mB mR mS M m) (h' : zNx mB mR mS M m') : m = m' := by
  have h1 := h.2.2 m' h'.1 h'.2.1
  have h2 := h'.2.2 m h.1 h.2.1
  omega
def zits (mB mS : Nat → Int32) (m : Nat) (l : Int32) : Int32 := if mB m - mS m < l then mB m - mS m else l
/-- bytes in all, bytes sent, first hours, last hours, the unfinished -/
abbrev zR : Type := Int32 × (Nat → Int32) × (Nat → Int32) × (Nat → Int32) × (Nat → Int32)
def zsn (mB : Nat → Int32) (k m : Nat) (l : Int32) (q : zR) : zR := (q.1 + zits mB q.2.1 m l, upd q.2.1 m (q.2.1 m + zits mB q.2.1 m l), (if q.2.1 m = 0 then upd q.2.2.1 m (nI k) else q.2.2.1), (if q.2.1 m + zits mB q.2.1 m l = mB m then upd q.2.2.2.1 m (nI k) else q.2.2.2.1), (if q.2.1 m + zits mB q.2.1 m l = mB m then q.2.2.2.2 else upd q.2.2.2.2 k (nI (m + 1))))
/-- an hour: who sends in it, one behind the other -/
def zTr (mB mR : Nat → Int32) (M k : Nat) : List Nat → Int32 → zR → Int32 → zR → Prop
  | [], l, q, l', q' => l' = l ∧ q' = q
  | m :: tr, l, q, l', q' => 0 < l.toInt ∧ zNx mB mR q.2.1 M m ∧ zTr mB mR M k tr (l - zits mB q.2.1 m l) (zsn mB k m l q) l' q'
theorem zTr_snoc {mB mR : Nat → Int32} {M k m : Nat} : ∀ {tr : List Nat} {l : Int32} {q : zR} {l' : Int32} {q' : zR}, zTr mB mR M k tr l q l' q' → 0 < l'.toInt → zNx mB mR q'.2.1 M m → zTr mB mR M k (tr ++ [m]) l q (l' - zits mB q'.2.1 m l') (zsn mB k m l' q')
  | [], l, q, l', q', h, h1, h2 => by
    obtain ⟨rfl, rfl⟩ := h
    exact ⟨h1, h2, rfl, rfl⟩
  | m' :: tr, l, q, l', q', h, h1, h2 => ⟨h.1, h.2.1, zTr_snoc h.2.2 h1 h2⟩
/-- what holds of the messages all along -/
def zRB (mB : Nat → Int32) (M : Nat) (l : Int32) (q : zR) : Prop := (0 ≤ l.toInt ∧ l.toInt ≤ 1000) ∧ ∀ m, m < M → (1 ≤ (mB m).toInt ∧ (mB m).toInt ≤ 10000) ∧ (0 ≤ (q.2.1 m).toInt ∧ (q.2.1 m).toInt ≤ (mB m).toInt) ∧ ((q.2.1 m).toInt < (mB m).toInt → q.2.2.2.1 m = -1)
theorem zits_p {mB mS : Nat → Int32} {m : Nat} {l : Int32} (hl : 0 ≤ l.toInt ∧ l.toInt ≤ 1000) (hB : 1 ≤ (mB m).toInt ∧ (mB m).toInt ≤ 10000) (hS : 0 ≤ (mS m).toInt ∧ (mS m).toInt ≤ (mB m).toInt) : (0 ≤ (zits mB mS m l).toInt ∧ (zits mB mS m l).toInt ≤ l.toInt) ∧ (mS m + zits mB mS m l).toInt = (mS m).toInt + (zits mB mS m l).toInt ∧ (mS m + zits mB mS m l).toInt ≤ (mB m).toInt ∧ (l - zits mB mS m l).toInt = l.toInt - (zits mB mS m l).toInt ∧ ((l - zits mB mS m l).toInt = 0 ∨ mS m + zits mB mS m l = mB m) ∧ ((0 < l.toInt ∧ (mS m).toInt < (mB m).toInt) → 0 < (zits mB mS m l).toInt) := by
  have h1 : (mB m - mS m).toInt = (mB m).toInt - (mS m).toInt := i32_sub (by omega)
  have h2 : (0 ≤ (zits mB mS m l).toInt ∧ (zits mB mS m l).toInt ≤ l.toInt) ∧ ((zits mB mS m l).toInt = (mB m).toInt - (mS m).toInt ∨ ((zits mB mS m l).toInt = l.toInt ∧ l.toInt ≤ (mB m).toInt - (mS m).toInt)) := by
    unfold zits
    split
    · next h => rw [fa_lt] at h; omega
    · next h => rw [fa_lt] at h; omega
  have h3 : (mS m + zits mB mS m l).toInt = (mS m).toInt + (zits mB mS m l).toInt := i32_add (by omega)
  have h4 : (l - zits mB mS m l).toInt = l.toInt - (zits mB mS m l).toInt := i32_sub (by omega)
  refine ⟨h2.1, h3, by omega, h4, ?_, by omega⟩
  rcases h2.2 with h5 | h5
  · right
    rw [fa_eq]
    omega
  · left
    omega
theorem zRB_s {mB mR : Nat → Int32} {M k m : Nat} {l : Int32} {q : zR} (h : zRB mB M l q) (hm : m < M) (hu : (q.2.1 m).toInt < (mB m).toInt) : zRB mB M (l - zits mB q.2.1 m l) (zsn mB k m l q) := by
  obtain ⟨h1, h2⟩ := h
  have hm2 := h2 m hm
  have p := zits_p (mS := q.2.1) h1 hm2.1 hm2.2.1
  refine ⟨by omega, fun j hj => ?_⟩
  have hj2 := h2 j hj
  refine ⟨hj2.1, ?_⟩
  show (0 ≤ (upd q.2.1 m (q.2.1 m + zits mB q.2.1 m l) j).toInt ∧ (upd q.2.1 m (q.2.1 m + zits mB q.2.1 m l) j).toInt ≤ (mB j).toInt) ∧ ((upd q.2.1 m (q.2.1 m + zits mB q.2.1 m l) j).toInt < (mB j).toInt → (if q.2.1 m + zits mB q.2.1 m l = mB m then upd q.2.2.2.1 m (nI k) else q.2.2.2.1) j = -1)
  rw [upd_at]
  by_cases e : j = m
  · subst e
    rw [if_pos rfl]
    refine ⟨by omega, fun z => ?_⟩
    rw [if_neg (fun z2 => by rw [z2] at z; omega)]
    exact hm2.2.2 hu
  · rw [if_neg e]
    refine ⟨hj2.2.1, fun z => ?_⟩
    have := hj2.2.2 z
    split
    · rw [upd_at, if_neg e]; exact this
    · exact this
theorem zRB_tr {mB mR : Nat → Int32} {M k : Nat} : ∀ {tr : List Nat} {l : Int32} {q : zR} {l' : Int32} {q' : zR}, zTr mB mR M k tr l q l' q' → zRB mB M l q → zRB mB M l' q'
  | [], l, q, l', q', h, hb => by
    obtain ⟨rfl, rfl⟩ := h
    exact hb
  | m :: tr, l, q, l', q', h, hb => zRB_tr h.2.2 (zRB_s (mR := mR) hb h.2.1.1 h.2.1.2.1)
/-- an hour's end: no byte left, or nothing to send -/
def zEnd (mB : Nat → Int32) (M : Nat) (l : Int32) (q : zR) : Prop := l.toInt ≤ 0 ∨ ∀ m, m < M → ¬ (q.2.1 m).toInt < (mB m).toInt
theorem nar8 {m : Nat} (h : m < 128) : vp_nar .byte (nI m).toInt8.toInt32 = nI m := by
  have : ∀ k : Fin 128, vp_nar .byte (nI k.val).toInt8.toInt32 = nI k.val := by decide +kernel
  exact this ⟨m, h⟩
/-- how far the station has come: all of a higher rank, and those ahead in this one, are sent; or no byte is left -/
def zSc (mB mR mS : Nat → Int32) (M : Nat) (l : Int32) (r : Int) (j : Nat) : Prop := l.toInt ≤ 0 ∨ ((∀ m, m < M → r < (mR m).toInt → ¬ (mS m).toInt < (mB m).toInt) ∧ ∀ m, m < j → m < M → (mR m).toInt = r → ¬ (mS m).toInt < (mB m).toInt)

set_option maxRecDepth 100000 in
theorem x_isAllSent {d : Nat} {s : Nat → Int32} {a : Nat → Nat → Int32} {w : Bool} {Z : zH} {m : Nat} {Q : zQ} (hm : m < 100) (h1 : a 28 m = a 26 m → Q (some (.int 1)) (HX s a w ++ Z)) (h0 : ¬ a 28 m = a 26 m → Q (some (.int 0)) (HX s a w ++ Z)) : zG (d + 1) 36 [.ref 33, .int (nI m)] (HX s a w ++ Z) Q := by
  refine g_36 (Nat.le_of_ble_eq_true rfl) ?_
  intro X0 hX0
  have hcl : (nI m).toNatClampNeg = m := nI_clamp (by omega)
  iterate 4 refine hX0 _ _ _ _ ?_
  refine And.intro (by exact vp_in_nI (by omega) (by omega)) ?_
  rw [hcl]
  iterate 4 refine hX0 _ _ _ _ ?_
  refine And.intro (by exact vp_in_nI (by omega) (by omega)) ?_
  rw [hcl]
  refine hX0 _ _ _ _ ?_
  refine And.intro (fun c1 => ?_) (fun c1 => ?_)
  · iterate 2 refine hX0 _ _ _ _ ?_
    refine And.intro (by first | exact Or.inl rfl | exact Or.inr rfl | exact vp_in_nI (by omega) (by omega)) ?_
    first | exact h1 c1 | exact h0 c1
  · iterate 3 refine hX0 _ _ _ _ ?_
    refine And.intro (by first | exact Or.inl rfl | exact Or.inr rfl | exact vp_in_nI (by omega) (by omega)) ?_
    first | exact h1 c1 | exact h0 c1

set_option maxRecDepth 100000 in
theorem x_sendPart {d : Nat} {s : Nat → Int32} {a : Nat → Nat → Int32} {w : Bool} {Z : zH} {m k : Nat} {l : Int32} {Q : zQ} (hm : m < 100) (hk : k < 2400) (h0 : ∀ (s' : Nat → Int32) (a' : Nat → Nat → Int32), zSm [22] s s' → zSm [28, 29, 30, 31] a a' → (s' 22, a' 28, a' 29, a' 30, a' 31) = zsn (a 26) k m l (s 22, a 28, a 29, a 30, a 31) → Q (some (.int (zits (a 26) (a 28) m l))) (HX s' a' w ++ Z)) : zG (d + 2) 37 [.ref 33, .int (nI m), .int (nI k), .int l] (HX s a w ++ Z) Q := by
  refine g_37 (Nat.le_of_ble_eq_true rfl) ?_
  intro X0 hX0
  have hcl : (nI m).toNatClampNeg = m := nI_clamp (by omega)
  have hck : (nI k).toNatClampNeg = k := nI_clamp (by omega)
  iterate 5 refine hX0 _ _ _ _ ?_
  refine And.intro (by exact vp_in_nI (by omega) (by omega)) ?_
  rw [hcl]
  iterate 4 refine hX0 _ _ _ _ ?_
  refine And.intro (by exact vp_in_nI (by omega) (by omega)) ?_
  rw [hcl]
  iterate 7 refine hX0 _ _ _ _ ?_
  refine And.intro (by exact vp_in_nI (by omega) (by omega)) ?_
  rw [hcl]
  refine hX0 _ _ _ _ ?_
  refine And.intro (fun c1 => ?_) (fun c1 => ?_)
  · iterate 5 refine hX0 _ _ _ _ ?_
    refine And.intro (by exact vp_in_nI (by omega) (by omega)) ?_
    rw [hcl]
    iterate 3 refine hX0 _ _ _ _ ?_
    refine And.intro (by exact vp_in_nI (by omega) (by omega)) ?_
    refine zcast (X := X0) xa_28 ?_
    rw [hcl]
    iterate 6 refine hX0 _ _ _ _ ?_
    refine zcast (X := X0) xs_22 ?_
    iterate 3 refine hX0 _ _ _ _ ?_
    refine x_isAllSent hm (fun c2 => ?_) (fun c3 => ?_)
    · refine hX0 _ _ _ _ ?_
      refine And.intro (fun c => absurd c (by decide)) (fun _ => ?_)
      iterate 5 refine hX0 _ _ _ _ ?_
      refine And.intro (by exact vp_in_nI (by omega) (by omega)) ?_
      refine zcast (X := X0) xa_30 ?_
      rw [hcl]
      iterate 3 refine hX0 _ _ _ _ ?_
      have z1 := c1
      have z2 : upd (a 28) m (a 28 m + zits (a 26) (a 28) m l) m = a 26 m := c2
      rw [upd_at, if_pos rfl] at z2
      refine h0 _ _ (by repeat (first | exact zSm_refl | refine zSm_up (by decide) ?_)) (by repeat (first | exact zSm_refl | refine zSm_up (by decide) ?_)) ?_
      unfold zsn
      dsimp only
      rw [if_neg z1, if_pos z2, if_pos z2]
      rfl
    · refine hX0 _ _ _ _ ?_
      refine And.intro (fun _ => ?_) (fun c => absurd c (by decide))
      iterate 8 refine hX0 _ _ _ _ ?_
      refine And.intro (by exact vp_in_nI (by omega) (by omega)) ?_
      refine zcast (X := X0) xa_31 ?_
      rw [hck]
      iterate 2 refine hX0 _ _ _ _ ?_
      have z1 := c1
      have z2 : ¬ upd (a 28) m (a 28 m + zits (a 26) (a 28) m l) m = a 26 m := c3
      rw [upd_at, if_pos rfl] at z2
      refine h0 _ _ (by repeat (first | exact zSm_refl | refine zSm_up (by decide) ?_)) (by repeat (first | exact zSm_refl | refine zSm_up (by decide) ?_)) ?_
      unfold zsn
      dsimp only
      rw [if_neg z1, if_neg z2, if_neg z2]
      rw [← nar8 (m := m + 1) (by omega), ← nI_1]
      rfl
  · iterate 5 refine hX0 _ _ _ _ ?_
    refine And.intro (by exact vp_in_nI (by omega) (by omega)) ?_
    refine zcast (X := X0) xa_29 ?_
    rw [hcl]
    iterate 5 refine hX0 _ _ _ _ ?_
    refine And.intro (by exact vp_in_nI (by omega) (by omega)) ?_
    rw [hcl]
    iterate 3 refine hX0 _ _ _ _ ?_
    refine And.intro (by exact vp_in_nI (by omega) (by omega)) ?_
    refine zcast (X := X0) xa_28 ?_
    rw [hcl]
    iterate 6 refine hX0 _ _ _ _ ?_
    refine zcast (X := X0) xs_22 ?_
    iterate 3 refine hX0 _ _ _ _ ?_
    refine x_isAllSent hm (fun c4 => ?_) (fun c5 => ?_)
    · refine hX0 _ _ _ _ ?_
      refine And.intro (fun c => absurd c (by decide)) (fun _ => ?_)
      iterate 5 refine hX0 _ _ _ _ ?_
      refine And.intro (by exact vp_in_nI (by omega) (by omega)) ?_
      refine zcast (X := X0) xa_30 ?_
      rw [hcl]
      iterate 3 refine hX0 _ _ _ _ ?_
      have z1 := c1
      have z2 : upd (a 28) m (a 28 m + zits (a 26) (a 28) m l) m = a 26 m := c4
      rw [upd_at, if_pos rfl] at z2
      refine h0 _ _ (by repeat (first | exact zSm_refl | refine zSm_up (by decide) ?_)) (by repeat (first | exact zSm_refl | refine zSm_up (by decide) ?_)) ?_
      unfold zsn
      dsimp only
      rw [if_pos z1, if_pos z2, if_pos z2]
      rfl
    · refine hX0 _ _ _ _ ?_
      refine And.intro (fun _ => ?_) (fun c => absurd c (by decide))
      iterate 8 refine hX0 _ _ _ _ ?_
      refine And.intro (by exact vp_in_nI (by omega) (by omega)) ?_
      refine zcast (X := X0) xa_31 ?_
      rw [hck]
      iterate 2 refine hX0 _ _ _ _ ?_
      have z1 := c1
      have z2 : ¬ upd (a 28) m (a 28 m + zits (a 26) (a 28) m l) m = a 26 m := c5
      rw [upd_at, if_pos rfl] at z2
      refine h0 _ _ (by repeat (first | exact zSm_refl | refine zSm_up (by decide) ?_)) (by repeat (first | exact zSm_refl | refine zSm_up (by decide) ?_)) ?_
      unfold zsn
      dsimp only
      rw [if_pos z1, if_neg z2, if_neg z2]
      rw [← nar8 (m := m + 1) (by omega), ← nI_1]
      rfl

set_option maxRecDepth 100000 in
theorem x_passHour {d : Nat} {s : Nat → Int32} {a : Nat → Nat → Int32} {w : Bool} {Z : zH} {M k : Nat} {Q : zQ} (hM : s 20 = nI M) (hM2 : M ≤ 100) (hk : k < 2400) (hR : ∀ m, m < M → 0 ≤ (a 27 m).toInt ∧ (a 27 m).toInt ≤ 3) (hB : ∀ l : Int32, (0 ≤ l.toInt ∧ l.toInt ≤ 1000) → zRB (a 26) M l (s 22, a 28, a 29, a 30, a 31)) (hb : 1 ≤ (s 19).toInt ∧ (s 19).toInt ≤ 1000) (h0 : ∀ (tr : List Nat) (l' : Int32) (s' : Nat → Int32) (a' : Nat → Nat → Int32), zSm [22] s s' → zSm [28, 29, 30, 31] a a' → zTr (a 26) (a 27) M k tr (if (s 17).toInt ≤ ((k % 24 : Nat) : Int) ∧ ((k % 24 : Nat) : Int) ≤ (s 18).toInt then s 19 else 0) (s 22, a 28, a 29, a 30, a 31) l' (s' 22, a' 28, a' 29, a' 30, a' 31) → zEnd (a 26) M l' (s' 22, a' 28, a' 29, a' 30, a' 31) → Q none (HX s' a' w ++ Z)) : zG (d + 3) 38 [.ref 33, .int (nI k)] (HX s a w ++ Z) Q := by
  refine g_38 (Nat.le_of_ble_eq_true rfl) ?_
  intro X0 hX0
  have hMI : (s 20).toInt = (M : Int) := by rw [hM, nI_toInt (by omega)]
  generalize hl0 : (if (s 17).toInt ≤ ((k % 24 : Nat) : Int) ∧ ((k % 24 : Nat) : Int) ≤ (s 18).toInt then s 19 else 0) = l0 at h0
  have hl0b : 0 ≤ l0.toInt ∧ l0.toInt ≤ 1000 := by
    subst hl0
    split
    · omega
    · exact ⟨by decide, by decide⟩
  have outer : ∀ (n : Nat) (rk : Int32) (o4 : Option Value) (tr : List Nat) (l : Int32) (s' : Nat → Int32) (a' : Nat → Nat → Int32), rk.toInt = (n : Int) - 1 → n ≤ 4 → zSm [22] s s' → zSm [28, 29, 30, 31] a a' → zTr (a 26) (a 27) M k tr l0 (s 22, a 28, a 29, a 30, a 31) l (s' 22, a' 28, a' 29, a' 30, a' 31) → zSc (a 26) (a 27) (a' 28) M l rk.toInt 0 → X0 26 [some (.ref 33), some (.int (nI k)), some (.int l), some (.int rk), o4] [] (HX s' a' w ++ Z) := by
    intro n
    induction n with
    | zero =>
      intro rk o4 tr l s' a' r1 r2 q1 q2 q3 q4
      have hz0 : (0 : Int32).toInt = 0 := rfl
      iterate 2 refine hX0 _ _ _ _ ?_
      refine And.intro (fun c1 => ?_) (fun c1 => ?_)
      · refine hX0 _ _ _ _ ?_
        refine h0 tr l s' a' q1 q2 q3 ?_
        rcases q4 with q4 | q4
        · exact Or.inl q4
        · exact Or.inr (fun m hm => q4.1 m hm (by have := hR m hm; omega))
      · exfalso
        rw [fa_lt] at c1
        omega
    | succ n ih =>
      intro rk o4 tr l s' a' r1 r2 q1 q2 q3 q4
      have hz0 : (0 : Int32).toInt = 0 := rfl
      have hrk : (rk + -1).toInt = rk.toInt - 1 := i32_add (y := -1) (by have : (-1 : Int32).toInt = -1 := rfl; omega)
      have inner : ∀ (c j : Nat) (tr : List Nat) (l : Int32) (s' : Nat → Int32) (a' : Nat → Nat → Int32), M - j = c → j ≤ M → zSm [22] s s' → zSm [28, 29, 30, 31] a a' → zTr (a 26) (a 27) M k tr l0 (s 22, a 28, a 29, a 30, a 31) l (s' 22, a' 28, a' 29, a' 30, a' 31) → zSc (a 26) (a 27) (a' 28) M l rk.toInt j → X0 33 [some (.ref 33), some (.int (nI k)), some (.int l), some (.int rk), some (.int (nI j))] [] (HX s' a' w ++ Z) := by
        intro c
        induction c with
        | zero =>
          intro j tr l s' a' z1 z2 q1 q2 q3 q4
          have hJ : (nI j).toInt = (j : Int) := nI_toInt (by omega)
          have e20 : (s' 20).toInt = (M : Int) := by rw [q1 20 (by decide)]; exact hMI
          iterate 4 refine hX0 _ _ _ _ ?_
          refine And.intro (fun c1 => ?_) (fun c1 => ?_)
          · iterate 2 refine hX0 _ _ _ _ ?_
            refine ih _ _ tr l s' a' (by omega) (by omega) q1 q2 q3 ?_
            rcases q4 with q4 | q4
            · exact Or.inl q4
            · refine Or.inr ⟨fun m hm h1 => ?_, fun m h1 => absurd h1 (Nat.not_lt_zero m)⟩
              rcases Int.lt_or_le rk.toInt (a 27 m).toInt with h2 | h2
              · exact q4.1 m hm h2
              · exact q4.2 m (by omega) hm (by omega)
          · exfalso
            rw [fa_le] at c1
            omega
        | succ c ih2 =>
          intro j tr l s' a' z1 z2 q1 q2 q3 q4
          have hJ : (nI j).toInt = (j : Int) := nI_toInt (by omega)
          have hcl : (nI j).toNatClampNeg = j := nI_clamp (by omega)
          have e20 : (s' 20).toInt = (M : Int) := by rw [q1 20 (by decide)]; exact hMI
          have e26 : a' 26 = a 26 := q2 26 (by decide)
          have e27 : a' 27 = a 27 := q2 27 (by decide)
          have hm : j < 100 := by omega
          have hb2 := zRB_tr q3 (hB l0 hl0b)
          have hbj := hb2.2 j (by omega)
          have nxt : ∀ (tr : List Nat) (l : Int32) (s' : Nat → Int32) (a' : Nat → Nat → Int32), zSm [22] s s' → zSm [28, 29, 30, 31] a a' → zTr (a 26) (a 27) M k tr l0 (s 22, a 28, a 29, a 30, a 31) l (s' 22, a' 28, a' 29, a' 30, a' 31) → zSc (a 26) (a 27) (a' 28) M l rk.toInt (j + 1) → X0 77 [some (.ref 33), some (.int (nI k)), some (.int l), some (.int rk), some (.int (nI j))] [] (HX s' a' w ++ Z) := by
            intro tr l s' a' q1 q2 q3 q4
            iterate 2 refine hX0 _ _ _ _ ?_
            rw [nI_1]
            exact ih2 (j + 1) tr l s' a' (by omega) (by omega) q1 q2 q3 q4
          iterate 4 refine hX0 _ _ _ _ ?_
          refine And.intro (fun c1 => ?_) (fun c1 => ?_)
          · exfalso
            rw [fa_le] at c1
            omega
          · iterate 2 refine hX0 _ _ _ _ ?_
            refine And.intro (fun c2 => ?_) (fun c2 => ?_)
            · iterate 2 refine hX0 _ _ _ _ ?_
              rw [fa_le] at c2
              have c20 : l.toInt ≤ 0 := c2
              exact ih _ _ tr l s' a' (by omega) (by omega) q1 q2 q3 (Or.inl (by omega))
            · iterate 4 refine hX0 _ _ _ _ ?_
              refine And.intro (by exact vp_in_nI (by omega) (by omega)) ?_
              rw [hcl]
              iterate 2 refine hX0 _ _ _ _ ?_
              refine And.intro (fun c3 => ?_) (fun c3 => ?_)
              · refine nxt tr l s' a' q1 q2 q3 ?_
                rcases q4 with q4 | q4
                · exact Or.inl q4
                · refine Or.inr ⟨q4.1, fun m h1 hm h2 => ?_⟩
                  rcases Nat.lt_or_ge m j with h3 | h3
                  · exact q4.2 m h3 hm h2
                  · exfalso
                    rw [show m = j by omega, ← e27] at h2
                    exact c3 (by rw [fa_eq]; exact h2)
              · iterate 3 refine hX0 _ _ _ _ ?_
                refine x_isAllSent hm (fun c4 => ?_) (fun c5 => ?_)
                · refine hX0 _ _ _ _ ?_
                  refine And.intro (fun _ => ?_) (fun c => absurd c (by decide))
                  refine nxt tr l s' a' q1 q2 q3 ?_
                  rcases q4 with q4 | q4
                  · exact Or.inl q4
                  · refine Or.inr ⟨q4.1, fun m h1 hm h2 => ?_⟩
                    rcases Nat.lt_or_ge m j with h3 | h3
                    · exact q4.2 m h3 hm h2
                    · rw [show m = j by omega, ← e26, ← c4]
                      omega
                · refine hX0 _ _ _ _ ?_
                  refine And.intro (fun c => absurd c (by decide)) (fun _ => ?_)
                  iterate 6 refine hX0 _ _ _ _ ?_
                  refine x_sendPart hm hk (fun s2 a2 p1 p2 p3 => ?_)
                  iterate 2 refine hX0 _ _ _ _ ?_
                  have u1 : (a 27 j).toInt = rk.toInt := by rw [← e27]; exact congrArg Int32.toInt c3
                  have u2 : ¬ a' 28 j = a 26 j := by rw [← e26]; exact c5
                  have u3 : (a' 28 j).toInt < (a 26 j).toInt := by have u4 : ¬ (a' 28 j).toInt = (a 26 j).toInt := fun z => u2 ((fa_eq _ _).mpr z); have u5 : (a' 28 j).toInt ≤ (a 26 j).toInt := hbj.2.1.2; omega
                  have u6 : 0 < l.toInt := by have u7 : ¬ l ≤ 0 := c2; rw [fa_le] at u7; omega
                  have hsc : (∀ m, m < M → rk.toInt < (a 27 m).toInt → ¬ (a' 28 m).toInt < (a 26 m).toInt) ∧ ∀ m, m < j → m < M → (a 27 m).toInt = rk.toInt → ¬ (a' 28 m).toInt < (a 26 m).toInt := by rcases q4 with q4 | q4; omega; exact q4
                  have hnx : zNx (a 26) (a 27) (a' 28) M j := ⟨by omega, u3, fun m' h1 h2 => ⟨by rcases Int.lt_or_le rk.toInt (a 27 m').toInt with h3 | h3; exact absurd h2 (hsc.1 m' h1 h3); omega, fun h3 => by rcases Int.lt_or_le rk.toInt (a 27 m').toInt with h4 | h4; exact absurd h2 (hsc.1 m' h1 h4); rcases Int.lt_or_le (a 27 m').toInt rk.toInt with h5 | h5; omega; exact absurd h2 (hsc.2 m' h3 h1 (by omega))⟩⟩
                  have ht := zTr_snoc q3 u6 hnx
                  rw [e26] at p3 ⊢
                  have pz := zits_p (mS := a' 28) hb2.1 hbj.1 hbj.2.1
                  have p5 : a2 28 = upd (a' 28) j (a' 28 j + zits (a 26) (a' 28) j l) := congrArg (fun z => z.2.1) p3
                  refine nxt (tr ++ [j]) _ s2 a2 (zSm_trans q1 p1) (zSm_trans q2 p2) (by rw [p3]; exact ht) ?_
                  rcases pz.2.2.2.2.1 with h1 | h1
                  · exact Or.inl (by omega)
                  · refine Or.inr ⟨fun m hm h2 => ?_, fun m h3 hm h2 => ?_⟩
                    all_goals rw [p5, upd_at]; split; (next e => rw [h1, e]; omega)
                    · exact hsc.1 m hm h2
                    · exact hsc.2 m (by omega) hm h2
      iterate 2 refine hX0 _ _ _ _ ?_
      refine And.intro (fun c1 => ?_) (fun c1 => ?_)
      · refine hX0 _ _ _ _ ?_
        exfalso
        rw [fa_lt] at c1
        omega
      · iterate 2 refine hX0 _ _ _ _ ?_
        have kk := inner M 0 tr l s' a' rfl (by omega) q1 q2 q3 q4
        rw [nI_0] at kk
        exact kk
  iterate 3 refine hX0 _ _ _ _ ?_
  refine And.intro (by decide) ?_
  iterate 5 refine hX0 _ _ _ _ ?_
  refine r_within (x := nI k - nI k / 24 * 24) (s 17).toInt (s 18).toInt rfl rfl (fun c1 => ?_) (fun c2 => ?_)
  · refine hX0 _ _ _ _ ?_
    refine And.intro (fun _ => ?_) (fun c => absurd c (by decide))
    iterate 5 refine hX0 _ _ _ _ ?_
    rw [rem24 k hk, nI_toInt (by omega)] at c1
    rw [if_pos c1] at hl0
    rw [hl0]
    exact outer 4 3 none [] l0 s a rfl (by omega) zSm_refl zSm_refl ⟨rfl, rfl⟩ (Or.inr ⟨fun m hm h1 => by have h2 := hR m hm; have h3 : (3 : Int32).toInt = 3 := rfl; omega, fun m h1 => absurd h1 (Nat.not_lt_zero m)⟩)
  · refine hX0 _ _ _ _ ?_
    refine And.intro (fun c => absurd c (by decide)) (fun _ => ?_)
    refine hX0 _ _ _ _ ?_
    rw [rem24 k hk, nI_toInt (by omega)] at c2
    rw [if_neg c2] at hl0
    refine h0 [] l0 s a zSm_refl zSm_refl ⟨rfl, rfl⟩ (Or.inl ?_)
    rw [← hl0]
    decide
