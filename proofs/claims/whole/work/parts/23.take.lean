/-! TAKING A BOX, WHOLE -/
/-- each of n places from p on takes what the next one has -/
def zsh (f : Nat → Int32) (p : Nat) : Nat → (Nat → Int32)
  | 0 => f
  | n + 1 => zsh (upd f p (f (p + 1))) (p + 1) n
/-- the stack with the fewest above, among the first k, and how many these are -/
def zbest (A : Nat → Nat) : Nat → Option Nat × Nat
  | 0 => (none, 12)
  | k + 1 => if A k < (zbest A k).2 then (some k, A k) else zbest A k
def zfr (o : Option Nat) : Int32 := match o with
  | none => -1
  | some j => nI j
theorem zbest_p (A : Nat → Nat) : ∀ k, (zbest A k).2 ≤ 12 ∧ ((zbest A k).1 = none → (zbest A k).2 = 12) ∧ ∀ j, (zbest A k).1 = some j → j < k ∧ (zbest A k).2 = A j ∧ A j < 12
  | 0 => ⟨Nat.le_refl _, fun _ => rfl, fun j h => by cases h⟩
  | k + 1 => by
    obtain ⟨h1, h2, h3⟩ := zbest_p A k
    unfold zbest
    split
    · next h => exact ⟨by show A k ≤ 12; omega, fun q => (by cases q), fun j q => by cases q; exact ⟨by omega, rfl, by omega⟩⟩
    · exact ⟨h1, h2, fun j q => ⟨by have := (h3 j q).1; omega, (h3 j q).2⟩⟩
/-- what lies above, stack by stack -/
def zabs (f he : Nat → Int32) (kind : Int32) (st : Nat) : Nat := zfa f (st * 12 + (he st).toNatClampNeg - 1) kind (he st).toNatClampNeg 0

set_option maxRecDepth 100000 in
theorem x_remove {d : Nat} {s : Nat → Int32} {a : Nat → Nat → Int32} {w : Bool} {Z : zH} {st H ab : Nat} {Q : zQ} (hst : st < 6) (hH : a 12 st = nI H) (hH2 : H ≤ 12) (hab : ab < H) (h0 : Q none (HX (va_up (va_up s 7 (s 7 - 1)) 8 (s 8 + nI ab)) (va_up (va_up a 11 (zsh (a 11) (st * 12 + (H - 1 - ab)) ab)) 12 (upd (a 12) st (nI (H - 1)))) w ++ Z)) : zG (d + 1) 70 [.ref 14, .int (nI st), .int (nI ab)] (HX s a w ++ Z) Q := by
  refine g_70 (Nat.le_of_ble_eq_true rfl) ?_
  intro X0 hX0
  have eL : a 12 (nI st).toNatClampNeg - 1 = nI (H - 1) := by
    rw [nI_clamp (by omega), hH]
    show nI H - nI 1 = _
    rw [pk_sub (by omega)]
  have eB : nI st * 12 = nI (st * 12) := by
    show nI st * nI 12 = _
    rw [pk_mul]
  have eI : nI (H - 1) - nI ab = nI (H - 1 - ab) := pk_sub (by omega)
  have hLI : (nI (H - 1)).toInt = ((H - 1 : Nat) : Int) := nI_toInt (by omega)
  have key : ∀ (n : Nat) (f : Nat → Int32), n ≤ ab → zsh f (st * 12 + (H - 1 - n)) n = zsh (a 11) (st * 12 + (H - 1 - ab)) ab → X0 20 [some (.ref 14), some (.int (nI st)), some (.int (nI ab)), some (.int (nI (H - 1))), some (.int (nI (st * 12))), some (.int (nI (H - 1 - n)))] [] (HX s (va_up a 11 f) w ++ Z) := by
    intro n
    induction n with
    | zero =>
      intro f q1 q2
      have hJ : (nI (H - 1 - 0)).toInt = ((H - 1 - 0 : Nat) : Int) := nI_toInt (by omega)
      have ef : f = zsh (a 11) (st * 12 + (H - 1 - ab)) ab := q2
      subst ef
      iterate 3 refine hX0 _ _ _ _ ?_
      refine And.intro (fun c1 => ?_) (fun c1 => ?_)
      · iterate 5 refine hX0 _ _ _ _ ?_
        refine And.intro (by first | exact vp_in_nI (by omega) (by omega) | (rw [nI_add]; exact vp_in_nI (by omega) (by omega)) | (rw [nI_add, nI_1]; exact vp_in_nI (by omega) (by omega))) ?_
        refine zcast (X := X0) xa_12 ?_
        iterate 6 refine hX0 _ _ _ _ ?_
        refine zcast (X := X0) xs_7 ?_
        iterate 6 refine hX0 _ _ _ _ ?_
        refine zcast (X := X0) xs_8 ?_
        refine hX0 _ _ _ _ ?_
        show Q none (HX _ _ _ ++ Z)
        rw [nI_clamp (show st < 2 ^ 31 by omega)]
        exact h0
      · exfalso
        rw [fa_le] at c1
        omega
    | succ n ih =>
      intro f q1 q2
      have hJ : (nI (H - 1 - (n + 1))).toInt = ((H - 1 - (n + 1) : Nat) : Int) := nI_toInt (by omega)
      iterate 3 refine hX0 _ _ _ _ ?_
      refine And.intro (fun c1 => ?_) (fun c1 => ?_)
      · exfalso
        rw [fa_le] at c1
        omega
      · iterate 13 refine hX0 _ _ _ _ ?_
        refine And.intro (by first | exact vp_in_nI (by omega) (by omega) | (rw [nI_add]; exact vp_in_nI (by omega) (by omega)) | (rw [nI_add, nI_1]; exact vp_in_nI (by omega) (by omega))) ?_
        refine hX0 _ _ _ _ ?_
        refine And.intro (by first | exact vp_in_nI (by omega) (by omega) | (rw [nI_add]; exact vp_in_nI (by omega) (by omega)) | (rw [nI_add, nI_1]; exact vp_in_nI (by omega) (by omega))) ?_
        refine zcast (X := X0) xa_11 ?_
        iterate 2 refine hX0 _ _ _ _ ?_
        rw [bx_uu, nI_add, nI_1, nI_1, nI_clamp (by omega), nI_clamp (by omega), vu_s]
        rw [show H - 1 - (n + 1) + 1 = H - 1 - n by omega]
        refine ih _ (by omega) ?_
        rw [← q2]
        conv => rhs; unfold zsh
        rw [show st * 12 + (H - 1 - (n + 1)) + 1 = st * 12 + (H - 1 - n) by omega]
  iterate 4 refine hX0 _ _ _ _ ?_
  refine And.intro (by exact vp_in_nI (by omega) (by omega)) ?_
  iterate 11 refine hX0 _ _ _ _ ?_
  have kk := key ab (a 11) (Nat.le_refl _) rfl
  rw [zup_0, ← eI, ← eL, ← eB] at kk
  exact kk

set_option maxRecDepth 100000 in
theorem x_takeOne {d : Nat} {s : Nat → Int32} {a : Nat → Nat → Int32} {w : Bool} {Z : zH} {kind : Int32} {Q : zQ} (hh : ∀ j, j < 6 → 0 ≤ (a 12 j).toInt ∧ (a 12 j).toInt ≤ 12) (h0 : ¬ (0 ≤ kind.toInt ∧ kind.toInt ≤ 9) → Q (some (.int (-1))) (HX s a w ++ Z)) (h1 : (0 ≤ kind.toInt ∧ kind.toInt ≤ 9) → (zbest (zabs (a 11) (a 12) kind) 6).1 = none → Q (some (.int (-3))) (HX s a w ++ Z)) (h2 : ∀ j, (0 ≤ kind.toInt ∧ kind.toInt ≤ 9) → (zbest (zabs (a 11) (a 12) kind) 6).1 = some j → Q (some (.int (nI j))) (HX (va_up (va_up s 7 (s 7 - 1)) 8 (s 8 + nI (zabs (a 11) (a 12) kind j))) (va_up (va_up a 11 (zsh (a 11) (j * 12 + ((a 12 j).toNatClampNeg - 1 - zabs (a 11) (a 12) kind j)) (zabs (a 11) (a 12) kind j))) 12 (upd (a 12) j (nI ((a 12 j).toNatClampNeg - 1)))) w ++ Z)) : zG (d + 2) 71 [.ref 14, .int kind] (HX s a w ++ Z) Q := by
  refine g_71 (Nat.le_of_ble_eq_true rfl) ?_
  intro X0 hX0
  have hH : ∀ k, k < 6 → a 12 k = nI (a 12 k).toNatClampNeg := fun k hk => nI_cl _ (hh k hk).1
  have hH2 : ∀ k, k < 6 → (a 12 k).toNatClampNeg ≤ 12 := fun k hk => by
    have h5 := hh k hk
    have h6 := cl_int (a 12 k) h5.1
    omega
  have key : (0 ≤ kind.toInt ∧ kind.toInt ≤ 9) → ∀ (n k : Nat) (o5 : Option Value), 6 - k = n → k ≤ 6 → X0 20 [some (.ref 14), some (.int kind), some (.int (zfr (zbest (zabs (a 11) (a 12) kind) k).1)), some (.int (nI (zbest (zabs (a 11) (a 12) kind) k).2)), some (.int (nI k)), o5] [] (HX s a w ++ Z) := by
    intro hk9 n
    induction n with
    | zero =>
      intro k o5 q1 q2
      have hk6 : k = 6 := by omega
      subst hk6
      have hb := zbest_p (zabs (a 11) (a 12) kind) 6
      iterate 3 refine hX0 _ _ _ _ ?_
      refine And.intro (fun c1 => ?_) (fun c1 => absurd (by decide) c1)
      cases hbe : (zbest (zabs (a 11) (a 12) kind) 6).1 with
      | none =>
        iterate 3 refine hX0 _ _ _ _ ?_
        refine And.intro (fun c2 => absurd rfl c2) (fun c2 => ?_)
        iterate 2 refine hX0 _ _ _ _ ?_
        exact h1 hk9 hbe
      | some j =>
        obtain ⟨hj, hf, h12⟩ := hb.2.2 j hbe
        have hlt : zabs (a 11) (a 12) kind j < (a 12 j).toNatClampNeg := by
          rcases zfa_lt (a 11) (j * 12 + (a 12 j).toNatClampNeg - 1) kind (a 12 j).toNatClampNeg 0 with h7 | h7
          · exact absurd (show zabs (a 11) (a 12) kind j = 12 from h7) (by omega)
          · exact h7.1
        rw [hf]
        iterate 3 refine hX0 _ _ _ _ ?_
        refine And.intro (fun c2 => ?_) (fun c2 => ?_)
        · iterate 4 refine hX0 _ _ _ _ ?_
          refine x_remove hj (hH j hj) (hH2 j hj) hlt ?_
          iterate 2 refine hX0 _ _ _ _ ?_
          exact h2 j hk9 hbe
        · exfalso
          have c3 : nI j = -1 := c2
          have c4 := congrArg Int32.toInt c3
          rw [nI_toInt (by omega)] at c4
          have : ((-1 : Int32)).toInt = -1 := rfl
          omega
    | succ n ih =>
      intro k o5 q1 q2
      have hkI : (nI k).toInt = (k : Int) := nI_toInt (by omega)
      have hb := zbest_p (zabs (a 11) (a 12) kind) k
      have hFI : (nI (zbest (zabs (a 11) (a 12) kind) k).2).toInt = ((zbest (zabs (a 11) (a 12) kind) k).2 : Int) := nI_toInt (by omega)
      have hA : zabs (a 11) (a 12) kind k ≤ 12 := by
        rcases zfa_lt (a 11) (k * 12 + (a 12 k).toNatClampNeg - 1) kind (a 12 k).toNatClampNeg 0 with h7 | h7
        · exact Nat.le_of_eq h7
        · have h8 := hH2 k (by omega)
          have h9 : zabs (a 11) (a 12) kind k < (a 12 k).toNatClampNeg + 0 := h7.1
          omega
      have hAI : (nI (zabs (a 11) (a 12) kind k)).toInt = (zabs (a 11) (a 12) kind k : Int) := nI_toInt (by omega)
      iterate 3 refine hX0 _ _ _ _ ?_
      refine And.intro (fun c1 => ?_) (fun c1 => ?_)
      · exfalso
        rw [fa_le] at c1
        simp at c1
        omega
      · iterate 4 refine hX0 _ _ _ _ ?_
        refine x_above (by omega) (hH k (by omega)) (hH2 k (by omega)) ?_
        iterate 4 refine hX0 _ _ _ _ ?_
        refine And.intro (fun c3 => ?_) (fun c3 => ?_)
        · iterate 2 refine hX0 _ _ _ _ ?_
          rw [nI_1]
          have kk := ih (k + 1) (some (.int (nI (zabs (a 11) (a 12) kind k)))) (by omega) (by omega)
          unfold zbest at kk
          first | (rw [if_pos (by have e9 : ¬ nI (zbest (zabs (a 11) (a 12) kind) k).2 ≤ nI (zabs (a 11) (a 12) kind k) := c3; rw [fa_le] at e9; omega)] at kk; exact kk) | (rw [if_neg (by have e9 : nI (zbest (zabs (a 11) (a 12) kind) k).2 ≤ nI (zabs (a 11) (a 12) kind k) := c3; rw [fa_le] at e9; omega)] at kk; exact kk)
        · iterate 6 refine hX0 _ _ _ _ ?_
          rw [nI_1]
          have kk := ih (k + 1) (some (.int (nI (zabs (a 11) (a 12) kind k)))) (by omega) (by omega)
          unfold zbest at kk
          first | (rw [if_pos (by have e9 : ¬ nI (zbest (zabs (a 11) (a 12) kind) k).2 ≤ nI (zabs (a 11) (a 12) kind k) := c3; rw [fa_le] at e9; omega)] at kk; exact kk) | (rw [if_neg (by have e9 : nI (zbest (zabs (a 11) (a 12) kind) k).2 ≤ nI (zabs (a 11) (a 12) kind k) := c3; rw [fa_le] at e9; omega)] at kk; exact kk)
  iterate 4 refine hX0 _ _ _ _ ?_
  refine r_within (0) (9) rfl rfl (fun c1 => ?_) (fun c2 => ?_)
  · refine hX0 _ _ _ _ ?_
    refine And.intro (fun _ => ?_) (fun c => absurd c (by decide))
    iterate 6 refine hX0 _ _ _ _ ?_
    exact key c1 6 0 none rfl (by omega)
  · refine hX0 _ _ _ _ ?_
    refine And.intro (fun c => absurd c (by decide)) (fun _ => ?_)
    iterate 2 refine hX0 _ _ _ _ ?_
    exact h0 c2
