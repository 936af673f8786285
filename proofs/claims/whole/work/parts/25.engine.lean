/-! ENGINES -/
/-- the sums of the sets without an engine, and behind them those with it, the first k of them -/
def zdb (f : Nat → Int32) (N k : Nat) (v : Int32) : Nat → Int32 := fun i => if N ≤ i ∧ i < N + k then f (i - N) + v else f i
theorem zdb_0 (f : Nat → Int32) (N : Nat) (v : Int32) : zdb f N 0 v = f := by
  funext i
  simp only [zdb]
  rw [if_neg (by omega)]
theorem zdb_lo (f : Nat → Int32) {N k i : Nat} (v : Int32) (h : i < N) : zdb f N k v i = f i := by
  simp only [zdb]
  rw [if_neg (by omega)]
theorem zdb_s (f : Nat → Int32) {N k : Nat} (v : Int32) (h : k < N) : upd (zdb f N k v) (N + k) (f k + v) = zdb f N (k + 1) v := by
  funext i
  simp only [upd, zdb]
  by_cases hi : i = N + k
  · rw [if_pos hi, if_pos (by omega), show i - N = k by omega]
  · rw [if_neg hi]
    by_cases h1 : N ≤ i ∧ i < N + k
    · rw [if_pos h1, if_pos (by omega)]
    · rw [if_neg h1, if_neg (by omega)]
def zw123 (a : Nat → Nat → Int32) (F1 F2 F3 : Nat → Int32) : Nat → Nat → Int32 := va_up (va_up (va_up a 1 F1) 2 F2) 3 F3
theorem zw123_w (a : Nat → Nat → Int32) (F1 F2 F3 G1 G2 G3 : Nat → Int32) : va_up (va_up (va_up (zw123 a F1 F2 F3) 1 G1) 2 G2) 3 G3 = zw123 a G1 G2 G3 := by
  funext j
  simp only [zw123, va_up]
  by_cases h1 : j = 1 <;> by_cases h2 : j = 2 <;> by_cases h3 : j = 3 <;> simp [h1, h2, h3]
theorem zw123_0 (a : Nat → Nat → Int32) : zw123 a (a 1) (a 2) (a 3) = a := by
  funext j
  simp only [zw123, va_up]
  by_cases h1 : j = 1 <;> by_cases h2 : j = 2 <;> by_cases h3 : j = 3 <;> simp [h1, h2, h3]
theorem pow_sh (E : Nat) (h : E ≤ 4) : (1 : Int32) <<< (nI E &&& 31) = nI (2 ^ E) ∧ 1 ≤ 2 ^ E ∧ 2 ^ E ≤ 16 := by
  have : ∀ k : Fin 5, (1 : Int32) <<< (nI k.val &&& 31) = nI (2 ^ k.val) ∧ 1 ≤ 2 ^ k.val ∧ 2 ^ k.val ≤ 16 := by decide
  exact this ⟨E, by omega⟩
theorem p1_int (x : Int32) (h : 0 ≤ x.toInt ∧ x.toInt ≤ 100000) : (x + 1).toInt = x.toInt + 1 := i32_add (by simp; omega)
theorem p1m1 (x : Int32) : x + 1 - 1 = x := by
  rw [← Int32.toInt_inj, Int32.toInt_sub, Int32.toInt_add]
  have h := i32_rng x
  simp only [Int.bmod]
  split <;> split <;> simp at * <;> omega

set_option maxRecDepth 100000 in
theorem x_addEngine {d : Nat} {s : Nat → Int32} {a : Nat → Nat → Int32} {w : Bool} {Z : zH} {E : Nat} {x y z : Int32} {Q : zQ} (hE : E ≤ 4) (he : s 6 = nI E) (h0 : ¬ (1 ≤ x.toInt ∧ x.toInt ≤ 1000 ∧ 0 ≤ y.toInt ∧ y.toInt ≤ 1000 ∧ 0 ≤ z.toInt ∧ z.toInt ≤ 1000) → Q (some (.int (-1))) (HX s a w ++ Z)) (h1 : (1 ≤ x.toInt ∧ x.toInt ≤ 1000 ∧ 0 ≤ y.toInt ∧ y.toInt ≤ 1000 ∧ 0 ≤ z.toInt ∧ z.toInt ≤ 1000) → E = 4 → Q (some (.int (-5))) (HX s a w ++ Z)) (h2 : (1 ≤ x.toInt ∧ x.toInt ≤ 1000 ∧ 0 ≤ y.toInt ∧ y.toInt ≤ 1000 ∧ 0 ≤ z.toInt ∧ z.toInt ≤ 1000) → E < 4 → Q (some (.int (nI E))) (HX (va_up s 6 (nI (E + 1))) (zw123 a (zdb (a 1) (2 ^ E) (2 ^ E) x) (zdb (a 2) (2 ^ E) (2 ^ E) y) (zdb (a 3) (2 ^ E) (2 ^ E) z)) w ++ Z)) : zG (d + 2) 17 [.ref 3, .int x, .int y, .int z] (HX s a w ++ Z) Q := by
  refine g_17 (Nat.le_of_ble_eq_true rfl) ?_
  intro X0 hX0
  obtain ⟨eP, p1, p16⟩ := pow_sh E hE
  have heI : (s 6).toInt = (E : Int) := by rw [he, nI_toInt (by omega)]
  have hPI : (nI (2 ^ E)).toInt = ((2 ^ E : Nat) : Int) := nI_toInt (by omega)
  have key : (1 ≤ x.toInt ∧ x.toInt ≤ 1000 ∧ 0 ≤ y.toInt ∧ y.toInt ≤ 1000 ∧ 0 ≤ z.toInt ∧ z.toInt ≤ 1000) → E < 4 → ∀ (n k : Nat) (a1 : Nat → Nat → Int32), 2 ^ E - k = n → k ≤ 2 ^ E → a1 = zw123 a (zdb (a 1) (2 ^ E) k x) (zdb (a 2) (2 ^ E) k y) (zdb (a 3) (2 ^ E) k z) → X0 57 [some (.ref 3), some (.int x), some (.int y), some (.int z), some (.int (nI (2 ^ E))), some (.int (nI k))] [] (HX s a1 w ++ Z) := by
    intro hG hE4 n
    have p8 : 2 ^ E ≤ 8 := by
      rcases (by omega : E = 0 ∨ E = 1 ∨ E = 2 ∨ E = 3) with rfl | rfl | rfl | rfl <;> decide
    generalize hPe : 2 ^ E = P at *
    induction n with
    | zero =>
      intro k a1 q1 q2 q3
      have hK : (nI k).toInt = (k : Int) := nI_toInt (by omega)
      have hkP : k = P := by omega
      iterate 3 refine hX0 _ _ _ _ ?_
      refine And.intro (fun c1 => ?_) (fun c1 => ?_)
      · iterate 6 refine hX0 _ _ _ _ ?_
        refine zcast (X := X0) xs_6 ?_
        iterate 5 refine hX0 _ _ _ _ ?_
        show Q (some (.int _)) (HX _ _ _ ++ Z)
        rw [show va_up s 6 (s 6 + 1) 6 = s 6 + 1 from rfl, p1m1, he, nI_1, q3, hkP]
        exact h2 hG hE4
      · exfalso
        rw [fa_le] at c1
        omega
    | succ n ih =>
      intro k a1 q1 q2 q3
      have hK : (nI k).toInt = (k : Int) := nI_toInt (by omega)
      iterate 3 refine hX0 _ _ _ _ ?_
      refine And.intro (fun c1 => ?_) (fun c1 => ?_)
      · exfalso
        rw [fa_le] at c1
        omega
      · iterate 9 refine hX0 _ _ _ _ ?_
        refine And.intro (by first | exact vp_in_nI (by omega) (by omega) | (rw [nI_add]; exact vp_in_nI (by omega) (by omega))) ?_
        iterate 3 refine hX0 _ _ _ _ ?_
        refine And.intro (by first | exact vp_in_nI (by omega) (by omega) | (rw [nI_add]; exact vp_in_nI (by omega) (by omega))) ?_
        refine zcast (X := X0) xa_1 ?_
        iterate 9 refine hX0 _ _ _ _ ?_
        refine And.intro (by first | exact vp_in_nI (by omega) (by omega) | (rw [nI_add]; exact vp_in_nI (by omega) (by omega))) ?_
        iterate 3 refine hX0 _ _ _ _ ?_
        refine And.intro (by first | exact vp_in_nI (by omega) (by omega) | (rw [nI_add]; exact vp_in_nI (by omega) (by omega))) ?_
        refine zcast (X := X0) xa_2 ?_
        iterate 9 refine hX0 _ _ _ _ ?_
        refine And.intro (by first | exact vp_in_nI (by omega) (by omega) | (rw [nI_add]; exact vp_in_nI (by omega) (by omega))) ?_
        iterate 3 refine hX0 _ _ _ _ ?_
        refine And.intro (by first | exact vp_in_nI (by omega) (by omega) | (rw [nI_add]; exact vp_in_nI (by omega) (by omega))) ?_
        refine zcast (X := X0) xa_3 ?_
        iterate 2 refine hX0 _ _ _ _ ?_
        rw [nI_1]
        refine ih (k + 1) _ (by omega) (by omega) ?_
        rw [q3, nI_add, nI_clamp (show P + k < 2 ^ 31 by omega), nI_clamp (show k < 2 ^ 31 by omega), zw123_w]
        show zw123 a (upd (zdb (a 1) P k x) (P + k) (zdb (a 1) P k x k + x)) (upd (zdb (a 2) P k y) (P + k) (zdb (a 2) P k y k + y)) (upd (zdb (a 3) P k z) (P + k) (zdb (a 3) P k z k + z)) = _
        rw [zdb_lo _ _ (show k < P by omega), zdb_lo _ _ (show k < P by omega), zdb_lo _ _ (show k < P by omega), zdb_s _ _ (by omega), zdb_s _ _ (by omega), zdb_s _ _ (by omega)]
  iterate 4 refine hX0 _ _ _ _ ?_
  refine r_within (1) (1000) rfl rfl (fun c1 => ?_) (fun c2 => ?_)
  · refine hX0 _ _ _ _ ?_
    refine And.intro (fun c => absurd c (by decide)) (fun _ => ?_)
    iterate 4 refine hX0 _ _ _ _ ?_
    refine r_within (0) (1000) rfl rfl (fun c3 => ?_) (fun c4 => ?_)
    · refine hX0 _ _ _ _ ?_
      refine And.intro (fun c => absurd c (by decide)) (fun _ => ?_)
      iterate 4 refine hX0 _ _ _ _ ?_
      refine r_within (0) (1000) rfl rfl (fun c5 => ?_) (fun c6 => ?_)
      · refine hX0 _ _ _ _ ?_
        refine And.intro (fun _ => ?_) (fun c => absurd c (by decide))
        iterate 4 refine hX0 _ _ _ _ ?_
        refine And.intro (fun c7 => ?_) (fun c7 => ?_)
        · iterate 7 refine hX0 _ _ _ _ ?_
          have hG : (1 ≤ x.toInt ∧ x.toInt ≤ 1000 ∧ 0 ≤ y.toInt ∧ y.toInt ≤ 1000 ∧ 0 ≤ z.toInt ∧ z.toInt ≤ 1000) := by first | omega | ((try simp only [fa_le, fa_lt, fa_eq, va_up] at c1 c3 c5 c7 ⊢) <;> (try simp [-Int32.toInt_sub, -Int32.toInt_add, -Int32.toInt_mul, -Int32.toInt_neg, -Int64.toInt_sub, -Int64.toInt_add] at c1 c3 c5 c7 ⊢) <;> omega)
          have hE4 : E < 4 := by first | omega | ((try simp only [fa_le, fa_lt, fa_eq, va_up] at c1 c3 c5 c7 ⊢) <;> (try simp [-Int32.toInt_sub, -Int32.toInt_add, -Int32.toInt_mul, -Int32.toInt_neg, -Int64.toInt_sub, -Int64.toInt_add] at c1 c3 c5 c7 ⊢) <;> omega)
          have kk := key hG hE4 (2 ^ E) 0 a rfl (by omega) (by rw [zdb_0, zdb_0, zdb_0, zw123_0])
          rw [nI_0, ← eP, ← he] at kk
          exact kk
        · iterate 2 refine hX0 _ _ _ _ ?_
          first | (rcases Classical.em (¬ (1 ≤ x.toInt ∧ x.toInt ≤ 1000 ∧ 0 ≤ y.toInt ∧ y.toInt ≤ 1000 ∧ 0 ≤ z.toInt ∧ z.toInt ≤ 1000)) with hg | hg; rotate_left; (exfalso; first | omega | ((try simp only [fa_le, fa_lt, fa_eq, va_up] at c1 c3 c5 c7 ⊢) <;> (try simp [-Int32.toInt_sub, -Int32.toInt_add, -Int32.toInt_mul, -Int32.toInt_neg, -Int64.toInt_sub, -Int64.toInt_add] at c1 c3 c5 c7 ⊢) <;> omega)); exact h0 hg) | (rcases Classical.em ((1 ≤ x.toInt ∧ x.toInt ≤ 1000 ∧ 0 ≤ y.toInt ∧ y.toInt ≤ 1000 ∧ 0 ≤ z.toInt ∧ z.toInt ≤ 1000) ∧ E = 4) with hg | hg; rotate_left; (exfalso; first | omega | ((try simp only [fa_le, fa_lt, fa_eq, va_up] at c1 c3 c5 c7 ⊢) <;> (try simp [-Int32.toInt_sub, -Int32.toInt_add, -Int32.toInt_mul, -Int32.toInt_neg, -Int64.toInt_sub, -Int64.toInt_add] at c1 c3 c5 c7 ⊢) <;> omega)); exact h1 hg.1 hg.2)
      · refine hX0 _ _ _ _ ?_
        refine And.intro (fun c => absurd c (by decide)) (fun _ => ?_)
        iterate 2 refine hX0 _ _ _ _ ?_
        first | (rcases Classical.em (¬ (1 ≤ x.toInt ∧ x.toInt ≤ 1000 ∧ 0 ≤ y.toInt ∧ y.toInt ≤ 1000 ∧ 0 ≤ z.toInt ∧ z.toInt ≤ 1000)) with hg | hg; rotate_left; (exfalso; first | omega | ((try simp only [fa_le, fa_lt, fa_eq, va_up] at c1 c3 c6 ⊢) <;> (try simp [-Int32.toInt_sub, -Int32.toInt_add, -Int32.toInt_mul, -Int32.toInt_neg, -Int64.toInt_sub, -Int64.toInt_add] at c1 c3 c6 ⊢) <;> omega)); exact h0 hg) | (rcases Classical.em ((1 ≤ x.toInt ∧ x.toInt ≤ 1000 ∧ 0 ≤ y.toInt ∧ y.toInt ≤ 1000 ∧ 0 ≤ z.toInt ∧ z.toInt ≤ 1000) ∧ E = 4) with hg | hg; rotate_left; (exfalso; first | omega | ((try simp only [fa_le, fa_lt, fa_eq, va_up] at c1 c3 c6 ⊢) <;> (try simp [-Int32.toInt_sub, -Int32.toInt_add, -Int32.toInt_mul, -Int32.toInt_neg, -Int64.toInt_sub, -Int64.toInt_add] at c1 c3 c6 ⊢) <;> omega)); exact h1 hg.1 hg.2)
    · refine hX0 _ _ _ _ ?_
      refine And.intro (fun _ => ?_) (fun c => absurd c (by decide))
      iterate 2 refine hX0 _ _ _ _ ?_
      first | (rcases Classical.em (¬ (1 ≤ x.toInt ∧ x.toInt ≤ 1000 ∧ 0 ≤ y.toInt ∧ y.toInt ≤ 1000 ∧ 0 ≤ z.toInt ∧ z.toInt ≤ 1000)) with hg | hg; rotate_left; (exfalso; first | omega | ((try simp only [fa_le, fa_lt, fa_eq, va_up] at c1 c4 ⊢) <;> (try simp [-Int32.toInt_sub, -Int32.toInt_add, -Int32.toInt_mul, -Int32.toInt_neg, -Int64.toInt_sub, -Int64.toInt_add] at c1 c4 ⊢) <;> omega)); exact h0 hg) | (rcases Classical.em ((1 ≤ x.toInt ∧ x.toInt ≤ 1000 ∧ 0 ≤ y.toInt ∧ y.toInt ≤ 1000 ∧ 0 ≤ z.toInt ∧ z.toInt ≤ 1000) ∧ E = 4) with hg | hg; rotate_left; (exfalso; first | omega | ((try simp only [fa_le, fa_lt, fa_eq, va_up] at c1 c4 ⊢) <;> (try simp [-Int32.toInt_sub, -Int32.toInt_add, -Int32.toInt_mul, -Int32.toInt_neg, -Int64.toInt_sub, -Int64.toInt_add] at c1 c4 ⊢) <;> omega)); exact h1 hg.1 hg.2)
  · refine hX0 _ _ _ _ ?_
    refine And.intro (fun _ => ?_) (fun c => absurd c (by decide))
    iterate 2 refine hX0 _ _ _ _ ?_
    first | (rcases Classical.em (¬ (1 ≤ x.toInt ∧ x.toInt ≤ 1000 ∧ 0 ≤ y.toInt ∧ y.toInt ≤ 1000 ∧ 0 ≤ z.toInt ∧ z.toInt ≤ 1000)) with hg | hg; rotate_left; (exfalso; first | omega | ((try simp only [fa_le, fa_lt, fa_eq, va_up] at c2 ⊢) <;> (try simp [-Int32.toInt_sub, -Int32.toInt_add, -Int32.toInt_mul, -Int32.toInt_neg, -Int64.toInt_sub, -Int64.toInt_add] at c2 ⊢) <;> omega)); exact h0 hg) | (rcases Classical.em ((1 ≤ x.toInt ∧ x.toInt ≤ 1000 ∧ 0 ≤ y.toInt ∧ y.toInt ≤ 1000 ∧ 0 ≤ z.toInt ∧ z.toInt ≤ 1000) ∧ E = 4) with hg | hg; rotate_left; (exfalso; first | omega | ((try simp only [fa_le, fa_lt, fa_eq, va_up] at c2 ⊢) <;> (try simp [-Int32.toInt_sub, -Int32.toInt_add, -Int32.toInt_mul, -Int32.toInt_neg, -Int64.toInt_sub, -Int64.toInt_add] at c2 ⊢) <;> omega)); exact h1 hg.1 hg.2)

set_option maxRecDepth 100000 in
theorem x_engine {d : Nat} {s : Nat → Int32} {a : Nat → Nat → Int32} {w : Bool} {Z : zH} {E : Nat} {x y z : Int32} {Q : zQ} (hE : E ≤ 4) (he : s 6 = nI E) (h0 : ¬ (1 ≤ x.toInt ∧ x.toInt ≤ 1000 ∧ 0 ≤ y.toInt ∧ y.toInt ≤ 1000 ∧ 0 ≤ z.toInt ∧ z.toInt ≤ 1000) → Q (some (.int (-1))) (HX (va_up s 2 (-1)) a w ++ Z)) (h1 : (1 ≤ x.toInt ∧ x.toInt ≤ 1000 ∧ 0 ≤ y.toInt ∧ y.toInt ≤ 1000 ∧ 0 ≤ z.toInt ∧ z.toInt ≤ 1000) → E = 4 → Q (some (.int (-5))) (HX (va_up s 2 (-5)) a w ++ Z)) (h2 : (1 ≤ x.toInt ∧ x.toInt ≤ 1000 ∧ 0 ≤ y.toInt ∧ y.toInt ≤ 1000 ∧ 0 ≤ z.toInt ∧ z.toInt ≤ 1000) → E < 4 → Q (some (.int (nI E))) (HX (va_up (va_up s 6 (nI (E + 1))) 2 (zcode (nI E))) (zw123 a (zdb (a 1) (2 ^ E) (2 ^ E) x) (zdb (a 2) (2 ^ E) (2 ^ E) y) (zdb (a 3) (2 ^ E) (2 ^ E) z)) w ++ Z)) : zG (d + 3) 78 [.ref 0, .int x, .int y, .int z] (HX s a w ++ Z) Q := by
  refine g_78 (Nat.le_of_ble_eq_true rfl) ?_
  intro X0 hX0
  iterate 7 refine hX0 _ _ _ _ ?_
  refine x_addEngine hE he (fun c1 => ?_) (fun c1 c2 => ?_) (fun c1 c2 => ?_)
  · refine hX0 _ _ _ _ ?_
    refine r_answered ?_
    refine hX0 _ _ _ _ ?_
    exact h0 c1
  · refine hX0 _ _ _ _ ?_
    refine r_answered ?_
    refine hX0 _ _ _ _ ?_
    exact h1 c1 c2
  · refine hX0 _ _ _ _ ?_
    refine r_answered ?_
    refine hX0 _ _ _ _ ?_
    exact h2 c1 c2

set_option maxRecDepth 100000 in
theorem y_engine {d : Nat} {s : Nat → Int32} {a : Nat → Nat → Int32} {w : Bool} {t : Nat → Int32} {b : Nat → Nat → Int32} {u : Nat → Int64} {c : Nat → Nat → Int64} {x y z : Int32} {Q : zQ} (hp : 0 ≤ (t 7).toInt ∧ (t 7).toInt ≤ 4) (h0 : (¬ (1 ≤ x.toInt ∧ x.toInt ≤ 1000 ∧ 0 ≤ y.toInt ∧ y.toInt ≤ 1000 ∧ 0 ≤ z.toInt ∧ z.toInt ≤ 1000)) → Q (some (.int (-1))) (HX s a w ++ HM (va_up (va_up t 0 (0)) 1 (-1)) b u c)) (h1 : ((1 ≤ x.toInt ∧ x.toInt ≤ 1000 ∧ 0 ≤ y.toInt ∧ y.toInt ≤ 1000 ∧ 0 ≤ z.toInt ∧ z.toInt ≤ 1000) ∧ (t 7).toInt = 4) → Q (some (.int (-5))) (HX s a w ++ HM (va_up (va_up t 0 (0)) 1 (-5)) b u c)) (h2 : ((1 ≤ x.toInt ∧ x.toInt ≤ 1000 ∧ 0 ≤ y.toInt ∧ y.toInt ≤ 1000 ∧ 0 ≤ z.toInt ∧ z.toInt ≤ 1000) ∧ (t 7).toInt < 4) → Q (some (.int (t 7 + 1 - 1))) (HX s a w ++ HM (va_up (va_up (va_up t 0 (0)) 7 (t 7 + 1)) 1 (zcode (t 7 + 1 - 1))) (va_up (va_up (va_up b 9 (upd (b 9) (t 7).toNatClampNeg x)) 10 (upd (b 10) (t 7).toNatClampNeg y)) 11 (upd (b 11) (t 7).toNatClampNeg z)) u c)) : zG (d + 2) 113 [.ref 56, .int x, .int y, .int z] (HX s a w ++ HM t b u c) Q := by
  refine g_113 (Nat.le_of_ble_eq_true rfl) ?_
  intro X0 hX0
  iterate 3 refine hX0 _ _ _ _ ?_
  refine zcast (X := X0) yt_0 ?_
  iterate 5 refine hX0 _ _ _ _ ?_
  refine r_in (1) (1000) rfl rfl (fun c1 => ?_) (fun c2 => ?_)
  · refine hX0 _ _ _ _ ?_
    refine And.intro (fun c => absurd c (by decide)) (fun _ => ?_)
    iterate 5 refine hX0 _ _ _ _ ?_
    refine r_in (0) (1000) rfl rfl (fun c3 => ?_) (fun c4 => ?_)
    · refine hX0 _ _ _ _ ?_
      refine And.intro (fun c => absurd c (by decide)) (fun _ => ?_)
      iterate 5 refine hX0 _ _ _ _ ?_
      refine r_in (0) (1000) rfl rfl (fun c5 => ?_) (fun c6 => ?_)
      · refine hX0 _ _ _ _ ?_
        refine And.intro (fun _ => ?_) (fun c => absurd c (by decide))
        iterate 4 refine hX0 _ _ _ _ ?_
        refine And.intro (fun c7 => ?_) (fun c7 => ?_)
        · iterate 6 refine hX0 _ _ _ _ ?_
          refine And.intro (by rw [vp_in_iff]; first | omega | ((try simp only [fa_le, fa_lt, fa_eq, va_up] at c1 c3 c5 c7 ⊢) <;> (try simp [-Int32.toInt_sub, -Int32.toInt_add, -Int32.toInt_mul, -Int32.toInt_neg, -Int64.toInt_sub, -Int64.toInt_add] at c1 c3 c5 c7 ⊢) <;> omega)) ?_
          refine zcast (X := X0) yb_9 ?_
          iterate 6 refine hX0 _ _ _ _ ?_
          refine And.intro (by rw [vp_in_iff]; first | omega | ((try simp only [fa_le, fa_lt, fa_eq, va_up] at c1 c3 c5 c7 ⊢) <;> (try simp [-Int32.toInt_sub, -Int32.toInt_add, -Int32.toInt_mul, -Int32.toInt_neg, -Int64.toInt_sub, -Int64.toInt_add] at c1 c3 c5 c7 ⊢) <;> omega)) ?_
          refine zcast (X := X0) yb_10 ?_
          iterate 6 refine hX0 _ _ _ _ ?_
          refine And.intro (by rw [vp_in_iff]; first | omega | ((try simp only [fa_le, fa_lt, fa_eq, va_up] at c1 c3 c5 c7 ⊢) <;> (try simp [-Int32.toInt_sub, -Int32.toInt_add, -Int32.toInt_mul, -Int32.toInt_neg, -Int64.toInt_sub, -Int64.toInt_add] at c1 c3 c5 c7 ⊢) <;> omega)) ?_
          refine zcast (X := X0) yb_11 ?_
          iterate 6 refine hX0 _ _ _ _ ?_
          refine zcast (X := X0) yt_7 ?_
          iterate 6 refine hX0 _ _ _ _ ?_
          refine r_told ?_
          refine hX0 _ _ _ _ ?_
          first | (exfalso; first | omega | ((try simp only [fa_le, fa_lt, fa_eq, va_up] at c1 c3 c5 c7 ⊢) <;> (try simp [-Int32.toInt_sub, -Int32.toInt_add, -Int32.toInt_mul, -Int32.toInt_neg, -Int64.toInt_sub, -Int64.toInt_add] at c1 c3 c5 c7 ⊢) <;> omega)) | (rcases Classical.em (¬ (1 ≤ x.toInt ∧ x.toInt ≤ 1000 ∧ 0 ≤ y.toInt ∧ y.toInt ≤ 1000 ∧ 0 ≤ z.toInt ∧ z.toInt ≤ 1000)) with hg | hg; rotate_left; (exfalso; first | omega | ((try simp only [fa_le, fa_lt, fa_eq, va_up] at c1 c3 c5 c7 ⊢) <;> (try simp [-Int32.toInt_sub, -Int32.toInt_add, -Int32.toInt_mul, -Int32.toInt_neg, -Int64.toInt_sub, -Int64.toInt_add] at c1 c3 c5 c7 ⊢) <;> omega)); exact h0 hg) | (rcases Classical.em ((1 ≤ x.toInt ∧ x.toInt ≤ 1000 ∧ 0 ≤ y.toInt ∧ y.toInt ≤ 1000 ∧ 0 ≤ z.toInt ∧ z.toInt ≤ 1000) ∧ (t 7).toInt = 4) with hg | hg; rotate_left; (exfalso; first | omega | ((try simp only [fa_le, fa_lt, fa_eq, va_up] at c1 c3 c5 c7 ⊢) <;> (try simp [-Int32.toInt_sub, -Int32.toInt_add, -Int32.toInt_mul, -Int32.toInt_neg, -Int64.toInt_sub, -Int64.toInt_add] at c1 c3 c5 c7 ⊢) <;> omega)); exact h1 hg) | (rcases Classical.em ((1 ≤ x.toInt ∧ x.toInt ≤ 1000 ∧ 0 ≤ y.toInt ∧ y.toInt ≤ 1000 ∧ 0 ≤ z.toInt ∧ z.toInt ≤ 1000) ∧ (t 7).toInt < 4) with hg | hg; rotate_left; (exfalso; first | omega | ((try simp only [fa_le, fa_lt, fa_eq, va_up] at c1 c3 c5 c7 ⊢) <;> (try simp [-Int32.toInt_sub, -Int32.toInt_add, -Int32.toInt_mul, -Int32.toInt_neg, -Int64.toInt_sub, -Int64.toInt_add] at c1 c3 c5 c7 ⊢) <;> omega)); exact h2 hg)
        · iterate 3 refine hX0 _ _ _ _ ?_
          refine r_told ?_
          refine hX0 _ _ _ _ ?_
          first | (exfalso; first | omega | ((try simp only [fa_le, fa_lt, fa_eq, va_up] at c1 c3 c5 c7 ⊢) <;> (try simp [-Int32.toInt_sub, -Int32.toInt_add, -Int32.toInt_mul, -Int32.toInt_neg, -Int64.toInt_sub, -Int64.toInt_add] at c1 c3 c5 c7 ⊢) <;> omega)) | (rcases Classical.em (¬ (1 ≤ x.toInt ∧ x.toInt ≤ 1000 ∧ 0 ≤ y.toInt ∧ y.toInt ≤ 1000 ∧ 0 ≤ z.toInt ∧ z.toInt ≤ 1000)) with hg | hg; rotate_left; (exfalso; first | omega | ((try simp only [fa_le, fa_lt, fa_eq, va_up] at c1 c3 c5 c7 ⊢) <;> (try simp [-Int32.toInt_sub, -Int32.toInt_add, -Int32.toInt_mul, -Int32.toInt_neg, -Int64.toInt_sub, -Int64.toInt_add] at c1 c3 c5 c7 ⊢) <;> omega)); exact h0 hg) | (rcases Classical.em ((1 ≤ x.toInt ∧ x.toInt ≤ 1000 ∧ 0 ≤ y.toInt ∧ y.toInt ≤ 1000 ∧ 0 ≤ z.toInt ∧ z.toInt ≤ 1000) ∧ (t 7).toInt = 4) with hg | hg; rotate_left; (exfalso; first | omega | ((try simp only [fa_le, fa_lt, fa_eq, va_up] at c1 c3 c5 c7 ⊢) <;> (try simp [-Int32.toInt_sub, -Int32.toInt_add, -Int32.toInt_mul, -Int32.toInt_neg, -Int64.toInt_sub, -Int64.toInt_add] at c1 c3 c5 c7 ⊢) <;> omega)); exact h1 hg) | (rcases Classical.em ((1 ≤ x.toInt ∧ x.toInt ≤ 1000 ∧ 0 ≤ y.toInt ∧ y.toInt ≤ 1000 ∧ 0 ≤ z.toInt ∧ z.toInt ≤ 1000) ∧ (t 7).toInt < 4) with hg | hg; rotate_left; (exfalso; first | omega | ((try simp only [fa_le, fa_lt, fa_eq, va_up] at c1 c3 c5 c7 ⊢) <;> (try simp [-Int32.toInt_sub, -Int32.toInt_add, -Int32.toInt_mul, -Int32.toInt_neg, -Int64.toInt_sub, -Int64.toInt_add] at c1 c3 c5 c7 ⊢) <;> omega)); exact h2 hg)
      · refine hX0 _ _ _ _ ?_
        refine And.intro (fun c => absurd c (by decide)) (fun _ => ?_)
        iterate 3 refine hX0 _ _ _ _ ?_
        refine r_told ?_
        refine hX0 _ _ _ _ ?_
        first | (exfalso; first | omega | ((try simp only [fa_le, fa_lt, fa_eq, va_up] at c1 c3 c6 ⊢) <;> (try simp [-Int32.toInt_sub, -Int32.toInt_add, -Int32.toInt_mul, -Int32.toInt_neg, -Int64.toInt_sub, -Int64.toInt_add] at c1 c3 c6 ⊢) <;> omega)) | (rcases Classical.em (¬ (1 ≤ x.toInt ∧ x.toInt ≤ 1000 ∧ 0 ≤ y.toInt ∧ y.toInt ≤ 1000 ∧ 0 ≤ z.toInt ∧ z.toInt ≤ 1000)) with hg | hg; rotate_left; (exfalso; first | omega | ((try simp only [fa_le, fa_lt, fa_eq, va_up] at c1 c3 c6 ⊢) <;> (try simp [-Int32.toInt_sub, -Int32.toInt_add, -Int32.toInt_mul, -Int32.toInt_neg, -Int64.toInt_sub, -Int64.toInt_add] at c1 c3 c6 ⊢) <;> omega)); exact h0 hg) | (rcases Classical.em ((1 ≤ x.toInt ∧ x.toInt ≤ 1000 ∧ 0 ≤ y.toInt ∧ y.toInt ≤ 1000 ∧ 0 ≤ z.toInt ∧ z.toInt ≤ 1000) ∧ (t 7).toInt = 4) with hg | hg; rotate_left; (exfalso; first | omega | ((try simp only [fa_le, fa_lt, fa_eq, va_up] at c1 c3 c6 ⊢) <;> (try simp [-Int32.toInt_sub, -Int32.toInt_add, -Int32.toInt_mul, -Int32.toInt_neg, -Int64.toInt_sub, -Int64.toInt_add] at c1 c3 c6 ⊢) <;> omega)); exact h1 hg) | (rcases Classical.em ((1 ≤ x.toInt ∧ x.toInt ≤ 1000 ∧ 0 ≤ y.toInt ∧ y.toInt ≤ 1000 ∧ 0 ≤ z.toInt ∧ z.toInt ≤ 1000) ∧ (t 7).toInt < 4) with hg | hg; rotate_left; (exfalso; first | omega | ((try simp only [fa_le, fa_lt, fa_eq, va_up] at c1 c3 c6 ⊢) <;> (try simp [-Int32.toInt_sub, -Int32.toInt_add, -Int32.toInt_mul, -Int32.toInt_neg, -Int64.toInt_sub, -Int64.toInt_add] at c1 c3 c6 ⊢) <;> omega)); exact h2 hg)
    · refine hX0 _ _ _ _ ?_
      refine And.intro (fun _ => ?_) (fun c => absurd c (by decide))
      iterate 3 refine hX0 _ _ _ _ ?_
      refine r_told ?_
      refine hX0 _ _ _ _ ?_
      first | (exfalso; first | omega | ((try simp only [fa_le, fa_lt, fa_eq, va_up] at c1 c4 ⊢) <;> (try simp [-Int32.toInt_sub, -Int32.toInt_add, -Int32.toInt_mul, -Int32.toInt_neg, -Int64.toInt_sub, -Int64.toInt_add] at c1 c4 ⊢) <;> omega)) | (rcases Classical.em (¬ (1 ≤ x.toInt ∧ x.toInt ≤ 1000 ∧ 0 ≤ y.toInt ∧ y.toInt ≤ 1000 ∧ 0 ≤ z.toInt ∧ z.toInt ≤ 1000)) with hg | hg; rotate_left; (exfalso; first | omega | ((try simp only [fa_le, fa_lt, fa_eq, va_up] at c1 c4 ⊢) <;> (try simp [-Int32.toInt_sub, -Int32.toInt_add, -Int32.toInt_mul, -Int32.toInt_neg, -Int64.toInt_sub, -Int64.toInt_add] at c1 c4 ⊢) <;> omega)); exact h0 hg) | (rcases Classical.em ((1 ≤ x.toInt ∧ x.toInt ≤ 1000 ∧ 0 ≤ y.toInt ∧ y.toInt ≤ 1000 ∧ 0 ≤ z.toInt ∧ z.toInt ≤ 1000) ∧ (t 7).toInt = 4) with hg | hg; rotate_left; (exfalso; first | omega | ((try simp only [fa_le, fa_lt, fa_eq, va_up] at c1 c4 ⊢) <;> (try simp [-Int32.toInt_sub, -Int32.toInt_add, -Int32.toInt_mul, -Int32.toInt_neg, -Int64.toInt_sub, -Int64.toInt_add] at c1 c4 ⊢) <;> omega)); exact h1 hg) | (rcases Classical.em ((1 ≤ x.toInt ∧ x.toInt ≤ 1000 ∧ 0 ≤ y.toInt ∧ y.toInt ≤ 1000 ∧ 0 ≤ z.toInt ∧ z.toInt ≤ 1000) ∧ (t 7).toInt < 4) with hg | hg; rotate_left; (exfalso; first | omega | ((try simp only [fa_le, fa_lt, fa_eq, va_up] at c1 c4 ⊢) <;> (try simp [-Int32.toInt_sub, -Int32.toInt_add, -Int32.toInt_mul, -Int32.toInt_neg, -Int64.toInt_sub, -Int64.toInt_add] at c1 c4 ⊢) <;> omega)); exact h2 hg)
  · refine hX0 _ _ _ _ ?_
    refine And.intro (fun _ => ?_) (fun c => absurd c (by decide))
    iterate 3 refine hX0 _ _ _ _ ?_
    refine r_told ?_
    refine hX0 _ _ _ _ ?_
    first | (exfalso; first | omega | ((try simp only [fa_le, fa_lt, fa_eq, va_up] at c2 ⊢) <;> (try simp [-Int32.toInt_sub, -Int32.toInt_add, -Int32.toInt_mul, -Int32.toInt_neg, -Int64.toInt_sub, -Int64.toInt_add] at c2 ⊢) <;> omega)) | (rcases Classical.em (¬ (1 ≤ x.toInt ∧ x.toInt ≤ 1000 ∧ 0 ≤ y.toInt ∧ y.toInt ≤ 1000 ∧ 0 ≤ z.toInt ∧ z.toInt ≤ 1000)) with hg | hg; rotate_left; (exfalso; first | omega | ((try simp only [fa_le, fa_lt, fa_eq, va_up] at c2 ⊢) <;> (try simp [-Int32.toInt_sub, -Int32.toInt_add, -Int32.toInt_mul, -Int32.toInt_neg, -Int64.toInt_sub, -Int64.toInt_add] at c2 ⊢) <;> omega)); exact h0 hg) | (rcases Classical.em ((1 ≤ x.toInt ∧ x.toInt ≤ 1000 ∧ 0 ≤ y.toInt ∧ y.toInt ≤ 1000 ∧ 0 ≤ z.toInt ∧ z.toInt ≤ 1000) ∧ (t 7).toInt = 4) with hg | hg; rotate_left; (exfalso; first | omega | ((try simp only [fa_le, fa_lt, fa_eq, va_up] at c2 ⊢) <;> (try simp [-Int32.toInt_sub, -Int32.toInt_add, -Int32.toInt_mul, -Int32.toInt_neg, -Int64.toInt_sub, -Int64.toInt_add] at c2 ⊢) <;> omega)); exact h1 hg) | (rcases Classical.em ((1 ≤ x.toInt ∧ x.toInt ≤ 1000 ∧ 0 ≤ y.toInt ∧ y.toInt ≤ 1000 ∧ 0 ≤ z.toInt ∧ z.toInt ≤ 1000) ∧ (t 7).toInt < 4) with hg | hg; rotate_left; (exfalso; first | omega | ((try simp only [fa_le, fa_lt, fa_eq, va_up] at c2 ⊢) <;> (try simp [-Int32.toInt_sub, -Int32.toInt_add, -Int32.toInt_mul, -Int32.toInt_neg, -Int64.toInt_sub, -Int64.toInt_add] at c2 ⊢) <;> omega)); exact h2 hg)
