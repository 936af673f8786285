/-! SORT AND WORTH -/
theorem rt_end (wo : Int64) : zRt 0 wo (-1) := by
  refine ⟨by decide, ⟨?_, ?_, ?_, ?_, ?_, ?_, ?_, ?_⟩, ⟨?_, ?_, ?_, ?_⟩, by decide, fun z => absurd z (by decide)⟩
  all_goals exact ⟨fun z => absurd z.1 (by decide), fun z => absurd z (by decide)⟩

theorem rt_word {f g : Nat → Int32} {q e : Nat} {wo : Int64} {v : Int32} (ht : zTp f g) (hqe : q < e) (hl : ∀ i, q ≤ i → i < e → zlt (g i)) (hw : wo.toInt = zWv g q (e - q)) (h : zTw f q e v) : zRt 1 wo v := by
  have hl' : ∀ i, i < e - q → zlt (g (q + i)) := fun i hi => hl (q + i) (by omega) (by omega)
  have k0 := word_0 ht hqe hl'
  rw [← hw] at k0
  have k1 := word_1 ht hqe hl'
  rw [← hw] at k1
  have k2 := word_2 ht hqe hl'
  rw [← hw] at k2
  have k3 := word_3 ht hqe hl'
  rw [← hw] at k3
  have k4 := word_4 ht hqe hl'
  rw [← hw] at k4
  have k5 := word_5 ht hqe hl'
  rw [← hw] at k5
  have k6 := word_6 ht hqe hl'
  rw [← hw] at k6
  have k7 := word_7 ht hqe hl'
  rw [← hw] at k7
  rcases h with ⟨rfl, h⟩ | ⟨rfl, h⟩ | ⟨rfl, h⟩ | ⟨rfl, h⟩ | ⟨rfl, h⟩ | ⟨rfl, h⟩ | ⟨rfl, h⟩ | ⟨rfl, h⟩ | ⟨rfl, h0, h1, h2, h3, h4, h5, h6, h7⟩
  · have hv := k0.mp h
    refine ⟨by decide, ⟨by rw [hv]; decide, by rw [hv]; decide, by rw [hv]; decide, by rw [hv]; decide, by rw [hv]; decide, by rw [hv]; decide, by rw [hv]; decide, by rw [hv]; decide⟩, ⟨⟨fun z => absurd z.1 (by decide), fun z => absurd z (by decide)⟩, ⟨fun z => absurd z.1 (by decide), fun z => absurd z (by decide)⟩, ⟨fun z => absurd z.1 (by decide), fun z => absurd z (by decide)⟩, ⟨fun z => absurd z.1 (by decide), fun z => absurd z (by decide)⟩⟩, by decide, fun z => absurd z (by decide)⟩
  · have hv := k1.mp h
    refine ⟨by decide, ⟨by rw [hv]; decide, by rw [hv]; decide, by rw [hv]; decide, by rw [hv]; decide, by rw [hv]; decide, by rw [hv]; decide, by rw [hv]; decide, by rw [hv]; decide⟩, ⟨⟨fun z => absurd z.1 (by decide), fun z => absurd z (by decide)⟩, ⟨fun z => absurd z.1 (by decide), fun z => absurd z (by decide)⟩, ⟨fun z => absurd z.1 (by decide), fun z => absurd z (by decide)⟩, ⟨fun z => absurd z.1 (by decide), fun z => absurd z (by decide)⟩⟩, by decide, fun z => absurd z (by decide)⟩
  · have hv := k2.mp h
    refine ⟨by decide, ⟨by rw [hv]; decide, by rw [hv]; decide, by rw [hv]; decide, by rw [hv]; decide, by rw [hv]; decide, by rw [hv]; decide, by rw [hv]; decide, by rw [hv]; decide⟩, ⟨⟨fun z => absurd z.1 (by decide), fun z => absurd z (by decide)⟩, ⟨fun z => absurd z.1 (by decide), fun z => absurd z (by decide)⟩, ⟨fun z => absurd z.1 (by decide), fun z => absurd z (by decide)⟩, ⟨fun z => absurd z.1 (by decide), fun z => absurd z (by decide)⟩⟩, by decide, fun z => absurd z (by decide)⟩
  · have hv := k3.mp h
    refine ⟨by decide, ⟨by rw [hv]; decide, by rw [hv]; decide, by rw [hv]; decide, by rw [hv]; decide, by rw [hv]; decide, by rw [hv]; decide, by rw [hv]; decide, by rw [hv]; decide⟩, ⟨⟨fun z => absurd z.1 (by decide), fun z => absurd z (by decide)⟩, ⟨fun z => absurd z.1 (by decide), fun z => absurd z (by decide)⟩, ⟨fun z => absurd z.1 (by decide), fun z => absurd z (by decide)⟩, ⟨fun z => absurd z.1 (by decide), fun z => absurd z (by decide)⟩⟩, by decide, fun z => absurd z (by decide)⟩
  · have hv := k4.mp h
    refine ⟨by decide, ⟨by rw [hv]; decide, by rw [hv]; decide, by rw [hv]; decide, by rw [hv]; decide, by rw [hv]; decide, by rw [hv]; decide, by rw [hv]; decide, by rw [hv]; decide⟩, ⟨⟨fun z => absurd z.1 (by decide), fun z => absurd z (by decide)⟩, ⟨fun z => absurd z.1 (by decide), fun z => absurd z (by decide)⟩, ⟨fun z => absurd z.1 (by decide), fun z => absurd z (by decide)⟩, ⟨fun z => absurd z.1 (by decide), fun z => absurd z (by decide)⟩⟩, by decide, fun z => absurd z (by decide)⟩
  · have hv := k5.mp h
    refine ⟨by decide, ⟨by rw [hv]; decide, by rw [hv]; decide, by rw [hv]; decide, by rw [hv]; decide, by rw [hv]; decide, by rw [hv]; decide, by rw [hv]; decide, by rw [hv]; decide⟩, ⟨⟨fun z => absurd z.1 (by decide), fun z => absurd z (by decide)⟩, ⟨fun z => absurd z.1 (by decide), fun z => absurd z (by decide)⟩, ⟨fun z => absurd z.1 (by decide), fun z => absurd z (by decide)⟩, ⟨fun z => absurd z.1 (by decide), fun z => absurd z (by decide)⟩⟩, by decide, fun z => absurd z (by decide)⟩
  · have hv := k6.mp h
    refine ⟨by decide, ⟨by rw [hv]; decide, by rw [hv]; decide, by rw [hv]; decide, by rw [hv]; decide, by rw [hv]; decide, by rw [hv]; decide, by rw [hv]; decide, by rw [hv]; decide⟩, ⟨⟨fun z => absurd z.1 (by decide), fun z => absurd z (by decide)⟩, ⟨fun z => absurd z.1 (by decide), fun z => absurd z (by decide)⟩, ⟨fun z => absurd z.1 (by decide), fun z => absurd z (by decide)⟩, ⟨fun z => absurd z.1 (by decide), fun z => absurd z (by decide)⟩⟩, by decide, fun z => absurd z (by decide)⟩
  · have hv := k7.mp h
    refine ⟨by decide, ⟨by rw [hv]; decide, by rw [hv]; decide, by rw [hv]; decide, by rw [hv]; decide, by rw [hv]; decide, by rw [hv]; decide, by rw [hv]; decide, by rw [hv]; decide⟩, ⟨⟨fun z => absurd z.1 (by decide), fun z => absurd z (by decide)⟩, ⟨fun z => absurd z.1 (by decide), fun z => absurd z (by decide)⟩, ⟨fun z => absurd z.1 (by decide), fun z => absurd z (by decide)⟩, ⟨fun z => absurd z.1 (by decide), fun z => absurd z (by decide)⟩⟩, by decide, fun z => absurd z (by decide)⟩
  · refine ⟨by decide, ⟨⟨fun z => absurd (k0.mpr z.2) h0, fun z => absurd z (by decide)⟩, ⟨fun z => absurd (k1.mpr z.2) h1, fun z => absurd z (by decide)⟩, ⟨fun z => absurd (k2.mpr z.2) h2, fun z => absurd z (by decide)⟩, ⟨fun z => absurd (k3.mpr z.2) h3, fun z => absurd z (by decide)⟩, ⟨fun z => absurd (k4.mpr z.2) h4, fun z => absurd z (by decide)⟩, ⟨fun z => absurd (k5.mpr z.2) h5, fun z => absurd z (by decide)⟩, ⟨fun z => absurd (k6.mpr z.2) h6, fun z => absurd z (by decide)⟩, ⟨fun z => absurd (k7.mpr z.2) h7, fun z => absurd z (by decide)⟩⟩, ⟨⟨fun z => absurd z.1 (by decide), fun z => absurd z (by decide)⟩, ⟨fun z => absurd z.1 (by decide), fun z => absurd z (by decide)⟩, ⟨fun z => absurd z.1 (by decide), fun z => absurd z (by decide)⟩, ⟨fun z => absurd z.1 (by decide), fun z => absurd z (by decide)⟩⟩, by decide, fun z => absurd z (by decide)⟩

theorem rt_num {g : Nat → Int32} {q e : Nat} {wo : Int64} {v : Int32} (hqe : q < e) (hl : ∀ i, q ≤ i → i < e → zdg (g i)) (hw : wo.toInt = zRv g q (e - q)) (h : v.toInt = zNv g q (e - q)) : zRt 2 wo v := by
  have hn := zNR (g := g) (p := q) (e - q) (fun i hi => hl (q + i) (by omega) (by omega))
  have neg : ∀ x : Int32, x.toInt < 0 → ¬ v = x := fun x hx z => by rw [z] at h; omega
  refine ⟨⟨fun z => absurd z (by decide), fun z => absurd z (neg _ (by decide))⟩, ⟨?_, ?_, ?_, ?_, ?_, ?_, ?_, ?_⟩, ⟨?_, ?_, ?_, ?_⟩, ⟨fun _ => by omega, fun _ => rfl⟩, fun _ => ⟨fun z => by omega, fun z => by omega⟩⟩
  all_goals exact ⟨fun z => absurd z.1 (by decide), fun z => absurd z (neg _ (by decide))⟩
theorem rt_sign {x y : Int32} {wo : Int64} {v : Int32} (hb : zBy x y) (hw : wo.toInt = y.toInt) (h : zTg x v) : zRt 3 wo v := by
  have w45 := zBy_e (A := 45) hb (by decide) (by decide)
  have w59 := zBy_e (A := 59) hb (by decide) (by decide)
  have w60 := zBy_e (A := 60) hb (by decide) (by decide)
  have w62 := zBy_e (A := 62) hb (by decide) (by decide)
  rw [← hw] at w45 w59 w60 w62
  rcases h with ⟨h, rfl⟩ | ⟨h, rfl⟩ | ⟨h, rfl⟩ | ⟨h, rfl⟩ | ⟨h1, h2, h3, h4, rfl⟩
  · have hv := w45.mp h
    refine ⟨by decide, ⟨?_, ?_, ?_, ?_, ?_, ?_, ?_, ?_⟩, ⟨by rw [hv]; decide, by rw [hv]; decide, by rw [hv]; decide, by rw [hv]; decide⟩, by decide, fun z => absurd z (by decide)⟩
    all_goals exact ⟨fun z => absurd z.1 (by decide), fun z => absurd z (by decide)⟩
  · have hv := w59.mp h
    refine ⟨by decide, ⟨?_, ?_, ?_, ?_, ?_, ?_, ?_, ?_⟩, ⟨by rw [hv]; decide, by rw [hv]; decide, by rw [hv]; decide, by rw [hv]; decide⟩, by decide, fun z => absurd z (by decide)⟩
    all_goals exact ⟨fun z => absurd z.1 (by decide), fun z => absurd z (by decide)⟩
  · have hv := w60.mp h
    refine ⟨by decide, ⟨?_, ?_, ?_, ?_, ?_, ?_, ?_, ?_⟩, ⟨by rw [hv]; decide, by rw [hv]; decide, by rw [hv]; decide, by rw [hv]; decide⟩, by decide, fun z => absurd z (by decide)⟩
    all_goals exact ⟨fun z => absurd z.1 (by decide), fun z => absurd z (by decide)⟩
  · have hv := w62.mp h
    refine ⟨by decide, ⟨?_, ?_, ?_, ?_, ?_, ?_, ?_, ?_⟩, ⟨by rw [hv]; decide, by rw [hv]; decide, by rw [hv]; decide, by rw [hv]; decide⟩, by decide, fun z => absurd z (by decide)⟩
    all_goals exact ⟨fun z => absurd z.1 (by decide), fun z => absurd z (by decide)⟩
  · refine ⟨by decide, ⟨?_, ?_, ?_, ?_, ?_, ?_, ?_, ?_⟩, ⟨⟨fun z => absurd (w59.mpr z.2) h2, fun z => absurd z (by decide)⟩, ⟨fun z => absurd (w60.mpr z.2) h3, fun z => absurd z (by decide)⟩, ⟨fun z => absurd (w62.mpr z.2) h4, fun z => absurd z (by decide)⟩, ⟨fun z => absurd (w45.mpr z.2) h1, fun z => absurd z (by decide)⟩⟩, by decide, fun z => absurd z (by decide)⟩
    all_goals exact ⟨fun z => absurd z.1 (by decide), fun z => absurd z (by decide)⟩

theorem y_small {d : Nat} {x : Int32} {h : zH} {Q : zQ} (h1 : zlt x → Q (some (.int 1)) h) (h0 : ¬ zlt x → Q (some (.int 0)) h) : zG (d + 1) 136 [.int x] h Q := by
  refine g_136 (Nat.le_of_ble_eq_true rfl) ?_
  intro X0 hX0
  have eA : (97 : Int32).toInt = 97 := rfl
  have eB : (122 : Int32).toInt = 122 := rfl
  iterate 3 refine hX0 _ _ _ _ ?_
  refine And.intro (fun c1 => ?_) (fun c1 => ?_)
  · rw [fa_lt] at c1
    iterate 2 refine hX0 _ _ _ _ ?_
    exact And.intro (Or.inl rfl) (h0 (fun z => by unfold zlt at z; omega))
  · rw [fa_lt] at c1
    iterate 3 refine hX0 _ _ _ _ ?_
    refine And.intro (fun c2 => ?_) (fun c2 => ?_)
    · rw [fa_lt] at c2
      iterate 2 refine hX0 _ _ _ _ ?_
      exact And.intro (Or.inl rfl) (h0 (fun z => by unfold zlt at z; omega))
    · rw [fa_lt] at c2
      iterate 3 refine hX0 _ _ _ _ ?_
      exact And.intro (Or.inr rfl) (h1 (by unfold zlt; omega))

theorem y_digit {d : Nat} {x : Int32} {h : zH} {Q : zQ} (h1 : zdg x → Q (some (.int 1)) h) (h0 : ¬ zdg x → Q (some (.int 0)) h) : zG (d + 1) 137 [.int x] h Q := by
  refine g_137 (Nat.le_of_ble_eq_true rfl) ?_
  intro X0 hX0
  have eA : (48 : Int32).toInt = 48 := rfl
  have eB : (57 : Int32).toInt = 57 := rfl
  iterate 3 refine hX0 _ _ _ _ ?_
  refine And.intro (fun c1 => ?_) (fun c1 => ?_)
  · rw [fa_lt] at c1
    iterate 2 refine hX0 _ _ _ _ ?_
    exact And.intro (Or.inl rfl) (h0 (fun z => by unfold zdg at z; omega))
  · rw [fa_lt] at c1
    iterate 3 refine hX0 _ _ _ _ ?_
    refine And.intro (fun c2 => ?_) (fun c2 => ?_)
    · rw [fa_lt] at c2
      iterate 2 refine hX0 _ _ _ _ ?_
      exact And.intro (Or.inl rfl) (h0 (fun z => by unfold zdg at z; omega))
    · rw [fa_lt] at c2
      iterate 3 refine hX0 _ _ _ _ ?_
      exact And.intro (Or.inr rfl) (h1 (by unfold zdg; omega))

theorem i64_mul {x y : Int64} (h : -9223372036854775808 ≤ x.toInt * y.toInt ∧ x.toInt * y.toInt < 9223372036854775808) : (x * y).toInt = x.toInt * y.toInt := by
  rw [Int64.toInt_mul]
  simp only [Int.bmod]
  split <;> omega
theorem w64 {wo : Int64} {x : Int32} {p : Int} (hw : wo.toInt = p) (hp : 0 ≤ p ∧ p < 2000000000000) (hx : 0 ≤ x.toInt ∧ x.toInt ≤ 255) : (wo * 32 + x.toInt64 - 96).toInt = p * 32 + x.toInt - 96 ∧ (wo * 10 + x.toInt64 - 48).toInt = p * 10 + x.toInt - 48 := by
  have e32 : (32 : Int64).toInt = 32 := rfl
  have e96 : (96 : Int64).toInt = 96 := rfl
  have e10 : (10 : Int64).toInt = 10 := rfl
  have e48 : (48 : Int64).toInt = 48 := rfl
  have ex := i64_of x
  have m1 : (wo * 32).toInt = p * 32 := by rw [i64_mul (by rw [hw, e32]; omega), hw, e32]
  have m2 : (wo * 10).toInt = p * 10 := by rw [i64_mul (by rw [hw, e10]; omega), hw, e10]
  have a1 : (wo * 32 + x.toInt64).toInt = p * 32 + x.toInt := by rw [i64_add (by rw [m1, ex]; omega), m1, ex]
  have a2 : (wo * 10 + x.toInt64).toInt = p * 10 + x.toInt := by rw [i64_add (by rw [m2, ex]; omega), m2, ex]
  exact ⟨by rw [i64_sub (by rw [a1, e96]; omega), a1, e96], by rw [i64_sub (by rw [a2, e48]; omega), a2, e48]⟩
set_option maxRecDepth 100000 in
theorem y_tok {d : Nat} {s : Nat → Int32} {a : Nat → Nat → Int32} {w : Bool} {t : Nat → Int32} {b : Nat → Nat → Int32} {u : Nat → Int64} {c : Nat → Nat → Int64} {f : Nat → Int32} {n p0 q e : Nat} {v : Int32} {Q : zQ} (ht : zTp f (b 29)) (hn : t 15 = nI n) (hn4 : n ≤ 400) (hto : t 17 = nI p0) (hq : p0 ≤ q ∧ q ≤ n) (hsp : ∀ i, p0 ≤ i → i < q → b 29 i = 32) (hend : q = n → v = -1 ∧ e = n) (htok : q < n → ¬ b 29 q = 32 ∧ zEn (b 29) n q e ∧ zTk f (b 29) q e v) (h0 : ∀ (t' : Nat → Int32) (u' : Nat → Int64), zSm [16, 17, 18] t t' → zSm [1] u u' → t' 16 = nI q → t' 17 = nI e → zRt (t' 18) (u' 1) v → Q none (HX s a w ++ HM t' b u' c)) : zG (d + 2) 138 [.ref 56] (HX s a w ++ HM t b u c) Q := by
  refine g_138 (Nat.le_of_ble_eq_true rfl) ?_
  intro X0 hX0
  have hcq : (nI q).toNatClampNeg = q := nI_clamp (by omega)
  have hby : ∀ i, 0 ≤ (b 29 i).toInt ∧ (b 29 i).toInt ≤ 255 := fun i => (ht i).1
  -- behind the digits
  have fin : ∀ (t' : Nat → Int32) (u' : Nat → Int64), zSm [16, 17, 18] t t' → zSm [1] u u' → t' 16 = nI q → t' 17 = nI e → zRt (t' 18) (u' 1) v → X0 335 [some (.ref 56)] [] (HX s a w ++ HM t' b u' c) := by
    intro t' u' q1 q2 q3 q4 q5
    refine hX0 _ _ _ _ ?_
    exact h0 t' u' q1 q2 q3 q4 q5
  have no2 : ∀ (t' : Nat → Int32) (u' : Nat → Int64), zSm [16, 17, 18] t t' → zSm [1] u u' → t' 16 = nI q → t' 17 = nI e → zRt (t' 18) (u' 1) v → ¬ t' 18 = 2 → X0 243 [some (.ref 56)] [] (HX s a w ++ HM t' b u' c) := by
    intro t' u' q1 q2 q3 q4 q5 q6
    iterate 4 refine hX0 _ _ _ _ ?_
    refine And.intro (fun c1 => fin t' u' q1 q2 q3 q4 q5) (fun c1 => absurd c1 q6)
  have no1 : ∀ (t' : Nat → Int32) (u' : Nat → Int64), zSm [16, 17, 18] t t' → zSm [1] u u' → t' 16 = nI q → t' 17 = nI e → zRt (t' 18) (u' 1) v → ¬ t' 18 = 1 → ¬ t' 18 = 2 → X0 149 [some (.ref 56)] [] (HX s a w ++ HM t' b u' c) := by
    intro t' u' q1 q2 q3 q4 q5 q6 q7
    iterate 4 refine hX0 _ _ _ _ ?_
    refine And.intro (fun c1 => no2 t' u' q1 q2 q3 q4 q5 q7) (fun c1 => absurd c1 q6)
  have digits : q < n → zdg (b 29 q) → zEn (b 29) n q e → ∀ (cc m : Nat) (t' : Nat → Int32) (u' : Nat → Int64), e - q - m = cc → q + m ≤ e → zSm [16, 17, 18] t t' → zSm [1] u u' → t' 16 = nI q → t' 17 = nI (q + m) → t' 18 = 2 → (u' 1).toInt = zRv (b 29) q m → X0 243 [some (.ref 56)] [] (HX s a w ++ HM t' b u' c) := by
    intro hqn hdg hen cc
    have hall := dg_of hen hdg
    have hv := (htok hqn).2.2.2.1 hdg
    have hel := hen.1
    have hen2 := hen.2.1
    induction cc with
    | zero =>
      intro m t' u' z1 z2 q1 q2 q3 q4 q5 q6
      have em : q + m = e := by omega
      have out : X0 335 [some (.ref 56)] [] (HX s a w ++ HM t' b u' c) := fin t' u' q1 q2 q3 (by rw [q4, em]) (by rw [q5]; exact rt_num hel hall (by rw [q6, show m = e - q by omega]) hv)
      iterate 4 refine hX0 _ _ _ _ ?_
      refine And.intro (fun c1 => absurd q5 c1) (fun c1 => ?_)
      have n15 : t' 15 = nI n := by rw [q1 15 (by decide)]; exact hn
      iterate 5 refine hX0 _ _ _ _ ?_
      rw [q4, n15]
      refine And.intro (fun c2 => out) (fun c2 => ?_)
      rw [nI_leI (by omega) (by omega)] at c2
      iterate 5 refine hX0 _ _ _ _ ?_
      rw [q4]
      refine And.intro (by exact vp_in_nI (by omega) (by omega)) ?_
      rw [nI_clamp (by omega), em]
      refine hX0 _ _ _ _ ?_
      refine y_digit (fun c3 => ?_) (fun c3 => ?_)
      · exfalso
        exact hen.2.2.2 (by omega) (Or.inr ⟨hdg, c3⟩)
      · refine hX0 _ _ _ _ ?_
        refine And.intro (fun _ => out) (fun c => absurd c (by decide))
    | succ cc ih =>
      intro m t' u' z1 z2 q1 q2 q3 q4 q5 q6
      have n15 : t' 15 = nI n := by rw [q1 15 (by decide)]; exact hn
      have hcm : (nI (q + m)).toNatClampNeg = q + m := nI_clamp (by omega)
      have hd := hall (q + m) (by omega) (by omega)
      have hb := zNR (g := b 29) (p := q) m (fun i hi => hall (q + i) (by omega) (by omega))
      have e1000 : (1000 : Int64).toInt = 1000 := rfl
      have es : zRv (b 29) q (m + 1) = if 1000 < zRv (b 29) q m then zRv (b 29) q m else zRv (b 29) q m * 10 + (b 29 (q + m)).toInt - 48 := rfl
      have go : ∀ x : Int64, x.toInt = zRv (b 29) q (m + 1) → X0 319 [some (.ref 56)] [.long x, .ref 56] (HX s a w ++ HM t' b u' c) := by
        intro x hx
        refine hX0 _ _ _ _ ?_
        refine zcast (X := X0) yu_1 ?_
        iterate 6 refine hX0 _ _ _ _ ?_
        refine zcast (X := X0) yt_17 ?_
        refine hX0 _ _ _ _ ?_
        exact ih (m + 1) _ _ (by omega) (by omega) (zSm_up (by decide) q1) (zSm_up (by decide) q2) q3 (by show t' 17 + 1 = _; rw [q4, nI_1]; rfl) q5 hx
      iterate 4 refine hX0 _ _ _ _ ?_
      refine And.intro (fun c1 => absurd q5 c1) (fun c1 => ?_)
      iterate 5 refine hX0 _ _ _ _ ?_
      rw [q4, n15]
      refine And.intro (fun c2 => ?_) (fun c2 => ?_)
      · exfalso
        rw [nI_leI (by omega) (by omega)] at c2
        omega
      · iterate 5 refine hX0 _ _ _ _ ?_
        rw [q4]
        refine And.intro (by exact vp_in_nI (by omega) (by omega)) ?_
        rw [hcm]
        refine hX0 _ _ _ _ ?_
        refine y_digit (fun c3 => ?_) (fun c3 => absurd hd c3)
        refine hX0 _ _ _ _ ?_
        refine And.intro (fun c => absurd c (by decide)) (fun _ => ?_)
        iterate 6 refine hX0 _ _ _ _ ?_
        refine And.intro (fun c4 => ?_) (fun c4 => ?_)
        · rw [lg_cmp_le, fa_leL, q6, e1000] at c4
          iterate 9 refine hX0 _ _ _ _ ?_
          rw [q4]
          refine And.intro (by exact vp_in_nI (by omega) (by omega)) ?_
          rw [hcm]
          iterate 4 refine hX0 _ _ _ _ ?_
          refine go _ ?_
          rw [es, if_neg (by omega)]
          exact (w64 q6 (by omega) (hby _)).2
        · rw [lg_cmp_le, fa_leL, q6, e1000] at c4
          iterate 3 refine hX0 _ _ _ _ ?_
          refine go _ ?_
          rw [es, if_pos (by omega)]
          exact q6
  have letters : q < n → zlt (b 29 q) → zEn (b 29) n q e → ∀ (cc m : Nat) (t' : Nat → Int32) (u' : Nat → Int64), e - q - m = cc → q + m ≤ e → zSm [16, 17, 18] t t' → zSm [1] u u' → t' 16 = nI q → t' 17 = nI (q + m) → t' 18 = 1 → (u' 1).toInt = zWv (b 29) q m → X0 149 [some (.ref 56)] [] (HX s a w ++ HM t' b u' c) := by
    intro hqn hdg hen cc
    have hall := lt_of' hen hdg
    have hv := (htok hqn).2.2.1 hdg
    have hel := hen.1
    have hen2 := hen.2.1
    induction cc with
    | zero =>
      intro m t' u' z1 z2 q1 q2 q3 q4 q5 q6
      have em : q + m = e := by omega
      have out : X0 243 [some (.ref 56)] [] (HX s a w ++ HM t' b u' c) := no2 t' u' q1 q2 q3 (by rw [q4, em]) (by rw [q5]; exact rt_word ht hel hall (by rw [q6, show m = e - q by omega]) hv) (by rw [q5]; decide)
      iterate 4 refine hX0 _ _ _ _ ?_
      refine And.intro (fun c1 => absurd q5 c1) (fun c1 => ?_)
      have n15 : t' 15 = nI n := by rw [q1 15 (by decide)]; exact hn
      iterate 5 refine hX0 _ _ _ _ ?_
      rw [q4, n15]
      refine And.intro (fun c2 => out) (fun c2 => ?_)
      rw [nI_leI (by omega) (by omega)] at c2
      iterate 5 refine hX0 _ _ _ _ ?_
      rw [q4]
      refine And.intro (by exact vp_in_nI (by omega) (by omega)) ?_
      rw [nI_clamp (by omega), em]
      refine hX0 _ _ _ _ ?_
      refine y_small (fun c3 => ?_) (fun c3 => ?_)
      · exfalso
        exact hen.2.2.2 (by omega) (Or.inl ⟨hdg, c3⟩)
      · refine hX0 _ _ _ _ ?_
        refine And.intro (fun _ => out) (fun c => absurd c (by decide))
    | succ cc ih =>
      intro m t' u' z1 z2 q1 q2 q3 q4 q5 q6
      have n15 : t' 15 = nI n := by rw [q1 15 (by decide)]; exact hn
      have hcm : (nI (q + m)).toNatClampNeg = q + m := nI_clamp (by omega)
      have hd := hall (q + m) (by omega) (by omega)
      have hb := zWv_b (g := b 29) (p := q) m (fun i hi => hall (q + i) (by omega) (by omega))
      have e7 : (7 : Int32) = nI 7 := rfl
      have es : zWv (b 29) q (m + 1) = if m < 7 then zWv (b 29) q m * 32 + (b 29 (q + m)).toInt - 96 else -1 := rfl
      have go : ∀ x : Int64, x.toInt = zWv (b 29) q (m + 1) → X0 227 [some (.ref 56)] [.long x, .ref 56] (HX s a w ++ HM t' b u' c) := by
        intro x hx
        refine hX0 _ _ _ _ ?_
        refine zcast (X := X0) yu_1 ?_
        iterate 6 refine hX0 _ _ _ _ ?_
        refine zcast (X := X0) yt_17 ?_
        refine hX0 _ _ _ _ ?_
        exact ih (m + 1) _ _ (by omega) (by omega) (zSm_up (by decide) q1) (zSm_up (by decide) q2) q3 (by show t' 17 + 1 = _; rw [q4, nI_1]; rfl) q5 hx
      iterate 4 refine hX0 _ _ _ _ ?_
      refine And.intro (fun c1 => absurd q5 c1) (fun c1 => ?_)
      iterate 5 refine hX0 _ _ _ _ ?_
      rw [q4, n15]
      refine And.intro (fun c2 => ?_) (fun c2 => ?_)
      · exfalso
        rw [nI_leI (by omega) (by omega)] at c2
        omega
      · iterate 5 refine hX0 _ _ _ _ ?_
        rw [q4]
        refine And.intro (by exact vp_in_nI (by omega) (by omega)) ?_
        rw [hcm]
        refine hX0 _ _ _ _ ?_
        refine y_small (fun c3 => ?_) (fun c3 => absurd hd c3)
        refine hX0 _ _ _ _ ?_
        refine And.intro (fun c => absurd c (by decide)) (fun _ => ?_)
        iterate 7 refine hX0 _ _ _ _ ?_
        rw [q4, q3, pk_sub (Nat.le_add_right q m), Nat.add_sub_cancel_left]
        refine hX0 _ _ _ _ ?_
        rw [e7]
        refine And.intro (fun c4 => ?_) (fun c4 => ?_)
        · rw [nI_leI (by omega) (by omega)] at c4
          refine hX0 _ _ _ _ ?_
          refine go _ ?_
          rw [es, if_neg (by omega)]
          rfl
        · rw [nI_leI (by omega) (by omega)] at c4
          iterate 9 refine hX0 _ _ _ _ ?_
          rw [q4]
          refine And.intro (by exact vp_in_nI (by omega) (by omega)) ?_
          rw [hcm]
          iterate 5 refine hX0 _ _ _ _ ?_
          refine go _ ?_
          rw [es, if_pos (by omega)]
          have hb2 := hb.1 (by omega)
          have hpw : (32 : Int) ^ m ≤ 32 ^ 6 := by
            rcases (show m = 0 ∨ m = 1 ∨ m = 2 ∨ m = 3 ∨ m = 4 ∨ m = 5 ∨ m = 6 by omega) with rfl | rfl | rfl | rfl | rfl | rfl | rfl <;> decide
          have e6 : (32 : Int) ^ 6 = 1073741824 := by decide
          exact (w64 q6 (by omega) (hby _)).1
  -- at the token
  have at46 : ∀ (t' : Nat → Int32), zSm [16] t t' → t' 16 = nI q → X0 46 [some (.ref 56)] [] (HX s a w ++ HM t' b u c) := by
    intro t' q1 q3
    have n15 : t' 15 = nI n := by rw [q1 15 (by decide)]; exact hn
    iterate 4 refine hX0 _ _ _ _ ?_
    rw [q3]
    refine zcast (X := X0) yt_17 ?_
    iterate 3 refine hX0 _ _ _ _ ?_
    refine zcast (X := X0) yu_1 ?_
    obtain ⟨t2, ht2⟩ : ∃ z, z = va_up t' 17 (nI q) := ⟨_, rfl⟩
    obtain ⟨u2, hu2⟩ : ∃ z, z = va_up u 1 0 := ⟨_, rfl⟩
    rw [← ht2, ← hu2]
    have p1 : zSm [16, 17, 18] t t2 := by rw [ht2]; exact zSm_up (by decide) (zSm_more q1 (by decide))
    have p2 : zSm [1] u u2 := by rw [hu2]; exact zSm_up (by decide) zSm_refl
    have p3 : t2 16 = nI q := by rw [ht2]; exact q3
    have p4 : t2 17 = nI q := by rw [ht2]; rfl
    have p5 : t2 15 = nI n := by rw [ht2]; exact n15
    have p6 : u2 1 = 0 := by rw [hu2]; rfl
    -- the sort is set
    have sort : ∀ so : Int32, (so = 0 → q = n) → (so = 1 → q < n ∧ zlt (b 29 q)) → (so = 2 → q < n ∧ zdg (b 29 q)) → (so = 3 → q < n ∧ ¬ zlt (b 29 q) ∧ ¬ zdg (b 29 q)) → (so = 0 ∨ so = 1 ∨ so = 2 ∨ so = 3) → X0 114 [some (.ref 56)] [.int so, .ref 56] (HX s a w ++ HM t2 b u2 c) := by
      intro so k0 k1 k2 k3 kk
      refine hX0 _ _ _ _ ?_
      refine zcast (X := X0) yt_18 ?_
      obtain ⟨t3, ht3⟩ : ∃ z, z = va_up t2 18 so := ⟨_, rfl⟩
      rw [← ht3]
      have r1 : zSm [16, 17, 18] t t3 := by rw [ht3]; exact zSm_up (by decide) p1
      have r3 : t3 16 = nI q := by rw [ht3]; exact p3
      have r4 : t3 17 = nI q := by rw [ht3]; exact p4
      have r5 : t3 18 = so := by rw [ht3]; rfl
      iterate 4 refine hX0 _ _ _ _ ?_
      rw [r5]
      refine And.intro (fun c1 => ?_) (fun c1 => ?_)
      · rcases kk with rfl | rfl | rfl | rfl
        · have he := hend (k0 rfl)
          exact no1 t3 u2 r1 p2 r3 (by rw [r4, k0 rfl, he.2]) (by rw [r5, he.1]; exact rt_end _) (by rw [r5]; decide) (by rw [r5]; decide)
        · have h := k1 rfl
          exact letters h.1 h.2 (htok h.1).2.1 _ 0 t3 u2 rfl (by have := (htok h.1).2.1.1; omega) r1 p2 r3 r4 r5 (by rw [p6]; rfl)
        · have h := k2 rfl
          have kz := digits h.1 h.2 (htok h.1).2.1 _ 0 t3 u2 rfl (by have := (htok h.1).2.1.1; omega) r1 p2 r3 r4 r5 (by rw [p6]; rfl)
          iterate 4 refine hX0 _ _ _ _ ?_
          rw [r5]
          refine And.intro (fun c2 => kz) (fun c2 => absurd c2 (by decide))
        · exact absurd rfl c1
      · have h := k3 c1
        have ht2 := htok h.1
        have ee : e = q + 1 := by
          rcases Nat.lt_or_ge (q + 1) e with z | z
          · exfalso
            rcases ht2.2.1.2.2.1 (q + 1) (by omega) z with y | y
            · exact h.2.1 y.1
            · exact h.2.2 y.1
          · have := ht2.2.1.1
            omega
        iterate 6 refine hX0 _ _ _ _ ?_
        rw [r3]
        refine And.intro (by exact vp_in_nI (by omega) (by omega)) ?_
        rw [hcq]
        iterate 2 refine hX0 _ _ _ _ ?_
        refine zcast (X := X0) yu_1 ?_
        iterate 6 refine hX0 _ _ _ _ ?_
        refine zcast (X := X0) yt_17 ?_
        refine no1 _ _ (zSm_up (by decide) r1) (zSm_up (by decide) p2) r3 (by show t3 17 + 1 = _; rw [r4, nI_1, ee]) ?_ (by show ¬ t3 18 = 1; rw [r5, c1]; decide) (by show ¬ t3 18 = 2; rw [r5, c1]; decide)
        show zRt (t3 18) (b 29 q).toInt64 v
        rw [r5, c1]
        exact rt_sign (zBy_of ht q) (i64_of _) (ht2.2.2.2.2 h.2.1 h.2.2)
    iterate 6 refine hX0 _ _ _ _ ?_
    rw [p3, p5]
    refine And.intro (fun c1 => ?_) (fun c1 => ?_)
    · have hlt : q < n := by
        rcases Nat.lt_or_ge q n with z | z
        · exact z
        · exact absurd (by rw [show q = n by omega]) c1
      iterate 5 refine hX0 _ _ _ _ ?_
      rw [p3]
      refine And.intro (by exact vp_in_nI (by omega) (by omega)) ?_
      rw [hcq]
      refine hX0 _ _ _ _ ?_
      refine y_small (fun c2 => ?_) (fun c2 => ?_)
      · refine hX0 _ _ _ _ ?_
        refine And.intro (fun c => absurd c (by decide)) (fun _ => ?_)
        iterate 2 refine hX0 _ _ _ _ ?_
        exact sort 1 (fun z => absurd z (by decide)) (fun _ => ⟨hlt, c2⟩) (fun z => absurd z (by decide)) (fun z => absurd z (by decide)) (Or.inr (Or.inl rfl))
      · refine hX0 _ _ _ _ ?_
        refine And.intro (fun _ => ?_) (fun c => absurd c (by decide))
        iterate 5 refine hX0 _ _ _ _ ?_
        rw [p3]
        refine And.intro (by exact vp_in_nI (by omega) (by omega)) ?_
        rw [hcq]
        refine hX0 _ _ _ _ ?_
        refine y_digit (fun c3 => ?_) (fun c3 => ?_)
        · refine hX0 _ _ _ _ ?_
          refine And.intro (fun c => absurd c (by decide)) (fun _ => ?_)
          iterate 2 refine hX0 _ _ _ _ ?_
          exact sort 2 (fun z => absurd z (by decide)) (fun z => absurd z (by decide)) (fun _ => ⟨hlt, c3⟩) (fun z => absurd z (by decide)) (Or.inr (Or.inr (Or.inl rfl)))
        · refine hX0 _ _ _ _ ?_
          refine And.intro (fun _ => ?_) (fun c => absurd c (by decide))
          refine hX0 _ _ _ _ ?_
          exact sort 3 (fun z => absurd z (by decide)) (fun z => absurd z (by decide)) (fun z => absurd z (by decide)) (fun _ => ⟨hlt, c2, c3⟩) (Or.inr (Or.inr (Or.inr rfl)))
    · have heq : q = n := (nI_eq (by omega) (by omega)).mp c1
      iterate 2 refine hX0 _ _ _ _ ?_
      exact sort 0 (fun _ => heq) (fun z => absurd z (by decide)) (fun z => absurd z (by decide)) (fun z => absurd z (by decide)) (Or.inl rfl)
  have skip : ∀ (cc j : Nat) (t' : Nat → Int32), q - j = cc → p0 ≤ j → j ≤ q → zSm [16] t t' → t' 16 = nI j → X0 8 [some (.ref 56)] [] (HX s a w ++ HM t' b u c) := by
    intro cc
    induction cc with
    | zero =>
      intro j t' z1 z2 z3 q1 q2
      have ej : j = q := by omega
      subst ej
      have n15 : t' 15 = nI n := by rw [q1 15 (by decide)]; exact hn
      iterate 5 refine hX0 _ _ _ _ ?_
      rw [q2, n15]
      refine And.intro (fun c1 => at46 t' q1 q2) (fun c1 => ?_)
      rw [nI_leI (by omega) (by omega)] at c1
      iterate 5 refine hX0 _ _ _ _ ?_
      rw [q2]
      refine And.intro (by exact vp_in_nI (by omega) (by omega)) ?_
      rw [hcq]
      iterate 2 refine hX0 _ _ _ _ ?_
      refine And.intro (fun c2 => at46 t' q1 q2) (fun c2 => absurd c2 (htok (by omega)).1)
    | succ cc ih =>
      intro j t' z1 z2 z3 q1 q2
      have n15 : t' 15 = nI n := by rw [q1 15 (by decide)]; exact hn
      have hcj : (nI j).toNatClampNeg = j := nI_clamp (by omega)
      iterate 5 refine hX0 _ _ _ _ ?_
      rw [q2, n15]
      refine And.intro (fun c1 => ?_) (fun c1 => ?_)
      · exfalso
        rw [nI_leI (by omega) (by omega)] at c1
        omega
      · iterate 5 refine hX0 _ _ _ _ ?_
        rw [q2]
        refine And.intro (by exact vp_in_nI (by omega) (by omega)) ?_
        rw [hcj]
        iterate 2 refine hX0 _ _ _ _ ?_
        refine And.intro (fun c2 => absurd (hsp j z2 (by omega)) c2) (fun c2 => ?_)
        iterate 6 refine hX0 _ _ _ _ ?_
        refine zcast (X := X0) yt_16 ?_
        refine hX0 _ _ _ _ ?_
        exact ih (j + 1) _ (by omega) (by omega) (by omega) (zSm_up (by decide) q1) (by show t' 16 + 1 = _; rw [q2, nI_1])
  iterate 4 refine hX0 _ _ _ _ ?_
  rw [hto]
  refine zcast (X := X0) yt_16 ?_
  exact skip _ p0 _ rfl (Nat.le_refl _) hq.1 (zSm_up (by decide) zSm_refl) rfl
