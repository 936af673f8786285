/-! A WHOLE TAPE READ: the station -/
def zS0 : zS := (0, 0, -90, [], [])
def zSpl (f g : Nat → Int32) (n N : Nat) (st en : Nat → Nat) (tk pl : Nat → Int32) : Prop := N ≤ n ∧ zSq g n st en N ∧ zpv en N ≤ n ∧ (∀ i, zpv en N ≤ i → i < n → g i = 32) ∧ ∀ k, k < N → pl k = nI (st k) ∧ zTk f g (st k) (en k) (tk k)
def zRd (T : Nat → Int32) (ok : Bool) (k' : Nat) (S' : zS) : Prop := (T 0 = -1 ∧ ok = true ∧ k' = 0 ∧ S' = zS0) ∨ (¬ T 0 = -1 ∧ zVl T 20 0 zS0 ok k' S')

set_option maxRecDepth 100000 in
theorem x_readRuleA {d : Nat} {s : Nat → Int32} {a : Nat → Nat → Int32} {w : Bool} {Z : zH} {N k : Nat} {S : zS} {Q : zQ} (hN : s 14 = nI N) (hN4 : N ≤ 400) (hk : s 16 = nI k) (hkN : k ≤ N) (hB : zBk (s 23) (s 24) (s 25) (s 26) (s 27) (a 34) (a 35) (a 36) (a 37) (a 38) (a 39) S) (hT60 : S.2.2.2.1.length ≤ 60) (hI : S.2.2.2.2.length < 20)
  (hf : ∀ (k' : Nat) (s' : Nat → Int32) (a' : Nat → Nat → Int32), zVu (zTt (a 24) N) k S S false k' → k' ≤ N → zSm [16, 23, 24, 25, 26, 27] s s' → zSm [34, 35, 36, 37, 38, 39] a a' → s' 16 = nI k' → Q (some (.int 0)) (HX s' a' w ++ Z))
  (ht : ∀ (S' : zS) (k' : Nat) (s' : Nat → Int32) (a' : Nat → Nat → Int32), zVu (zTt (a 24) N) k S S' true k' → k' ≤ N → zSm [16, 23, 24, 25, 26, 27] s s' → zSm [34, 35, 36, 37, 38, 39] a a' → s' 16 = nI k' → zBk (s' 23) (s' 24) (s' 25) (s' 26) (s' 27) (a' 34) (a' 35) (a' 36) (a' 37) (a' 38) (a' 39) S' → S'.2.2.2.1.length ≤ 60 → S'.2.2.2.2.length ≤ S.2.2.2.2.length + 1 → Q (some (.int 1)) (HX s' a' w ++ Z)) : zG (d + 4) 61 [.ref 30, .ref 42] (HX s a w ++ Z) Q := by
  refine g_61 (Nat.le_of_ble_eq_true rfl) ?_
  intro X0 hX0
  have tok : ∀ (s1 : Nat → Int32) (j : Nat) (K : zQ), zSm [16] s s1 → s1 16 = nI j → j ≤ N + 3 → K (some (.int ((zTt (a 24) N) j))) (HX s1 a w ++ Z) → zG (d + 3) 58 [.ref 30] (HX s1 a w ++ Z) K := fun s1 j K q1 q2 q3 q4 => x_token (d := d + 2) (N := N) (k := j) (by rw [q1 14 (by decide)]; exact hN) hN4 q2 (by omega) q4
  have rif := @x_readIfA d (va_up s 16 (nI (k + 1))) a w Z N (k + 1) S
  obtain ⟨T, hT⟩ : ∃ z, z = (zTt (a 24) N) := ⟨_, rfl⟩
  rw [← hT] at tok hf ht rif
  have lt1 : ∀ j v, T j = v → ¬ v = -1 → j < N := fun j v h1 h2 => by rw [hT] at h1; exact zTt_lt h1 h2
  have at47 : (T k = -7 ∨ T k = -8) → k < N → X0 47 [some (.ref 30), some (.ref 42), some (.int (T k)), none] [] (HX (va_up s 16 (nI (k + 1))) a w ++ Z) := by
    intro y1 y2
    iterate 2 refine hX0 _ _ _ _ ?_
    refine tok _ (k + 1) _ (zSm_up (by decide) zSm_refl) rfl (by omega) ?_
    iterate 5 refine hX0 _ _ _ _ ?_
    refine r_within 0 1000 rfl rfl (fun c1 => ?_) (fun c1 => ?_)
    · have hk3 : k + 1 < N := by
        have : zRg (zTt (a 24) N (k + 1)) 1000 := by rw [hT] at c1; exact c1
        exact zTt_rg this
      refine hX0 _ _ _ _ ?_
      refine And.intro (fun _ => ?_) (fun c => absurd c (by decide))
      iterate 6 refine hX0 _ _ _ _ ?_
      have e16 : va_up s 16 (nI (k + 1)) 16 = nI (k + 1) := rfl
      rw [e16, nI_1]
      refine zcast (X := X0) xs_16 ?_
      iterate 3 refine hX0 _ _ _ _ ?_
      refine And.intro (fun c2 => ?_) (fun c2 => ?_)
      · have y3 : T k = -8 := by
          rcases y1 with z | z
          · exact absurd z c2
          · exact z
        iterate 3 refine hX0 _ _ _ _ ?_
        refine g_45 (Nat.le_of_ble_eq_true rfl) ?_
        intro X1 hX1
        iterate 4 refine hX1 _ _ _ _ ?_
        refine zcast (X := X1) xs_27 ?_
        iterate 6 refine hX1 _ _ _ _ ?_
        have eru : va_up (va_up (va_up s 16 (nI (k + 1))) 16 (nI (k + 1 + 1))) 27 (-(T (k + 1))) 23 = nI S.1 := hB.1
        rw [eru, nI_1]
        refine zcast (X := X1) xs_23 ?_
        refine hX1 _ _ _ _ ?_
        iterate 2 refine hX0 _ _ _ _ ?_
        refine And.intro (Or.inr rfl) ?_
        exact ht (S.1 + 1, S.2.1, -(T (k + 1)), S.2.2.2.1, S.2.2.2.2) (k + 2) _ a (Or.inr (Or.inr (Or.inr (Or.inl ⟨y3, c1, rfl, rfl, rfl⟩)))) (by omega) (by repeat (first | exact zSm_refl | refine zSm_up (by decide) ?_)) zSm_refl rfl ⟨rfl, hB.2.1, hB.2.2.1, hB.2.2.2.1, rfl, hB.2.2.2.2.2⟩ hT60 (Nat.le_succ _)
      · iterate 3 refine hX0 _ _ _ _ ?_
        refine g_44 (Nat.le_of_ble_eq_true rfl) ?_
        intro X1 hX1
        iterate 3 refine hX1 _ _ _ _ ?_
        refine zcast (X := X1) xs_26 ?_
        iterate 6 refine hX1 _ _ _ _ ?_
        have eru : va_up (va_up (va_up s 16 (nI (k + 1))) 16 (nI (k + 1 + 1))) 26 (T (k + 1)) 23 = nI S.1 := hB.1
        rw [eru, nI_1]
        refine zcast (X := X1) xs_23 ?_
        refine hX1 _ _ _ _ ?_
        iterate 3 refine hX0 _ _ _ _ ?_
        refine And.intro (Or.inr rfl) ?_
        exact ht (S.1 + 1, T (k + 1), S.2.2.1, S.2.2.2.1, S.2.2.2.2) (k + 2) _ a (Or.inr (Or.inr (Or.inl ⟨c2, c1, rfl, rfl, rfl⟩))) (by omega) (by repeat (first | exact zSm_refl | refine zSm_up (by decide) ?_)) zSm_refl rfl ⟨rfl, hB.2.1, hB.2.2.1, rfl, hB.2.2.2.2.1, hB.2.2.2.2.2⟩ hT60 (Nat.le_succ _)
    · refine hX0 _ _ _ _ ?_
      refine And.intro (fun c => absurd c (by decide)) (fun _ => ?_)
      iterate 2 refine hX0 _ _ _ _ ?_
      refine And.intro (Or.inl rfl) ?_
      exact hf (k + 1) _ a (Or.inr (Or.inl ⟨y1, c1, rfl, rfl⟩)) (by omega) (zSm_up (by decide) zSm_refl) zSm_refl rfl
  have at25 : (T k = -7 ∨ T k = -8 ∨ T k = -9) → X0 25 [some (.ref 30), some (.ref 42), some (.int (T k)), none] [] (HX s a w ++ Z) := by
    intro y1
    have hk0 : k < N := by
      rcases y1 with z | z | z <;> exact lt1 _ _ z (by decide)
    iterate 6 refine hX0 _ _ _ _ ?_
    rw [hk, nI_1]
    refine zcast (X := X0) xs_16 ?_
    iterate 3 refine hX0 _ _ _ _ ?_
    refine And.intro (fun c1 => ?_) (fun c1 => ?_)
    · exact at47 (by rcases y1 with z | z | z; exact Or.inl z; exact Or.inr z; exact absurd z c1) hk0
    · iterate 3 refine hX0 _ _ _ _ ?_
      refine rif hN hN4 rfl (by omega) hB hT60 hI (fun tl k' s' a' z1 z2 z3 z4 z5 => ?_) (fun tl k2 s' a' z1 z2 z3 z4 z5 z6 z7 z8 z9 => ?_)
      · refine hX0 _ _ _ _ ?_
        refine And.intro (Or.inl rfl) ?_
        refine hf k' s' a' (Or.inr (Or.inr (Or.inr (Or.inr ⟨c1, tl, ?_⟩)))) z2 (zSm_trans (zSm_up (by decide) zSm_refl) z3) z4 z5
        rcases z1 with y | ⟨k2, y, y2⟩
        · exact Or.inl ⟨y, rfl⟩
        · refine Or.inr ⟨k2, y, ?_⟩
          rcases y2 with y3 | y3
          · exact Or.inl ⟨y3.1, rfl, y3.2⟩
          · exact Or.inr (Or.inl ⟨y3.1, y3.2.1, rfl, y3.2.2⟩)
      · refine hX0 _ _ _ _ ?_
        refine And.intro (Or.inr rfl) ?_
        exact ht _ (k2 + 2) s' a' (Or.inr (Or.inr (Or.inr (Or.inr ⟨c1, tl, Or.inr ⟨k2, z1, Or.inr (Or.inr ⟨z2, z3, rfl, rfl, rfl⟩)⟩⟩)))) z4 (zSm_trans (zSm_up (by decide) zSm_refl) z5) z6 z7 z9 (by show (S.2.2.2.1 ++ tl).length ≤ 60; rw [List.length_append]; exact z8) (by show (S.2.2.2.2 ++ [(S.2.2.2.1.length + tl.length, T (k2 + 1))]).length ≤ _; rw [List.length_append]; exact Nat.le_refl _)
  iterate 2 refine hX0 _ _ _ _ ?_
  refine tok s k _ zSm_refl hk (by omega) ?_
  iterate 4 refine hX0 _ _ _ _ ?_
  refine And.intro (fun c1 => at25 (Or.inl c1)) (fun c1 => ?_)
  iterate 3 refine hX0 _ _ _ _ ?_
  refine And.intro (fun c2 => at25 (Or.inr (Or.inl c2))) (fun c2 => ?_)
  iterate 3 refine hX0 _ _ _ _ ?_
  refine And.intro (fun c3 => at25 (Or.inr (Or.inr c3))) (fun c3 => ?_)
  iterate 2 refine hX0 _ _ _ _ ?_
  refine And.intro (Or.inl rfl) ?_
  exact hf k s a (Or.inl ⟨fun z => by rcases z with z | z | z; exact c1 z; exact c2 z; exact c3 z, rfl, rfl⟩) hkN zSm_refl zSm_refl hk
set_option maxRecDepth 100000 in
theorem x_readA {d : Nat} {s : Nat → Int32} {a : Nat → Nat → Int32} {w : Bool} {Z : zH} {g : Nat → Int32} {n : Nat} {Q : zQ} (htp : zTp (a 23) g) (hn : s 13 = nI n) (hn4 : n ≤ 400)
  (hf : ∀ (N : Nat) (st en : Nat → Nat) (k' : Nat) (S' : zS) (s' : Nat → Int32) (a' : Nat → Nat → Int32), zSpl (a 23) g n N st en (a' 24) (a' 25) → zRd (zTt (a' 24) N) false k' S' → k' ≤ N → zSm [14, 15, 16, 23, 24, 25, 26, 27] s s' → zSm [24, 25, 34, 35, 36, 37, 38, 39] a a' → s' 14 = nI N → s' 15 = nI n → s' 16 = nI k' → Q (some (.int 0)) (HX s' a' w ++ Z))
  (ht : ∀ (N : Nat) (st en : Nat → Nat) (k' : Nat) (S' : zS) (s' : Nat → Int32) (a' : Nat → Nat → Int32), zSpl (a 23) g n N st en (a' 24) (a' 25) → zRd (zTt (a' 24) N) true k' S' → zSm [14, 15, 16, 23, 24, 25, 26, 27] s s' → zSm [24, 25, 34, 35, 36, 37, 38, 39] a a' → zBk (s' 23) (s' 24) (s' 25) (s' 26) (s' 27) (a' 34) (a' 35) (a' 36) (a' 37) (a' 38) (a' 39) S' → Q (some (.int 1)) (HX s' a' w ++ Z)) : zG (d + 6) 62 [.ref 30, .ref 28, .ref 42] (HX s a w ++ Z) Q := by
  refine g_62 (Nat.le_of_ble_eq_true rfl) ?_
  intro X0 hX0
  iterate 3 refine hX0 _ _ _ _ ?_
  refine x_split (g := g) (n := n) htp hn hn4 (fun N st en s1 a1 q1 q2 q3 q4 q5 q6 q7 q8 q9 => ?_)
  have spl : zSpl (a 23) g n N st en (a1 24) (a1 25) := ⟨q5, q6, q7, q8, q9⟩
  iterate 2 refine hX0 _ _ _ _ ?_
  refine g_42 (Nat.le_of_ble_eq_true rfl) ?_
  intro X1 hX1
  iterate 3 refine hX1 _ _ _ _ ?_
  refine zcast (X := X1) xs_23 ?_
  iterate 3 refine hX1 _ _ _ _ ?_
  refine zcast (X := X1) xs_24 ?_
  iterate 3 refine hX1 _ _ _ _ ?_
  refine zcast (X := X1) xs_25 ?_
  iterate 3 refine hX1 _ _ _ _ ?_
  refine zcast (X := X1) xs_26 ?_
  iterate 3 refine hX1 _ _ _ _ ?_
  refine zcast (X := X1) xs_27 ?_
  refine hX1 _ _ _ _ ?_
  iterate 3 refine hX0 _ _ _ _ ?_
  refine zcast (X := X0) xs_16 ?_
  obtain ⟨s2, hs2⟩ : ∃ z, z = va_up (va_up (va_up (va_up (va_up (va_up s1 23 0) 24 0) 25 0) 26 0) 27 (-90)) 16 0 := ⟨_, rfl⟩
  rw [← hs2]
  have p1 : zSm [14, 15, 16, 23, 24, 25, 26, 27] s s2 := by
    rw [hs2]
    refine zSm_trans (zSm_more q1 (by decide)) ?_
    repeat (first | exact zSm_refl | refine zSm_up (by decide) ?_)
  have p2 : zSm [24, 25, 34, 35, 36, 37, 38, 39] a a1 := zSm_more q2 (by decide)
  have p14 : s2 14 = nI N := by rw [hs2]; exact q3
  have p15 : s2 15 = nI n := by rw [hs2]; exact q4
  have p16 : s2 16 = nI 0 := by rw [hs2]; rfl
  have pB : zBk (s2 23) (s2 24) (s2 25) (s2 26) (s2 27) (a1 34) (a1 35) (a1 36) (a1 37) (a1 38) (a1 39) zS0 := by
    rw [hs2]
    refine ⟨rfl, rfl, rfl, rfl, rfl, ?_, ?_⟩
    · intro j x h
      exact absurd h (by simp [zS0])
    · intro j x h
      exact absurd h (by simp [zS0])
  clear hs2
  have tok : ∀ (s3 : Nat → Int32) (a3 : Nat → Nat → Int32) (j : Nat) (K : zQ), zSm [16, 23, 24, 25, 26, 27] s2 s3 → zSm [34, 35, 36, 37, 38, 39] a1 a3 → s3 16 = nI j → j ≤ N + 3 → K (some (.int (zTt (a1 24) N j))) (HX s3 a3 w ++ Z) → zG (d + 5) 58 [.ref 30] (HX s3 a3 w ++ Z) K := fun s3 a3 j K q1 q5 q2 q3 q4 => x_token (d := d + 4) (N := N) (k := j) (by rw [q1 14 (by decide)]; exact p14) (by omega) q2 (by omega) (by rw [q5 24 (by decide)]; exact q4)
  iterate 2 refine hX0 _ _ _ _ ?_
  refine tok s2 a1 0 _ zSm_refl zSm_refl p16 (by omega) ?_
  iterate 2 refine hX0 _ _ _ _ ?_
  refine And.intro (fun c0 => ?_) (fun c0 => ?_)
  · have loop : ∀ (cc j kc : Nat) (S : zS) (s3 : Nat → Int32) (a3 : Nat → Nat → Int32), j + cc = 20 → kc ≤ N → S.2.2.2.1.length ≤ 60 → S.2.2.2.2.length ≤ j → (∀ ok k' S', zVl (zTt (a1 24) N) cc kc S ok k' S' → zVl (zTt (a1 24) N) 20 0 zS0 ok k' S') → zSm [16, 23, 24, 25, 26, 27] s2 s3 → zSm [34, 35, 36, 37, 38, 39] a1 a3 → s3 16 = nI kc → zBk (s3 23) (s3 24) (s3 25) (s3 26) (s3 27) (a3 34) (a3 35) (a3 36) (a3 37) (a3 38) (a3 39) S → X0 26 [some (.ref 30), some (.ref 28), some (.ref 42), some (.int (nI j))] [] (HX s3 a3 w ++ Z) := by
      intro cc
      induction cc with
      | zero =>
        intro j kc S s3 a3 y1 y2 y3 y4 y5 r1 r2 r3 r4
        have e20 : (20 : Int32) = nI 20 := rfl
        iterate 3 refine hX0 _ _ _ _ ?_
        rw [e20]
        refine And.intro (fun c1 => ?_) (fun c1 => ?_)
        · iterate 2 refine hX0 _ _ _ _ ?_
          refine And.intro (Or.inl rfl) ?_
          exact hf N st en kc S s3 a3 (by rw [r2 24 (by decide), r2 25 (by decide)]; exact spl) (by rw [r2 24 (by decide)]; exact Or.inr ⟨c0, y5 false kc S ⟨rfl, rfl⟩⟩) y2 (zSm_trans p1 (zSm_more r1 (by decide))) (zSm_trans p2 (zSm_more r2 (by decide))) (by rw [r1 14 (by decide)]; exact p14) (by rw [r1 15 (by decide)]; exact p15) r3
        · exfalso
          rw [nI_leI (by omega) (by omega)] at c1
          omega
      | succ cc ih =>
        intro j kc S s3 a3 y1 y2 y3 y4 y5 r1 r2 r3 r4
        have e20 : (20 : Int32) = nI 20 := rfl
        iterate 3 refine hX0 _ _ _ _ ?_
        rw [e20]
        refine And.intro (fun c1 => ?_) (fun c1 => ?_)
        · exfalso
          rw [nI_leI (by omega) (by omega)] at c1
          omega
        · iterate 3 refine hX0 _ _ _ _ ?_
          refine x_readRuleA (d := d + 1) (N := N) (k := kc) (S := S) (by rw [r1 14 (by decide)]; exact p14) (by omega) r3 y2 r4 y3 (by omega) (fun k' s4 a4 z1 z2 z3 z4 z5 => ?_) (fun S1 k1 s4 a4 z1 z2 z3 z4 z5 z6 z7 z8 => ?_)
          · rw [r2 24 (by decide)] at z1
            refine hX0 _ _ _ _ ?_
            refine And.intro (fun c => absurd rfl c) (fun _ => ?_)
            iterate 2 refine hX0 _ _ _ _ ?_
            refine And.intro (Or.inl rfl) ?_
            have r2' := zSm_trans r2 z4
            have r1' := zSm_trans r1 z3
            exact hf N st en k' S s4 a4 (by rw [r2' 24 (by decide), r2' 25 (by decide)]; exact spl) (by rw [r2' 24 (by decide)]; exact Or.inr ⟨c0, y5 false k' S (Or.inl ⟨rfl, z1⟩)⟩) z2 (zSm_trans p1 (zSm_more r1' (by decide))) (zSm_trans p2 (zSm_more r2' (by decide))) (by rw [r1' 14 (by decide)]; exact p14) (by rw [r1' 15 (by decide)]; exact p15) z5
          · rw [r2 24 (by decide)] at z1
            have r2' := zSm_trans r2 z4
            have r1' := zSm_trans r1 z3
            refine hX0 _ _ _ _ ?_
            refine And.intro (fun _ => ?_) (fun c => absurd c (by decide))
            iterate 2 refine hX0 _ _ _ _ ?_
            refine tok s4 a4 k1 _ r1' r2' z5 (by omega) ?_
            iterate 2 refine hX0 _ _ _ _ ?_
            refine And.intro (fun c2 => ?_) (fun c2 => ?_)
            · iterate 2 refine hX0 _ _ _ _ ?_
              refine tok s4 a4 k1 _ r1' r2' z5 (by omega) ?_
              iterate 2 refine hX0 _ _ _ _ ?_
              refine And.intro (fun c3 => ?_) (fun c3 => ?_)
              · have hk1 := zTt_lt c3 (by decide)
                iterate 6 refine hX0 _ _ _ _ ?_
                rw [z5, nI_1]
                refine zcast (X := X0) xs_16 ?_
                iterate 2 refine hX0 _ _ _ _ ?_
                rw [nI_1]
                exact ih (j + 1) (k1 + 1) S1 _ a4 (by omega) (by omega) z7 (by omega) (fun ok k' S' hv => y5 ok k' S' (Or.inr ⟨k1, S1, z1, Or.inr (Or.inr ⟨c3, hv⟩)⟩)) (zSm_up (by decide) r1') r2' rfl z6
              · iterate 2 refine hX0 _ _ _ _ ?_
                refine And.intro (Or.inl rfl) ?_
                exact hf N st en k1 S1 s4 a4 (by rw [r2' 24 (by decide), r2' 25 (by decide)]; exact spl) (by rw [r2' 24 (by decide)]; exact Or.inr ⟨c0, y5 false k1 S1 (Or.inr ⟨k1, S1, z1, Or.inr (Or.inl ⟨c2, c3, rfl, rfl⟩)⟩)⟩) z2 (zSm_trans p1 (zSm_more r1' (by decide))) (zSm_trans p2 (zSm_more r2' (by decide))) (by rw [r1' 14 (by decide)]; exact p14) (by rw [r1' 15 (by decide)]; exact p15) z5
            · iterate 2 refine hX0 _ _ _ _ ?_
              refine And.intro (Or.inr rfl) ?_
              exact ht N st en k1 S1 s4 a4 (by rw [r2' 24 (by decide), r2' 25 (by decide)]; exact spl) (by rw [r2' 24 (by decide)]; exact Or.inr ⟨c0, y5 true k1 S1 (Or.inr ⟨k1, S1, z1, Or.inl ⟨c2, rfl, rfl, rfl⟩⟩)⟩) (zSm_trans p1 (zSm_more r1' (by decide))) (zSm_trans p2 (zSm_more r2' (by decide))) z6
    iterate 2 refine hX0 _ _ _ _ ?_
    have kk := loop 20 0 0 zS0 s2 a1 rfl (by omega) (by decide) (by decide) (fun ok k' S' hv => hv) zSm_refl zSm_refl p16 pB
    rw [nI_0] at kk
    exact kk
  · iterate 2 refine hX0 _ _ _ _ ?_
    refine And.intro (Or.inr rfl) ?_
    exact ht N st en 0 zS0 s2 a1 spl (Or.inl ⟨c0, rfl, rfl, rfl⟩) p1 p2 pB

set_option maxRecDepth 100000 in
theorem x_readRuleB {d : Nat} {s : Nat → Int32} {a : Nat → Nat → Int32} {w : Bool} {Z : zH} {N k : Nat} {S : zS} {Q : zQ} (hN : s 14 = nI N) (hN4 : N ≤ 400) (hk : s 16 = nI k) (hkN : k ≤ N) (hB : zBk (s 28) (s 29) (s 30) (s 31) (s 32) (a 40) (a 41) (a 42) (a 43) (a 44) (a 45) S) (hT60 : S.2.2.2.1.length ≤ 60) (hI : S.2.2.2.2.length < 20)
  (hf : ∀ (k' : Nat) (s' : Nat → Int32) (a' : Nat → Nat → Int32), zVu (zTt (a 24) N) k S S false k' → k' ≤ N → zSm [16, 28, 29, 30, 31, 32] s s' → zSm [40, 41, 42, 43, 44, 45] a a' → s' 16 = nI k' → Q (some (.int 0)) (HX s' a' w ++ Z))
  (ht : ∀ (S' : zS) (k' : Nat) (s' : Nat → Int32) (a' : Nat → Nat → Int32), zVu (zTt (a 24) N) k S S' true k' → k' ≤ N → zSm [16, 28, 29, 30, 31, 32] s s' → zSm [40, 41, 42, 43, 44, 45] a a' → s' 16 = nI k' → zBk (s' 28) (s' 29) (s' 30) (s' 31) (s' 32) (a' 40) (a' 41) (a' 42) (a' 43) (a' 44) (a' 45) S' → S'.2.2.2.1.length ≤ 60 → S'.2.2.2.2.length ≤ S.2.2.2.2.length + 1 → Q (some (.int 1)) (HX s' a' w ++ Z)) : zG (d + 4) 61 [.ref 30, .ref 49] (HX s a w ++ Z) Q := by
  refine g_61 (Nat.le_of_ble_eq_true rfl) ?_
  intro X0 hX0
  have tok : ∀ (s1 : Nat → Int32) (j : Nat) (K : zQ), zSm [16] s s1 → s1 16 = nI j → j ≤ N + 3 → K (some (.int ((zTt (a 24) N) j))) (HX s1 a w ++ Z) → zG (d + 3) 58 [.ref 30] (HX s1 a w ++ Z) K := fun s1 j K q1 q2 q3 q4 => x_token (d := d + 2) (N := N) (k := j) (by rw [q1 14 (by decide)]; exact hN) hN4 q2 (by omega) q4
  have rif := @x_readIfB d (va_up s 16 (nI (k + 1))) a w Z N (k + 1) S
  obtain ⟨T, hT⟩ : ∃ z, z = (zTt (a 24) N) := ⟨_, rfl⟩
  rw [← hT] at tok hf ht rif
  have lt1 : ∀ j v, T j = v → ¬ v = -1 → j < N := fun j v h1 h2 => by rw [hT] at h1; exact zTt_lt h1 h2
  have at47 : (T k = -7 ∨ T k = -8) → k < N → X0 47 [some (.ref 30), some (.ref 49), some (.int (T k)), none] [] (HX (va_up s 16 (nI (k + 1))) a w ++ Z) := by
    intro y1 y2
    iterate 2 refine hX0 _ _ _ _ ?_
    refine tok _ (k + 1) _ (zSm_up (by decide) zSm_refl) rfl (by omega) ?_
    iterate 5 refine hX0 _ _ _ _ ?_
    refine r_within 0 1000 rfl rfl (fun c1 => ?_) (fun c1 => ?_)
    · have hk3 : k + 1 < N := by
        have : zRg (zTt (a 24) N (k + 1)) 1000 := by rw [hT] at c1; exact c1
        exact zTt_rg this
      refine hX0 _ _ _ _ ?_
      refine And.intro (fun _ => ?_) (fun c => absurd c (by decide))
      iterate 6 refine hX0 _ _ _ _ ?_
      have e16 : va_up s 16 (nI (k + 1)) 16 = nI (k + 1) := rfl
      rw [e16, nI_1]
      refine zcast (X := X0) xs_16 ?_
      iterate 3 refine hX0 _ _ _ _ ?_
      refine And.intro (fun c2 => ?_) (fun c2 => ?_)
      · have y3 : T k = -8 := by
          rcases y1 with z | z
          · exact absurd z c2
          · exact z
        iterate 3 refine hX0 _ _ _ _ ?_
        refine g_45 (Nat.le_of_ble_eq_true rfl) ?_
        intro X1 hX1
        iterate 4 refine hX1 _ _ _ _ ?_
        refine zcast (X := X1) xs_32 ?_
        iterate 6 refine hX1 _ _ _ _ ?_
        have eru : va_up (va_up (va_up s 16 (nI (k + 1))) 16 (nI (k + 1 + 1))) 32 (-(T (k + 1))) 28 = nI S.1 := hB.1
        rw [eru, nI_1]
        refine zcast (X := X1) xs_28 ?_
        refine hX1 _ _ _ _ ?_
        iterate 2 refine hX0 _ _ _ _ ?_
        refine And.intro (Or.inr rfl) ?_
        exact ht (S.1 + 1, S.2.1, -(T (k + 1)), S.2.2.2.1, S.2.2.2.2) (k + 2) _ a (Or.inr (Or.inr (Or.inr (Or.inl ⟨y3, c1, rfl, rfl, rfl⟩)))) (by omega) (by repeat (first | exact zSm_refl | refine zSm_up (by decide) ?_)) zSm_refl rfl ⟨rfl, hB.2.1, hB.2.2.1, hB.2.2.2.1, rfl, hB.2.2.2.2.2⟩ hT60 (Nat.le_succ _)
      · iterate 3 refine hX0 _ _ _ _ ?_
        refine g_44 (Nat.le_of_ble_eq_true rfl) ?_
        intro X1 hX1
        iterate 3 refine hX1 _ _ _ _ ?_
        refine zcast (X := X1) xs_31 ?_
        iterate 6 refine hX1 _ _ _ _ ?_
        have eru : va_up (va_up (va_up s 16 (nI (k + 1))) 16 (nI (k + 1 + 1))) 31 (T (k + 1)) 28 = nI S.1 := hB.1
        rw [eru, nI_1]
        refine zcast (X := X1) xs_28 ?_
        refine hX1 _ _ _ _ ?_
        iterate 3 refine hX0 _ _ _ _ ?_
        refine And.intro (Or.inr rfl) ?_
        exact ht (S.1 + 1, T (k + 1), S.2.2.1, S.2.2.2.1, S.2.2.2.2) (k + 2) _ a (Or.inr (Or.inr (Or.inl ⟨c2, c1, rfl, rfl, rfl⟩))) (by omega) (by repeat (first | exact zSm_refl | refine zSm_up (by decide) ?_)) zSm_refl rfl ⟨rfl, hB.2.1, hB.2.2.1, rfl, hB.2.2.2.2.1, hB.2.2.2.2.2⟩ hT60 (Nat.le_succ _)
    · refine hX0 _ _ _ _ ?_
      refine And.intro (fun c => absurd c (by decide)) (fun _ => ?_)
      iterate 2 refine hX0 _ _ _ _ ?_
      refine And.intro (Or.inl rfl) ?_
      exact hf (k + 1) _ a (Or.inr (Or.inl ⟨y1, c1, rfl, rfl⟩)) (by omega) (zSm_up (by decide) zSm_refl) zSm_refl rfl
  have at25 : (T k = -7 ∨ T k = -8 ∨ T k = -9) → X0 25 [some (.ref 30), some (.ref 49), some (.int (T k)), none] [] (HX s a w ++ Z) := by
    intro y1
    have hk0 : k < N := by
      rcases y1 with z | z | z <;> exact lt1 _ _ z (by decide)
    iterate 6 refine hX0 _ _ _ _ ?_
    rw [hk, nI_1]
    refine zcast (X := X0) xs_16 ?_
    iterate 3 refine hX0 _ _ _ _ ?_
    refine And.intro (fun c1 => ?_) (fun c1 => ?_)
    · exact at47 (by rcases y1 with z | z | z; exact Or.inl z; exact Or.inr z; exact absurd z c1) hk0
    · iterate 3 refine hX0 _ _ _ _ ?_
      refine rif hN hN4 rfl (by omega) hB hT60 hI (fun tl k' s' a' z1 z2 z3 z4 z5 => ?_) (fun tl k2 s' a' z1 z2 z3 z4 z5 z6 z7 z8 z9 => ?_)
      · refine hX0 _ _ _ _ ?_
        refine And.intro (Or.inl rfl) ?_
        refine hf k' s' a' (Or.inr (Or.inr (Or.inr (Or.inr ⟨c1, tl, ?_⟩)))) z2 (zSm_trans (zSm_up (by decide) zSm_refl) z3) z4 z5
        rcases z1 with y | ⟨k2, y, y2⟩
        · exact Or.inl ⟨y, rfl⟩
        · refine Or.inr ⟨k2, y, ?_⟩
          rcases y2 with y3 | y3
          · exact Or.inl ⟨y3.1, rfl, y3.2⟩
          · exact Or.inr (Or.inl ⟨y3.1, y3.2.1, rfl, y3.2.2⟩)
      · refine hX0 _ _ _ _ ?_
        refine And.intro (Or.inr rfl) ?_
        exact ht _ (k2 + 2) s' a' (Or.inr (Or.inr (Or.inr (Or.inr ⟨c1, tl, Or.inr ⟨k2, z1, Or.inr (Or.inr ⟨z2, z3, rfl, rfl, rfl⟩)⟩⟩)))) z4 (zSm_trans (zSm_up (by decide) zSm_refl) z5) z6 z7 z9 (by show (S.2.2.2.1 ++ tl).length ≤ 60; rw [List.length_append]; exact z8) (by show (S.2.2.2.2 ++ [(S.2.2.2.1.length + tl.length, T (k2 + 1))]).length ≤ _; rw [List.length_append]; exact Nat.le_refl _)
  iterate 2 refine hX0 _ _ _ _ ?_
  refine tok s k _ zSm_refl hk (by omega) ?_
  iterate 4 refine hX0 _ _ _ _ ?_
  refine And.intro (fun c1 => at25 (Or.inl c1)) (fun c1 => ?_)
  iterate 3 refine hX0 _ _ _ _ ?_
  refine And.intro (fun c2 => at25 (Or.inr (Or.inl c2))) (fun c2 => ?_)
  iterate 3 refine hX0 _ _ _ _ ?_
  refine And.intro (fun c3 => at25 (Or.inr (Or.inr c3))) (fun c3 => ?_)
  iterate 2 refine hX0 _ _ _ _ ?_
  refine And.intro (Or.inl rfl) ?_
  exact hf k s a (Or.inl ⟨fun z => by rcases z with z | z | z; exact c1 z; exact c2 z; exact c3 z, rfl, rfl⟩) hkN zSm_refl zSm_refl hk
set_option maxRecDepth 100000 in
theorem x_readB {d : Nat} {s : Nat → Int32} {a : Nat → Nat → Int32} {w : Bool} {Z : zH} {g : Nat → Int32} {n : Nat} {Q : zQ} (htp : zTp (a 23) g) (hn : s 13 = nI n) (hn4 : n ≤ 400)
  (hf : ∀ (N : Nat) (st en : Nat → Nat) (k' : Nat) (S' : zS) (s' : Nat → Int32) (a' : Nat → Nat → Int32), zSpl (a 23) g n N st en (a' 24) (a' 25) → zRd (zTt (a' 24) N) false k' S' → k' ≤ N → zSm [14, 15, 16, 28, 29, 30, 31, 32] s s' → zSm [24, 25, 40, 41, 42, 43, 44, 45] a a' → s' 14 = nI N → s' 15 = nI n → s' 16 = nI k' → Q (some (.int 0)) (HX s' a' w ++ Z))
  (ht : ∀ (N : Nat) (st en : Nat → Nat) (k' : Nat) (S' : zS) (s' : Nat → Int32) (a' : Nat → Nat → Int32), zSpl (a 23) g n N st en (a' 24) (a' 25) → zRd (zTt (a' 24) N) true k' S' → zSm [14, 15, 16, 28, 29, 30, 31, 32] s s' → zSm [24, 25, 40, 41, 42, 43, 44, 45] a a' → zBk (s' 28) (s' 29) (s' 30) (s' 31) (s' 32) (a' 40) (a' 41) (a' 42) (a' 43) (a' 44) (a' 45) S' → Q (some (.int 1)) (HX s' a' w ++ Z)) : zG (d + 6) 62 [.ref 30, .ref 28, .ref 49] (HX s a w ++ Z) Q := by
  refine g_62 (Nat.le_of_ble_eq_true rfl) ?_
  intro X0 hX0
  iterate 3 refine hX0 _ _ _ _ ?_
  refine x_split (g := g) (n := n) htp hn hn4 (fun N st en s1 a1 q1 q2 q3 q4 q5 q6 q7 q8 q9 => ?_)
  have spl : zSpl (a 23) g n N st en (a1 24) (a1 25) := ⟨q5, q6, q7, q8, q9⟩
  iterate 2 refine hX0 _ _ _ _ ?_
  refine g_42 (Nat.le_of_ble_eq_true rfl) ?_
  intro X1 hX1
  iterate 3 refine hX1 _ _ _ _ ?_
  refine zcast (X := X1) xs_28 ?_
  iterate 3 refine hX1 _ _ _ _ ?_
  refine zcast (X := X1) xs_29 ?_
  iterate 3 refine hX1 _ _ _ _ ?_
  refine zcast (X := X1) xs_30 ?_
  iterate 3 refine hX1 _ _ _ _ ?_
  refine zcast (X := X1) xs_31 ?_
  iterate 3 refine hX1 _ _ _ _ ?_
  refine zcast (X := X1) xs_32 ?_
  refine hX1 _ _ _ _ ?_
  iterate 3 refine hX0 _ _ _ _ ?_
  refine zcast (X := X0) xs_16 ?_
  obtain ⟨s2, hs2⟩ : ∃ z, z = va_up (va_up (va_up (va_up (va_up (va_up s1 28 0) 29 0) 30 0) 31 0) 32 (-90)) 16 0 := ⟨_, rfl⟩
  rw [← hs2]
  have p1 : zSm [14, 15, 16, 28, 29, 30, 31, 32] s s2 := by
    rw [hs2]
    refine zSm_trans (zSm_more q1 (by decide)) ?_
    repeat (first | exact zSm_refl | refine zSm_up (by decide) ?_)
  have p2 : zSm [24, 25, 40, 41, 42, 43, 44, 45] a a1 := zSm_more q2 (by decide)
  have p14 : s2 14 = nI N := by rw [hs2]; exact q3
  have p15 : s2 15 = nI n := by rw [hs2]; exact q4
  have p16 : s2 16 = nI 0 := by rw [hs2]; rfl
  have pB : zBk (s2 28) (s2 29) (s2 30) (s2 31) (s2 32) (a1 40) (a1 41) (a1 42) (a1 43) (a1 44) (a1 45) zS0 := by
    rw [hs2]
    refine ⟨rfl, rfl, rfl, rfl, rfl, ?_, ?_⟩
    · intro j x h
      exact absurd h (by simp [zS0])
    · intro j x h
      exact absurd h (by simp [zS0])
  clear hs2
  have tok : ∀ (s3 : Nat → Int32) (a3 : Nat → Nat → Int32) (j : Nat) (K : zQ), zSm [16, 28, 29, 30, 31, 32] s2 s3 → zSm [40, 41, 42, 43, 44, 45] a1 a3 → s3 16 = nI j → j ≤ N + 3 → K (some (.int (zTt (a1 24) N j))) (HX s3 a3 w ++ Z) → zG (d + 5) 58 [.ref 30] (HX s3 a3 w ++ Z) K := fun s3 a3 j K q1 q5 q2 q3 q4 => x_token (d := d + 4) (N := N) (k := j) (by rw [q1 14 (by decide)]; exact p14) (by omega) q2 (by omega) (by rw [q5 24 (by decide)]; exact q4)
  iterate 2 refine hX0 _ _ _ _ ?_
  refine tok s2 a1 0 _ zSm_refl zSm_refl p16 (by omega) ?_
  iterate 2 refine hX0 _ _ _ _ ?_
  refine And.intro (fun c0 => ?_) (fun c0 => ?_)
  · have loop : ∀ (cc j kc : Nat) (S : zS) (s3 : Nat → Int32) (a3 : Nat → Nat → Int32), j + cc = 20 → kc ≤ N → S.2.2.2.1.length ≤ 60 → S.2.2.2.2.length ≤ j → (∀ ok k' S', zVl (zTt (a1 24) N) cc kc S ok k' S' → zVl (zTt (a1 24) N) 20 0 zS0 ok k' S') → zSm [16, 28, 29, 30, 31, 32] s2 s3 → zSm [40, 41, 42, 43, 44, 45] a1 a3 → s3 16 = nI kc → zBk (s3 28) (s3 29) (s3 30) (s3 31) (s3 32) (a3 40) (a3 41) (a3 42) (a3 43) (a3 44) (a3 45) S → X0 26 [some (.ref 30), some (.ref 28), some (.ref 49), some (.int (nI j))] [] (HX s3 a3 w ++ Z) := by
      intro cc
      induction cc with
      | zero =>
        intro j kc S s3 a3 y1 y2 y3 y4 y5 r1 r2 r3 r4
        have e20 : (20 : Int32) = nI 20 := rfl
        iterate 3 refine hX0 _ _ _ _ ?_
        rw [e20]
        refine And.intro (fun c1 => ?_) (fun c1 => ?_)
        · iterate 2 refine hX0 _ _ _ _ ?_
          refine And.intro (Or.inl rfl) ?_
          exact hf N st en kc S s3 a3 (by rw [r2 24 (by decide), r2 25 (by decide)]; exact spl) (by rw [r2 24 (by decide)]; exact Or.inr ⟨c0, y5 false kc S ⟨rfl, rfl⟩⟩) y2 (zSm_trans p1 (zSm_more r1 (by decide))) (zSm_trans p2 (zSm_more r2 (by decide))) (by rw [r1 14 (by decide)]; exact p14) (by rw [r1 15 (by decide)]; exact p15) r3
        · exfalso
          rw [nI_leI (by omega) (by omega)] at c1
          omega
      | succ cc ih =>
        intro j kc S s3 a3 y1 y2 y3 y4 y5 r1 r2 r3 r4
        have e20 : (20 : Int32) = nI 20 := rfl
        iterate 3 refine hX0 _ _ _ _ ?_
        rw [e20]
        refine And.intro (fun c1 => ?_) (fun c1 => ?_)
        · exfalso
          rw [nI_leI (by omega) (by omega)] at c1
          omega
        · iterate 3 refine hX0 _ _ _ _ ?_
          refine x_readRuleB (d := d + 1) (N := N) (k := kc) (S := S) (by rw [r1 14 (by decide)]; exact p14) (by omega) r3 y2 r4 y3 (by omega) (fun k' s4 a4 z1 z2 z3 z4 z5 => ?_) (fun S1 k1 s4 a4 z1 z2 z3 z4 z5 z6 z7 z8 => ?_)
          · rw [r2 24 (by decide)] at z1
            refine hX0 _ _ _ _ ?_
            refine And.intro (fun c => absurd rfl c) (fun _ => ?_)
            iterate 2 refine hX0 _ _ _ _ ?_
            refine And.intro (Or.inl rfl) ?_
            have r2' := zSm_trans r2 z4
            have r1' := zSm_trans r1 z3
            exact hf N st en k' S s4 a4 (by rw [r2' 24 (by decide), r2' 25 (by decide)]; exact spl) (by rw [r2' 24 (by decide)]; exact Or.inr ⟨c0, y5 false k' S (Or.inl ⟨rfl, z1⟩)⟩) z2 (zSm_trans p1 (zSm_more r1' (by decide))) (zSm_trans p2 (zSm_more r2' (by decide))) (by rw [r1' 14 (by decide)]; exact p14) (by rw [r1' 15 (by decide)]; exact p15) z5
          · rw [r2 24 (by decide)] at z1
            have r2' := zSm_trans r2 z4
            have r1' := zSm_trans r1 z3
            refine hX0 _ _ _ _ ?_
            refine And.intro (fun _ => ?_) (fun c => absurd c (by decide))
            iterate 2 refine hX0 _ _ _ _ ?_
            refine tok s4 a4 k1 _ r1' r2' z5 (by omega) ?_
            iterate 2 refine hX0 _ _ _ _ ?_
            refine And.intro (fun c2 => ?_) (fun c2 => ?_)
            · iterate 2 refine hX0 _ _ _ _ ?_
              refine tok s4 a4 k1 _ r1' r2' z5 (by omega) ?_
              iterate 2 refine hX0 _ _ _ _ ?_
              refine And.intro (fun c3 => ?_) (fun c3 => ?_)
              · have hk1 := zTt_lt c3 (by decide)
                iterate 6 refine hX0 _ _ _ _ ?_
                rw [z5, nI_1]
                refine zcast (X := X0) xs_16 ?_
                iterate 2 refine hX0 _ _ _ _ ?_
                rw [nI_1]
                exact ih (j + 1) (k1 + 1) S1 _ a4 (by omega) (by omega) z7 (by omega) (fun ok k' S' hv => y5 ok k' S' (Or.inr ⟨k1, S1, z1, Or.inr (Or.inr ⟨c3, hv⟩)⟩)) (zSm_up (by decide) r1') r2' rfl z6
              · iterate 2 refine hX0 _ _ _ _ ?_
                refine And.intro (Or.inl rfl) ?_
                exact hf N st en k1 S1 s4 a4 (by rw [r2' 24 (by decide), r2' 25 (by decide)]; exact spl) (by rw [r2' 24 (by decide)]; exact Or.inr ⟨c0, y5 false k1 S1 (Or.inr ⟨k1, S1, z1, Or.inr (Or.inl ⟨c2, c3, rfl, rfl⟩)⟩)⟩) z2 (zSm_trans p1 (zSm_more r1' (by decide))) (zSm_trans p2 (zSm_more r2' (by decide))) (by rw [r1' 14 (by decide)]; exact p14) (by rw [r1' 15 (by decide)]; exact p15) z5
            · iterate 2 refine hX0 _ _ _ _ ?_
              refine And.intro (Or.inr rfl) ?_
              exact ht N st en k1 S1 s4 a4 (by rw [r2' 24 (by decide), r2' 25 (by decide)]; exact spl) (by rw [r2' 24 (by decide)]; exact Or.inr ⟨c0, y5 true k1 S1 (Or.inr ⟨k1, S1, z1, Or.inl ⟨c2, rfl, rfl, rfl⟩⟩)⟩) (zSm_trans p1 (zSm_more r1' (by decide))) (zSm_trans p2 (zSm_more r2' (by decide))) z6
    iterate 2 refine hX0 _ _ _ _ ?_
    have kk := loop 20 0 0 zS0 s2 a1 rfl (by omega) (by decide) (by decide) (fun ok k' S' hv => hv) zSm_refl zSm_refl p16 pB
    rw [nI_0] at kk
    exact kk
  · iterate 2 refine hX0 _ _ _ _ ?_
    refine And.intro (Or.inr rfl) ?_
    exact ht N st en 0 zS0 s2 a1 spl (Or.inl ⟨c0, rfl, rfl, rfl⟩) p1 p2 pB
