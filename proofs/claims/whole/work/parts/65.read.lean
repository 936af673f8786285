/-! RULES READ: the station -/

set_option maxRecDepth 100000 in
theorem x_addIfA {d : Nat} {s : Nat → Int32} {a : Nat → Nat → Int32} {w : Bool} {Z : zH} {S : zS} {ra : Int32} {Q : zQ} (hB : zBk (s 23) (s 24) (s 25) (s 26) (s 27) (a 34) (a 35) (a 36) (a 37) (a 38) (a 39) S) (hI : S.2.2.2.2.length < 20) (h0 : ∀ (s' : Nat → Int32) (a' : Nat → Nat → Int32), zSm [23, 25] s s' → zSm [38, 39] a a' → zBk (s' 23) (s' 24) (s' 25) (s' 26) (s' 27) (a' 34) (a' 35) (a' 36) (a' 37) (a' 38) (a' 39) (S.1 + 1, S.2.1, S.2.2.1, S.2.2.2.1, S.2.2.2.2 ++ [(S.2.2.2.1.length, ra)]) → Q none (HX s' a' w ++ Z)) : zG (d + 1) 47 [.ref 42, .int ra] (HX s a w ++ Z) Q := by
  refine g_47 (Nat.le_of_ble_eq_true rfl) ?_
  intro X0 hX0
  have k1 : s 23 = nI S.1 := hB.1
  have k2 : s 24 = nI S.2.2.2.1.length := hB.2.1
  have k3 : s 25 = nI S.2.2.2.2.length := hB.2.2.1
  have hc : (nI S.2.2.2.2.length).toNatClampNeg = S.2.2.2.2.length := nI_clamp (by omega)
  iterate 7 refine hX0 _ _ _ _ ?_
  rw [k3, k2]
  refine And.intro (by exact vp_in_nI (by omega) (by omega)) ?_
  refine zcast (X := X0) xa_38 ?_
  rw [hc]
  iterate 5 refine hX0 _ _ _ _ ?_
  rw [k3]
  refine hX0 _ _ _ _ ?_
  refine And.intro (by exact vp_in_nI (by omega) (by omega)) ?_
  refine zcast (X := X0) xa_39 ?_
  rw [hc]
  iterate 6 refine hX0 _ _ _ _ ?_
  rw [k3, nI_1]
  refine zcast (X := X0) xs_25 ?_
  iterate 6 refine hX0 _ _ _ _ ?_
  have k1' : va_up s 25 (nI (S.2.2.2.2.length + 1)) 23 = nI S.1 := k1
  rw [k1', nI_1]
  refine zcast (X := X0) xs_23 ?_
  refine hX0 _ _ _ _ ?_
  exact h0 _ _ (zSm_up (by decide) (zSm_up (by decide) zSm_refl)) (zSm_up (by decide) (zSm_up (by decide) zSm_refl)) (zBk_i hB)
set_option maxRecDepth 100000 in
theorem x_readIfA {d : Nat} {s : Nat → Int32} {a : Nat → Nat → Int32} {w : Bool} {Z : zH} {N k : Nat} {S : zS} {Q : zQ} (hN : s 14 = nI N) (hN4 : N ≤ 400) (hk : s 16 = nI k) (hkN : k ≤ N) (hB : zBk (s 23) (s 24) (s 25) (s 26) (s 27) (a 34) (a 35) (a 36) (a 37) (a 38) (a 39) S) (hT60 : S.2.2.2.1.length ≤ 60) (hI : S.2.2.2.2.length < 20)
  (hf : ∀ (tl : List zTst) (k' : Nat) (s' : Nat → Int32) (a' : Nat → Nat → Int32), ((zVt (zTt (a 24) N) tl k 0 (60 - S.2.2.2.1.length) false k') ∨ ∃ k2, zVt (zTt (a 24) N) tl k 0 (60 - S.2.2.2.1.length) true k2 ∧ ((¬ (zTt (a 24) N) k2 = -10 ∧ k' = k2) ∨ ((zTt (a 24) N) k2 = -10 ∧ ¬ zRg ((zTt (a 24) N) (k2 + 1)) 100 ∧ k' = k2 + 1))) → k' ≤ N → zSm [16, 23, 24, 25, 26, 27] s s' → zSm [34, 35, 36, 37, 38, 39] a a' → s' 16 = nI k' → Q (some (.int 0)) (HX s' a' w ++ Z))
  (ht : ∀ (tl : List zTst) (k2 : Nat) (s' : Nat → Int32) (a' : Nat → Nat → Int32), zVt (zTt (a 24) N) tl k 0 (60 - S.2.2.2.1.length) true k2 → (zTt (a 24) N) k2 = -10 → zRg ((zTt (a 24) N) (k2 + 1)) 100 → k2 + 2 ≤ N → zSm [16, 23, 24, 25, 26, 27] s s' → zSm [34, 35, 36, 37, 38, 39] a a' → s' 16 = nI (k2 + 2) → S.2.2.2.1.length + tl.length ≤ 60 → zBk (s' 23) (s' 24) (s' 25) (s' 26) (s' 27) (a' 34) (a' 35) (a' 36) (a' 37) (a' 38) (a' 39) (S.1 + 1, S.2.1, S.2.2.1, S.2.2.2.1 ++ tl, S.2.2.2.2 ++ [(S.2.2.2.1.length + tl.length, (zTt (a 24) N) (k2 + 1))]) → Q (some (.int 1)) (HX s' a' w ++ Z)) : zG (d + 3) 60 [.ref 30, .ref 42] (HX s a w ++ Z) Q := by
  refine g_60 (Nat.le_of_ble_eq_true rfl) ?_
  intro X0 hX0
  have hz0 : (0 : Int32).toInt = 0 := rfl
  have tok : ∀ (s1 : Nat → Int32) (a1 : Nat → Nat → Int32) (j : Nat) (K : zQ), zSm [16, 23, 24, 25, 26, 27] s s1 → zSm [34, 35, 36, 37, 38, 39] a a1 → s1 16 = nI j → j ≤ N + 3 → K (some (.int ((zTt (a 24) N) j))) (HX s1 a1 w ++ Z) → zG (d + 2) 58 [.ref 30] (HX s1 a1 w ++ Z) K := fun s1 a1 j K q1 q5 q2 q3 q4 => x_token (d := d + 1) (N := N) (k := j) (by rw [q1 14 (by decide)]; exact hN) hN4 q2 (by omega) (by rw [q5 24 (by decide)]; exact q4)
  obtain ⟨T, hT⟩ : ∃ z, z = (zTt (a 24) N) := ⟨_, rfl⟩
  rw [← hT] at tok hf ht
  have lt1 : ∀ j v, T j = v → ¬ v = -1 → j < N := fun j v h1 h2 => by rw [hT] at h1; exact zTt_lt h1 h2
  -- behind the tests
  have fin : ∀ (tl : List zTst) (k2 : Nat) (od rm : Int32) (s1 : Nat → Int32) (a1 : Nat → Nat → Int32), zVt T tl k 0 (60 - S.2.2.2.1.length) true k2 → k2 ≤ N → zSm [16, 23, 24, 25, 26, 27] s s1 → zSm [34, 35, 36, 37, 38, 39] a a1 → s1 16 = nI k2 → S.2.2.2.1.length + tl.length ≤ 60 → zBk (s1 23) (s1 24) (s1 25) (s1 26) (s1 27) (a1 34) (a1 35) (a1 36) (a1 37) (a1 38) (a1 39) (S.1, S.2.1, S.2.2.1, S.2.2.2.1 ++ tl, S.2.2.2.2) → X0 84 [some (.ref 30), some (.ref 42), some (.int od), some (.int 0), some (.int rm)] [] (HX s1 a1 w ++ Z) := by
    intro tl k2 od rm s1 a1 y1 y2 q1 q2 q3 q4 q5
    iterate 2 refine hX0 _ _ _ _ ?_
    refine And.intro (fun c => absurd rfl c) (fun _ => ?_)
    iterate 2 refine hX0 _ _ _ _ ?_
    refine tok s1 a1 k2 _ q1 q2 q3 (by omega) ?_
    iterate 2 refine hX0 _ _ _ _ ?_
    refine And.intro (fun c1 => ?_) (fun c1 => ?_)
    · have hk2 := lt1 _ _ c1 (by decide)
      iterate 6 refine hX0 _ _ _ _ ?_
      rw [q3, nI_1]
      refine zcast (X := X0) xs_16 ?_
      iterate 2 refine hX0 _ _ _ _ ?_
      refine tok _ a1 (k2 + 1) _ (zSm_up (by decide) q1) q2 rfl (by omega) ?_
      iterate 5 refine hX0 _ _ _ _ ?_
      refine r_within 0 100 rfl rfl (fun c2 => ?_) (fun c2 => ?_)
      · have hk3 : k2 + 1 < N := by
          have : zRg (zTt (a 24) N (k2 + 1)) 100 := by rw [hT] at c2; exact c2
          exact zTt_rg this
        refine hX0 _ _ _ _ ?_
        refine And.intro (fun _ => ?_) (fun c => absurd c (by decide))
        iterate 6 refine hX0 _ _ _ _ ?_
        have e16 : va_up s1 16 (nI (k2 + 1)) 16 = nI (k2 + 1) := rfl
        rw [e16, nI_1]
        refine zcast (X := X0) xs_16 ?_
        iterate 3 refine hX0 _ _ _ _ ?_
        refine x_addIfA (S := (S.1, S.2.1, S.2.2.1, S.2.2.2.1 ++ tl, S.2.2.2.2)) q5 hI (fun s2 a2 p1 p2 p3 => ?_)
        iterate 2 refine hX0 _ _ _ _ ?_
        refine And.intro (Or.inr rfl) ?_
        refine ht tl k2 s2 a2 y1 c1 c2 (by omega) (zSm_trans (zSm_up (by decide) (zSm_up (by decide) q1)) (zSm_more p1 (by decide))) (zSm_trans q2 (zSm_more p2 (by decide))) (by rw [p1 16 (by decide)]; rfl) q4 ?_
        have e : (S.2.2.2.1 ++ tl).length = S.2.2.2.1.length + tl.length := List.length_append
        rw [← e]
        exact p3
      · refine hX0 _ _ _ _ ?_
        refine And.intro (fun c => absurd c (by decide)) (fun _ => ?_)
        iterate 2 refine hX0 _ _ _ _ ?_
        refine And.intro (Or.inl rfl) ?_
        exact hf tl (k2 + 1) _ a1 (Or.inr ⟨k2, y1, Or.inr ⟨c1, c2, rfl⟩⟩) (by omega) (zSm_up (by decide) q1) q2 rfl
    · iterate 2 refine hX0 _ _ _ _ ?_
      refine And.intro (Or.inl rfl) ?_
      exact hf tl k2 s1 a1 (Or.inr ⟨k2, y1, Or.inl ⟨c1, rfl⟩⟩) y2 q1 q2 q3
  have loop : ∀ (cc : Nat) (tl : List zTst) (kc : Nat) (od : Int32) (s1 : Nat → Int32) (a1 : Nat → Nat → Int32), S.2.2.2.1.length + tl.length + cc = 60 → kc ≤ N → (od = 0 ∨ od = 1) → (∀ tl2 ok k', zVt T tl2 kc od cc ok k' → zVt T (tl ++ tl2) k 0 (60 - S.2.2.2.1.length) ok k') → zSm [16, 23, 24, 25, 26, 27] s s1 → zSm [34, 35, 36, 37, 38, 39] a a1 → s1 16 = nI kc → zBk (s1 23) (s1 24) (s1 25) (s1 26) (s1 27) (a1 34) (a1 35) (a1 36) (a1 37) (a1 38) (a1 39) (S.1, S.2.1, S.2.2.1, S.2.2.2.1 ++ tl, S.2.2.2.2) → X0 10 [some (.ref 30), some (.ref 42), some (.int od), some (.int 1), some (.int (nI cc))] [] (HX s1 a1 w ++ Z) := by
    intro cc
    induction cc with
    | zero =>
      intro tl kc od s1 a1 y1 y2 y3 y4 q1 q2 q3 q4
      iterate 2 refine hX0 _ _ _ _ ?_
      refine And.intro (fun c => absurd c (by decide)) (fun _ => ?_)
      iterate 2 refine hX0 _ _ _ _ ?_
      refine And.intro (fun _ => ?_) (fun c1 => absurd (show nI 0 ≤ 0 by decide) c1)
      iterate 2 refine hX0 _ _ _ _ ?_
      refine And.intro (fun _ => ?_) (fun c => absurd c (by decide))
      iterate 2 refine hX0 _ _ _ _ ?_
      refine And.intro (Or.inl rfl) ?_
      exact hf _ kc s1 a1 (Or.inl (y4 [] false kc ⟨rfl, Or.inl ⟨rfl, rfl⟩⟩)) y2 q1 q2 q3
    | succ cc ih =>
      intro tl kc od s1 a1 y1 y2 y3 y4 q1 q2 q3 q4
      have hte : s1 24 = nI (S.2.2.2.1.length + tl.length) := by
        have := q4.2.1
        rw [List.length_append] at this
        exact this
      have n14 : s1 14 = nI N := by rw [q1 14 (by decide)]; exact hN
      iterate 2 refine hX0 _ _ _ _ ?_
      refine And.intro (fun c => absurd c (by decide)) (fun _ => ?_)
      iterate 2 refine hX0 _ _ _ _ ?_
      refine And.intro (fun c1 => ?_) (fun c1 => ?_)
      · exfalso
        rw [fa_le, nI_toInt (by omega)] at c1
        omega
      · iterate 4 refine hX0 _ _ _ _ ?_
        refine x_readTestA (d := d) (N := N) (k := kc) (M := S.2.2.2.1.length + tl.length) n14 hN4 q3 y2 hte (by omega) y3 (fun kf s2 z1 z2 z3 z4 => ?_) (fun su ab nu k1 s2 a2 z1 z2 p1 p2 p3 p4 p5 p6 p7 p8 => ?_)
        · refine hX0 _ _ _ _ ?_
          refine And.intro (fun c => absurd rfl c) (fun _ => ?_)
          iterate 2 refine hX0 _ _ _ _ ?_
          refine And.intro (Or.inl rfl) ?_
          rw [q2 24 (by decide), ← hT] at z1
          exact hf _ kf s2 a1 (Or.inl (y4 [] false kf ⟨rfl, Or.inr ⟨by omega, z1⟩⟩)) z2 (zSm_trans q1 (zSm_more z3 (by decide))) q2 z4
        · rw [q2 24 (by decide), ← hT] at z1
          have r1 : zSm [16, 23, 24, 25, 26, 27] s s2 := zSm_trans q1 (zSm_more p1 (by decide))
          have r2 : zSm [34, 35, 36, 37, 38, 39] a a2 := zSm_trans q2 (zSm_more p2 (by decide))
          have hb2 : zBk (s2 23) (s2 24) (s2 25) (s2 26) (s2 27) (a2 34) (a2 35) (a2 36) (a2 37) (a2 38) (a2 39) (S.1, S.2.1, S.2.2.1, S.2.2.2.1 ++ (tl ++ [(su, ab, nu, od)]), S.2.2.2.2) := by
            have h := zBk_t (su := su) (ab := ab) (nu := nu) (od := od) q4
            rw [← List.append_assoc]
            rw [p1 23 (by decide), p1 25 (by decide), p1 26 (by decide), p1 27 (by decide), p2 38 (by decide), p2 39 (by decide), p4, p5, p6, p7, p8]
            dsimp only at h
            rw [List.length_append] at h
            exact h
          refine hX0 _ _ _ _ ?_
          refine And.intro (fun _ => ?_) (fun c => absurd c (by decide))
          iterate 2 refine hX0 _ _ _ _ ?_
          refine tok s2 a2 k1 _ r1 r2 p3 (by omega) ?_
          have more : ∀ o2 : Int32, (T k1 = -11 ∧ o2 = 1) ∨ (T k1 = -12 ∧ o2 = 0) → X0 68 [some (.ref 30), some (.ref 42), some (.int o2), some (.int 1), some (.int (nI (cc + 1)))] [] (HX s2 a2 w ++ Z) := by
            intro o2 ho
            have hk1 : k1 < N := by
              rcases ho with z | z
              · exact lt1 _ _ z.1 (by decide)
              · exact lt1 _ _ z.1 (by decide)
            iterate 6 refine hX0 _ _ _ _ ?_
            rw [p3, nI_1]
            refine zcast (X := X0) xs_16 ?_
            iterate 2 refine hX0 _ _ _ _ ?_
            rw [pk_m1]
            refine ih (tl ++ [(su, ab, nu, od)]) (k1 + 1) o2 _ a2 (by rw [List.length_append]; simp only [List.length_singleton]; omega) (by omega) (by rcases ho with z | z; exact Or.inr z.2; exact Or.inl z.2) (fun tl2 ok k' hv => ?_) (zSm_up (by decide) r1) r2 rfl hb2
            rw [List.append_assoc]
            refine y4 _ ok k' ⟨by omega, k1, z1, rfl, ?_⟩
            rcases ho with z | z
            · rw [z.2] at hv
              exact Or.inl ⟨z.1, hv⟩
            · rw [z.2] at hv
              exact Or.inr (Or.inl ⟨z.1, hv⟩)
          iterate 2 refine hX0 _ _ _ _ ?_
          refine And.intro (fun c2 => ?_) (fun c2 => ?_)
          · iterate 4 refine hX0 _ _ _ _ ?_
            refine And.intro (fun c => absurd rfl c) (fun _ => ?_)
            iterate 2 refine hX0 _ _ _ _ ?_
            refine tok s2 a2 k1 _ r1 r2 p3 (by omega) ?_
            iterate 2 refine hX0 _ _ _ _ ?_
            refine And.intro (fun c3 => ?_) (fun c3 => ?_)
            · iterate 4 refine hX0 _ _ _ _ ?_
              refine And.intro (fun _ => ?_) (fun c => absurd rfl c)
              iterate 2 refine hX0 _ _ _ _ ?_
              iterate 2 refine hX0 _ _ _ _ ?_
              refine And.intro (fun _ => ?_) (fun c => absurd rfl c)
              refine fin (tl ++ [(su, ab, nu, od)]) k1 _ _ s2 a2 (y4 [(su, ab, nu, od)] true k1 ⟨by omega, k1, z1, rfl, Or.inr (Or.inr ⟨c2, c3, rfl, rfl, rfl⟩)⟩) z2 r1 r2 p3 (by rw [List.length_append]; simp only [List.length_singleton]; omega) hb2
            · iterate 5 refine hX0 _ _ _ _ ?_
              refine And.intro (fun c => absurd c (by decide)) (fun _ => ?_)
              exact more 0 (Or.inr ⟨c3, rfl⟩)
          · iterate 5 refine hX0 _ _ _ _ ?_
            refine And.intro (fun _ => ?_) (fun c => absurd c (by decide))
            iterate 5 refine hX0 _ _ _ _ ?_
            refine And.intro (fun c => absurd c (by decide)) (fun _ => ?_)
            exact more 1 (Or.inl ⟨c2, rfl⟩)
  iterate 6 refine hX0 _ _ _ _ ?_
  refine g_43 (Nat.le_of_ble_eq_true rfl) ?_
  intro X1 hX1
  iterate 5 refine hX1 _ _ _ _ ?_
  have k2 : s 24 = nI S.2.2.2.1.length := hB.2.1
  rw [k2, show (60 : Int32) = nI 60 from rfl, pk_sub hT60]
  refine hX0 _ _ _ _ ?_
  exact loop (60 - S.2.2.2.1.length) [] k 0 s a (by simp only [List.length_nil]; omega) hkN (Or.inl rfl) (fun tl2 ok k' hv => hv) zSm_refl zSm_refl hk (by rw [List.append_nil]; exact hB)

set_option maxRecDepth 100000 in
theorem x_addIfB {d : Nat} {s : Nat → Int32} {a : Nat → Nat → Int32} {w : Bool} {Z : zH} {S : zS} {ra : Int32} {Q : zQ} (hB : zBk (s 28) (s 29) (s 30) (s 31) (s 32) (a 40) (a 41) (a 42) (a 43) (a 44) (a 45) S) (hI : S.2.2.2.2.length < 20) (h0 : ∀ (s' : Nat → Int32) (a' : Nat → Nat → Int32), zSm [28, 30] s s' → zSm [44, 45] a a' → zBk (s' 28) (s' 29) (s' 30) (s' 31) (s' 32) (a' 40) (a' 41) (a' 42) (a' 43) (a' 44) (a' 45) (S.1 + 1, S.2.1, S.2.2.1, S.2.2.2.1, S.2.2.2.2 ++ [(S.2.2.2.1.length, ra)]) → Q none (HX s' a' w ++ Z)) : zG (d + 1) 47 [.ref 49, .int ra] (HX s a w ++ Z) Q := by
  refine g_47 (Nat.le_of_ble_eq_true rfl) ?_
  intro X0 hX0
  have k1 : s 28 = nI S.1 := hB.1
  have k2 : s 29 = nI S.2.2.2.1.length := hB.2.1
  have k3 : s 30 = nI S.2.2.2.2.length := hB.2.2.1
  have hc : (nI S.2.2.2.2.length).toNatClampNeg = S.2.2.2.2.length := nI_clamp (by omega)
  iterate 7 refine hX0 _ _ _ _ ?_
  rw [k3, k2]
  refine And.intro (by exact vp_in_nI (by omega) (by omega)) ?_
  refine zcast (X := X0) xa_44 ?_
  rw [hc]
  iterate 5 refine hX0 _ _ _ _ ?_
  rw [k3]
  refine hX0 _ _ _ _ ?_
  refine And.intro (by exact vp_in_nI (by omega) (by omega)) ?_
  refine zcast (X := X0) xa_45 ?_
  rw [hc]
  iterate 6 refine hX0 _ _ _ _ ?_
  rw [k3, nI_1]
  refine zcast (X := X0) xs_30 ?_
  iterate 6 refine hX0 _ _ _ _ ?_
  have k1' : va_up s 30 (nI (S.2.2.2.2.length + 1)) 28 = nI S.1 := k1
  rw [k1', nI_1]
  refine zcast (X := X0) xs_28 ?_
  refine hX0 _ _ _ _ ?_
  exact h0 _ _ (zSm_up (by decide) (zSm_up (by decide) zSm_refl)) (zSm_up (by decide) (zSm_up (by decide) zSm_refl)) (zBk_i hB)
set_option maxRecDepth 100000 in
theorem x_readIfB {d : Nat} {s : Nat → Int32} {a : Nat → Nat → Int32} {w : Bool} {Z : zH} {N k : Nat} {S : zS} {Q : zQ} (hN : s 14 = nI N) (hN4 : N ≤ 400) (hk : s 16 = nI k) (hkN : k ≤ N) (hB : zBk (s 28) (s 29) (s 30) (s 31) (s 32) (a 40) (a 41) (a 42) (a 43) (a 44) (a 45) S) (hT60 : S.2.2.2.1.length ≤ 60) (hI : S.2.2.2.2.length < 20)
  (hf : ∀ (tl : List zTst) (k' : Nat) (s' : Nat → Int32) (a' : Nat → Nat → Int32), ((zVt (zTt (a 24) N) tl k 0 (60 - S.2.2.2.1.length) false k') ∨ ∃ k2, zVt (zTt (a 24) N) tl k 0 (60 - S.2.2.2.1.length) true k2 ∧ ((¬ (zTt (a 24) N) k2 = -10 ∧ k' = k2) ∨ ((zTt (a 24) N) k2 = -10 ∧ ¬ zRg ((zTt (a 24) N) (k2 + 1)) 100 ∧ k' = k2 + 1))) → k' ≤ N → zSm [16, 28, 29, 30, 31, 32] s s' → zSm [40, 41, 42, 43, 44, 45] a a' → s' 16 = nI k' → Q (some (.int 0)) (HX s' a' w ++ Z))
  (ht : ∀ (tl : List zTst) (k2 : Nat) (s' : Nat → Int32) (a' : Nat → Nat → Int32), zVt (zTt (a 24) N) tl k 0 (60 - S.2.2.2.1.length) true k2 → (zTt (a 24) N) k2 = -10 → zRg ((zTt (a 24) N) (k2 + 1)) 100 → k2 + 2 ≤ N → zSm [16, 28, 29, 30, 31, 32] s s' → zSm [40, 41, 42, 43, 44, 45] a a' → s' 16 = nI (k2 + 2) → S.2.2.2.1.length + tl.length ≤ 60 → zBk (s' 28) (s' 29) (s' 30) (s' 31) (s' 32) (a' 40) (a' 41) (a' 42) (a' 43) (a' 44) (a' 45) (S.1 + 1, S.2.1, S.2.2.1, S.2.2.2.1 ++ tl, S.2.2.2.2 ++ [(S.2.2.2.1.length + tl.length, (zTt (a 24) N) (k2 + 1))]) → Q (some (.int 1)) (HX s' a' w ++ Z)) : zG (d + 3) 60 [.ref 30, .ref 49] (HX s a w ++ Z) Q := by
  refine g_60 (Nat.le_of_ble_eq_true rfl) ?_
  intro X0 hX0
  have hz0 : (0 : Int32).toInt = 0 := rfl
  have tok : ∀ (s1 : Nat → Int32) (a1 : Nat → Nat → Int32) (j : Nat) (K : zQ), zSm [16, 28, 29, 30, 31, 32] s s1 → zSm [40, 41, 42, 43, 44, 45] a a1 → s1 16 = nI j → j ≤ N + 3 → K (some (.int ((zTt (a 24) N) j))) (HX s1 a1 w ++ Z) → zG (d + 2) 58 [.ref 30] (HX s1 a1 w ++ Z) K := fun s1 a1 j K q1 q5 q2 q3 q4 => x_token (d := d + 1) (N := N) (k := j) (by rw [q1 14 (by decide)]; exact hN) hN4 q2 (by omega) (by rw [q5 24 (by decide)]; exact q4)
  obtain ⟨T, hT⟩ : ∃ z, z = (zTt (a 24) N) := ⟨_, rfl⟩
  rw [← hT] at tok hf ht
  have lt1 : ∀ j v, T j = v → ¬ v = -1 → j < N := fun j v h1 h2 => by rw [hT] at h1; exact zTt_lt h1 h2
  -- behind the tests
  have fin : ∀ (tl : List zTst) (k2 : Nat) (od rm : Int32) (s1 : Nat → Int32) (a1 : Nat → Nat → Int32), zVt T tl k 0 (60 - S.2.2.2.1.length) true k2 → k2 ≤ N → zSm [16, 28, 29, 30, 31, 32] s s1 → zSm [40, 41, 42, 43, 44, 45] a a1 → s1 16 = nI k2 → S.2.2.2.1.length + tl.length ≤ 60 → zBk (s1 28) (s1 29) (s1 30) (s1 31) (s1 32) (a1 40) (a1 41) (a1 42) (a1 43) (a1 44) (a1 45) (S.1, S.2.1, S.2.2.1, S.2.2.2.1 ++ tl, S.2.2.2.2) → X0 84 [some (.ref 30), some (.ref 49), some (.int od), some (.int 0), some (.int rm)] [] (HX s1 a1 w ++ Z) := by
    intro tl k2 od rm s1 a1 y1 y2 q1 q2 q3 q4 q5
    iterate 2 refine hX0 _ _ _ _ ?_
    refine And.intro (fun c => absurd rfl c) (fun _ => ?_)
    iterate 2 refine hX0 _ _ _ _ ?_
    refine tok s1 a1 k2 _ q1 q2 q3 (by omega) ?_
    iterate 2 refine hX0 _ _ _ _ ?_
    refine And.intro (fun c1 => ?_) (fun c1 => ?_)
    · have hk2 := lt1 _ _ c1 (by decide)
      iterate 6 refine hX0 _ _ _ _ ?_
      rw [q3, nI_1]
      refine zcast (X := X0) xs_16 ?_
      iterate 2 refine hX0 _ _ _ _ ?_
      refine tok _ a1 (k2 + 1) _ (zSm_up (by decide) q1) q2 rfl (by omega) ?_
      iterate 5 refine hX0 _ _ _ _ ?_
      refine r_within 0 100 rfl rfl (fun c2 => ?_) (fun c2 => ?_)
      · have hk3 : k2 + 1 < N := by
          have : zRg (zTt (a 24) N (k2 + 1)) 100 := by rw [hT] at c2; exact c2
          exact zTt_rg this
        refine hX0 _ _ _ _ ?_
        refine And.intro (fun _ => ?_) (fun c => absurd c (by decide))
        iterate 6 refine hX0 _ _ _ _ ?_
        have e16 : va_up s1 16 (nI (k2 + 1)) 16 = nI (k2 + 1) := rfl
        rw [e16, nI_1]
        refine zcast (X := X0) xs_16 ?_
        iterate 3 refine hX0 _ _ _ _ ?_
        refine x_addIfB (S := (S.1, S.2.1, S.2.2.1, S.2.2.2.1 ++ tl, S.2.2.2.2)) q5 hI (fun s2 a2 p1 p2 p3 => ?_)
        iterate 2 refine hX0 _ _ _ _ ?_
        refine And.intro (Or.inr rfl) ?_
        refine ht tl k2 s2 a2 y1 c1 c2 (by omega) (zSm_trans (zSm_up (by decide) (zSm_up (by decide) q1)) (zSm_more p1 (by decide))) (zSm_trans q2 (zSm_more p2 (by decide))) (by rw [p1 16 (by decide)]; rfl) q4 ?_
        have e : (S.2.2.2.1 ++ tl).length = S.2.2.2.1.length + tl.length := List.length_append
        rw [← e]
        exact p3
      · refine hX0 _ _ _ _ ?_
        refine And.intro (fun c => absurd c (by decide)) (fun _ => ?_)
        iterate 2 refine hX0 _ _ _ _ ?_
        refine And.intro (Or.inl rfl) ?_
        exact hf tl (k2 + 1) _ a1 (Or.inr ⟨k2, y1, Or.inr ⟨c1, c2, rfl⟩⟩) (by omega) (zSm_up (by decide) q1) q2 rfl
    · iterate 2 refine hX0 _ _ _ _ ?_
      refine And.intro (Or.inl rfl) ?_
      exact hf tl k2 s1 a1 (Or.inr ⟨k2, y1, Or.inl ⟨c1, rfl⟩⟩) y2 q1 q2 q3
  have loop : ∀ (cc : Nat) (tl : List zTst) (kc : Nat) (od : Int32) (s1 : Nat → Int32) (a1 : Nat → Nat → Int32), S.2.2.2.1.length + tl.length + cc = 60 → kc ≤ N → (od = 0 ∨ od = 1) → (∀ tl2 ok k', zVt T tl2 kc od cc ok k' → zVt T (tl ++ tl2) k 0 (60 - S.2.2.2.1.length) ok k') → zSm [16, 28, 29, 30, 31, 32] s s1 → zSm [40, 41, 42, 43, 44, 45] a a1 → s1 16 = nI kc → zBk (s1 28) (s1 29) (s1 30) (s1 31) (s1 32) (a1 40) (a1 41) (a1 42) (a1 43) (a1 44) (a1 45) (S.1, S.2.1, S.2.2.1, S.2.2.2.1 ++ tl, S.2.2.2.2) → X0 10 [some (.ref 30), some (.ref 49), some (.int od), some (.int 1), some (.int (nI cc))] [] (HX s1 a1 w ++ Z) := by
    intro cc
    induction cc with
    | zero =>
      intro tl kc od s1 a1 y1 y2 y3 y4 q1 q2 q3 q4
      iterate 2 refine hX0 _ _ _ _ ?_
      refine And.intro (fun c => absurd c (by decide)) (fun _ => ?_)
      iterate 2 refine hX0 _ _ _ _ ?_
      refine And.intro (fun _ => ?_) (fun c1 => absurd (show nI 0 ≤ 0 by decide) c1)
      iterate 2 refine hX0 _ _ _ _ ?_
      refine And.intro (fun _ => ?_) (fun c => absurd c (by decide))
      iterate 2 refine hX0 _ _ _ _ ?_
      refine And.intro (Or.inl rfl) ?_
      exact hf _ kc s1 a1 (Or.inl (y4 [] false kc ⟨rfl, Or.inl ⟨rfl, rfl⟩⟩)) y2 q1 q2 q3
    | succ cc ih =>
      intro tl kc od s1 a1 y1 y2 y3 y4 q1 q2 q3 q4
      have hte : s1 29 = nI (S.2.2.2.1.length + tl.length) := by
        have := q4.2.1
        rw [List.length_append] at this
        exact this
      have n14 : s1 14 = nI N := by rw [q1 14 (by decide)]; exact hN
      iterate 2 refine hX0 _ _ _ _ ?_
      refine And.intro (fun c => absurd c (by decide)) (fun _ => ?_)
      iterate 2 refine hX0 _ _ _ _ ?_
      refine And.intro (fun c1 => ?_) (fun c1 => ?_)
      · exfalso
        rw [fa_le, nI_toInt (by omega)] at c1
        omega
      · iterate 4 refine hX0 _ _ _ _ ?_
        refine x_readTestB (d := d) (N := N) (k := kc) (M := S.2.2.2.1.length + tl.length) n14 hN4 q3 y2 hte (by omega) y3 (fun kf s2 z1 z2 z3 z4 => ?_) (fun su ab nu k1 s2 a2 z1 z2 p1 p2 p3 p4 p5 p6 p7 p8 => ?_)
        · refine hX0 _ _ _ _ ?_
          refine And.intro (fun c => absurd rfl c) (fun _ => ?_)
          iterate 2 refine hX0 _ _ _ _ ?_
          refine And.intro (Or.inl rfl) ?_
          rw [q2 24 (by decide), ← hT] at z1
          exact hf _ kf s2 a1 (Or.inl (y4 [] false kf ⟨rfl, Or.inr ⟨by omega, z1⟩⟩)) z2 (zSm_trans q1 (zSm_more z3 (by decide))) q2 z4
        · rw [q2 24 (by decide), ← hT] at z1
          have r1 : zSm [16, 28, 29, 30, 31, 32] s s2 := zSm_trans q1 (zSm_more p1 (by decide))
          have r2 : zSm [40, 41, 42, 43, 44, 45] a a2 := zSm_trans q2 (zSm_more p2 (by decide))
          have hb2 : zBk (s2 28) (s2 29) (s2 30) (s2 31) (s2 32) (a2 40) (a2 41) (a2 42) (a2 43) (a2 44) (a2 45) (S.1, S.2.1, S.2.2.1, S.2.2.2.1 ++ (tl ++ [(su, ab, nu, od)]), S.2.2.2.2) := by
            have h := zBk_t (su := su) (ab := ab) (nu := nu) (od := od) q4
            rw [← List.append_assoc]
            rw [p1 28 (by decide), p1 30 (by decide), p1 31 (by decide), p1 32 (by decide), p2 44 (by decide), p2 45 (by decide), p4, p5, p6, p7, p8]
            dsimp only at h
            rw [List.length_append] at h
            exact h
          refine hX0 _ _ _ _ ?_
          refine And.intro (fun _ => ?_) (fun c => absurd c (by decide))
          iterate 2 refine hX0 _ _ _ _ ?_
          refine tok s2 a2 k1 _ r1 r2 p3 (by omega) ?_
          have more : ∀ o2 : Int32, (T k1 = -11 ∧ o2 = 1) ∨ (T k1 = -12 ∧ o2 = 0) → X0 68 [some (.ref 30), some (.ref 49), some (.int o2), some (.int 1), some (.int (nI (cc + 1)))] [] (HX s2 a2 w ++ Z) := by
            intro o2 ho
            have hk1 : k1 < N := by
              rcases ho with z | z
              · exact lt1 _ _ z.1 (by decide)
              · exact lt1 _ _ z.1 (by decide)
            iterate 6 refine hX0 _ _ _ _ ?_
            rw [p3, nI_1]
            refine zcast (X := X0) xs_16 ?_
            iterate 2 refine hX0 _ _ _ _ ?_
            rw [pk_m1]
            refine ih (tl ++ [(su, ab, nu, od)]) (k1 + 1) o2 _ a2 (by rw [List.length_append]; simp only [List.length_singleton]; omega) (by omega) (by rcases ho with z | z; exact Or.inr z.2; exact Or.inl z.2) (fun tl2 ok k' hv => ?_) (zSm_up (by decide) r1) r2 rfl hb2
            rw [List.append_assoc]
            refine y4 _ ok k' ⟨by omega, k1, z1, rfl, ?_⟩
            rcases ho with z | z
            · rw [z.2] at hv
              exact Or.inl ⟨z.1, hv⟩
            · rw [z.2] at hv
              exact Or.inr (Or.inl ⟨z.1, hv⟩)
          iterate 2 refine hX0 _ _ _ _ ?_
          refine And.intro (fun c2 => ?_) (fun c2 => ?_)
          · iterate 4 refine hX0 _ _ _ _ ?_
            refine And.intro (fun c => absurd rfl c) (fun _ => ?_)
            iterate 2 refine hX0 _ _ _ _ ?_
            refine tok s2 a2 k1 _ r1 r2 p3 (by omega) ?_
            iterate 2 refine hX0 _ _ _ _ ?_
            refine And.intro (fun c3 => ?_) (fun c3 => ?_)
            · iterate 4 refine hX0 _ _ _ _ ?_
              refine And.intro (fun _ => ?_) (fun c => absurd rfl c)
              iterate 2 refine hX0 _ _ _ _ ?_
              iterate 2 refine hX0 _ _ _ _ ?_
              refine And.intro (fun _ => ?_) (fun c => absurd rfl c)
              refine fin (tl ++ [(su, ab, nu, od)]) k1 _ _ s2 a2 (y4 [(su, ab, nu, od)] true k1 ⟨by omega, k1, z1, rfl, Or.inr (Or.inr ⟨c2, c3, rfl, rfl, rfl⟩)⟩) z2 r1 r2 p3 (by rw [List.length_append]; simp only [List.length_singleton]; omega) hb2
            · iterate 5 refine hX0 _ _ _ _ ?_
              refine And.intro (fun c => absurd c (by decide)) (fun _ => ?_)
              exact more 0 (Or.inr ⟨c3, rfl⟩)
          · iterate 5 refine hX0 _ _ _ _ ?_
            refine And.intro (fun _ => ?_) (fun c => absurd c (by decide))
            iterate 5 refine hX0 _ _ _ _ ?_
            refine And.intro (fun c => absurd c (by decide)) (fun _ => ?_)
            exact more 1 (Or.inl ⟨c2, rfl⟩)
  iterate 6 refine hX0 _ _ _ _ ?_
  refine g_43 (Nat.le_of_ble_eq_true rfl) ?_
  intro X1 hX1
  iterate 5 refine hX1 _ _ _ _ ?_
  have k2 : s 29 = nI S.2.2.2.1.length := hB.2.1
  rw [k2, show (60 : Int32) = nI 60 from rfl, pk_sub hT60]
  refine hX0 _ _ _ _ ?_
  exact loop (60 - S.2.2.2.1.length) [] k 0 s a (by simp only [List.length_nil]; omega) hkN (Or.inl rfl) (fun tl2 ok k' hv => hv) zSm_refl zSm_refl hk (by rw [List.append_nil]; exact hB)
