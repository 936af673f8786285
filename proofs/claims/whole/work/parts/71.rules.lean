/-! THE RULES COPIED AND TOLD BY THE REFERENCE -/

set_option maxRecDepth 100000 in
theorem y_cp1 {d : Nat} {s : Nat → Int32} {a : Nat → Nat → Int32} {w : Bool} {t : Nat → Int32} {b : Nat → Nat → Int32} {u : Nat → Int64} {c : Nat → Nat → Int64} {I : Nat} {Q : zQ} {X0 : zX} (hX0 : ∀ pc L S h, zstep kX9_rules (zG (d + 6)) Q X0 pc L S h → X0 pc L S h) (hI : t 24 = nI I) (hI20 : I ≤ 20) (h0 : 0 < I → b 30 0 = 0)
  (hx : ∀ (b' : Nat → Nat → Int32), zSm [3, 4] b b' → (∀ k, k ≤ I → b' 3 k = if k = 0 then 0 else b 30 k) → (∀ k, k < I → b' 4 k = b 31 k) → X0 221 [some (.ref 56), some (.int (nI I))] [] (HX s a w ++ HM t b' u c)) :
  ∀ (m i : Nat) (b1 : Nat → Nat → Int32), I - i = m → i ≤ I → zSm [3, 4] b b1 → (∀ k, k ≤ i → b1 3 k = if k = 0 then 0 else b 30 k) → (∀ k, k < i → b1 4 k = b 31 k) → X0 167 [some (.ref 56), some (.int (nI i))] [] (HX s a w ++ HM t b1 u c) := by
  have gt : ∀ (i : Nat) (b1 : Nat → Nat → Int32), (i < I → X0 175 [some (.ref 56), some (.int (nI i))] [] (HX s a w ++ HM t b1 u c)) → (I ≤ i → X0 221 [some (.ref 56), some (.int (nI i))] [] (HX s a w ++ HM t b1 u c)) → i ≤ I → X0 167 [some (.ref 56), some (.int (nI i))] [] (HX s a w ++ HM t b1 u c) := by
    intro i b1 g1 g2 hi
    iterate 4 refine hX0 _ _ _ _ ?_
    rw [hI]
    refine And.intro (fun c1 => ?_) (fun c1 => ?_)
    · rw [nI_leI (by omega) (by omega)] at c1
      exact g2 c1
    · rw [nI_leI (by omega) (by omega)] at c1
      exact g1 (by omega)
  intro m
  induction m with
  | zero =>
    intro i b1 hm hi q1 q2 q3
    have e : i = I := by omega
    subst e
    exact gt i b1 (fun z => absurd z (Nat.lt_irrefl _)) (fun _ => hx b1 q1 q2 q3) hi
  | succ m ih =>
    intro i b1 hm hi q1 q2 q3
    refine gt i b1 (fun hi2 => ?_) (fun z => by omega) hi
    have hci : (nI i).toNatClampNeg = i := nI_clamp (by omega)
    have hci1 : (nI (i + 1)).toNatClampNeg = i + 1 := nI_clamp (by omega)
    iterate 7 refine hX0 _ _ _ _ ?_
    refine And.intro (by exact vp_in_nI (by omega) (by omega)) ?_
    refine hX0 _ _ _ _ ?_
    refine And.intro (by exact vp_in_nI (by omega) (by omega)) ?_
    refine zcast (X := X0) yb_3 ?_
    rw [hci]
    iterate 6 refine hX0 _ _ _ _ ?_
    rw [nI_1]
    iterate 5 refine hX0 _ _ _ _ ?_
    rw [nI_1]
    refine And.intro (by exact vp_in_nI (by omega) (by omega)) ?_
    refine hX0 _ _ _ _ ?_
    refine And.intro (by exact vp_in_nI (by omega) (by omega)) ?_
    refine zcast (X := X0) yb_3 ?_
    rw [hci1]
    iterate 7 refine hX0 _ _ _ _ ?_
    refine And.intro (by exact vp_in_nI (by omega) (by omega)) ?_
    refine hX0 _ _ _ _ ?_
    refine And.intro (by exact vp_in_nI (by omega) (by omega)) ?_
    refine zcast (X := X0) yb_4 ?_
    rw [hci]
    iterate 2 refine hX0 _ _ _ _ ?_
    rw [nI_1]
    refine ih (i + 1) _ (by omega) (by omega) (zSm_up (by decide) (zSm_up (by decide) (zSm_up (by decide) q1))) (fun k hk => ?_) (fun k hk => ?_)
    · show upd (upd (b1 3) i (b1 30 i)) (i + 1) (b1 30 (i + 1)) k = _
      rw [q1 30 (by decide), upd_at, upd_at]
      by_cases z1 : k = i + 1
      · rw [if_pos z1, if_neg (by omega), z1]
      · rw [if_neg z1]
        by_cases z2 : k = i
        · rw [if_pos z2, z2]
          by_cases z3 : i = 0
          · rw [if_pos z3, z3]
            exact h0 (by omega)
          · rw [if_neg z3]
        · rw [if_neg z2]
          exact q2 k (by omega)
    · show upd (b1 4) i (b1 31 i) k = _
      rw [q1 31 (by decide), upd_at]
      by_cases z2 : k = i
      · rw [if_pos z2, z2]
      · rw [if_neg z2]
        exact q3 k (by omega)
set_option maxRecDepth 100000 in
theorem y_cp2 {d : Nat} {s : Nat → Int32} {a : Nat → Nat → Int32} {w : Bool} {t : Nat → Int32} {b : Nat → Nat → Int32} {u : Nat → Int64} {c : Nat → Nat → Int64} {I : Nat} {Q : zQ} {X0 : zX} (hX0 : ∀ pc L S h, zstep kX9_rules (zG (d + 6)) Q X0 pc L S h → X0 pc L S h) (hI : t 25 = nI I) (hI20 : I ≤ 60) (hbo : ∀ j, j < I → (b 33 j = 0 ∨ b 33 j = 1) ∧ (b 35 j = 0 ∨ b 35 j = 1))
  (hx : ∀ (b' : Nat → Nat → Int32), zSm [5, 6, 7, 8] b b' → (∀ k, k < I → b' 5 k = b 32 k ∧ b' 6 k = b 33 k ∧ b' 7 k = b 34 k ∧ b' 8 k = b 35 k) → X0 285 [some (.ref 56), some (.int (nI I))] [] (HX s a w ++ HM t b' u c)) :
  ∀ (m i : Nat) (b1 : Nat → Nat → Int32), I - i = m → i ≤ I → zSm [5, 6, 7, 8] b b1 → (∀ k, k < i → b1 5 k = b 32 k ∧ b1 6 k = b 33 k ∧ b1 7 k = b 34 k ∧ b1 8 k = b 35 k) → X0 223 [some (.ref 56), some (.int (nI i))] [] (HX s a w ++ HM t b1 u c) := by
  have gt : ∀ (i : Nat) (b1 : Nat → Nat → Int32), (i < I → X0 231 [some (.ref 56), some (.int (nI i))] [] (HX s a w ++ HM t b1 u c)) → (I ≤ i → X0 285 [some (.ref 56), some (.int (nI i))] [] (HX s a w ++ HM t b1 u c)) → i ≤ I → X0 223 [some (.ref 56), some (.int (nI i))] [] (HX s a w ++ HM t b1 u c) := by
    intro i b1 g1 g2 hi
    iterate 4 refine hX0 _ _ _ _ ?_
    rw [hI]
    refine And.intro (fun c1 => ?_) (fun c1 => ?_)
    · rw [nI_leI (by omega) (by omega)] at c1
      exact g2 c1
    · rw [nI_leI (by omega) (by omega)] at c1
      exact g1 (by omega)
  intro m
  induction m with
  | zero =>
    intro i b1 hm hi q1 q2
    have e : i = I := by omega
    subst e
    exact gt i b1 (fun z => absurd z (Nat.lt_irrefl _)) (fun _ => hx b1 q1 q2) hi
  | succ m ih =>
    intro i b1 hm hi q1 q2
    refine gt i b1 (fun hi2 => ?_) (fun z => by omega) hi
    have hci : (nI i).toNatClampNeg = i := nI_clamp (by omega)
    have hb33 : b1 33 i = 0 ∨ b1 33 i = 1 := by rw [q1 33 (by decide)]; exact (hbo i hi2).1
    have hb35 : b1 35 i = 0 ∨ b1 35 i = 1 := by rw [q1 35 (by decide)]; exact (hbo i hi2).2
    iterate 7 refine hX0 _ _ _ _ ?_
    refine And.intro (by exact vp_in_nI (by omega) (by omega)) ?_
    refine hX0 _ _ _ _ ?_
    refine And.intro (by exact vp_in_nI (by omega) (by omega)) ?_
    refine zcast (X := X0) yb_5 ?_
    rw [hci]
    iterate 7 refine hX0 _ _ _ _ ?_
    refine And.intro (by exact vp_in_nI (by omega) (by omega)) ?_
    refine hX0 _ _ _ _ ?_
    refine And.intro (by exact vp_in_nI (by omega) (by omega)) ?_
    refine zcast (X := X0) yb_6 ?_
    rw [hci, if_pos rfl, nar_b]
    rotate_left
    · exact hb33
    iterate 7 refine hX0 _ _ _ _ ?_
    refine And.intro (by exact vp_in_nI (by omega) (by omega)) ?_
    refine hX0 _ _ _ _ ?_
    refine And.intro (by exact vp_in_nI (by omega) (by omega)) ?_
    refine zcast (X := X0) yb_7 ?_
    rw [hci]
    iterate 7 refine hX0 _ _ _ _ ?_
    refine And.intro (by exact vp_in_nI (by omega) (by omega)) ?_
    refine hX0 _ _ _ _ ?_
    refine And.intro (by exact vp_in_nI (by omega) (by omega)) ?_
    refine zcast (X := X0) yb_8 ?_
    rw [hci, if_pos rfl, nar_b]
    rotate_left
    · exact hb35
    iterate 2 refine hX0 _ _ _ _ ?_
    rw [nI_1]
    refine ih (i + 1) _ (by omega) (by omega) (by repeat (first | exact q1 | refine zSm_up (by decide) ?_)) (fun k hk => ?_)
    show upd (b1 5) i (b1 32 i) k = _ ∧ upd (b1 6) i (b1 33 i) k = _ ∧ upd (b1 7) i (b1 34 i) k = _ ∧ upd (b1 8) i (b1 35 i) k = _
    rw [q1 32 (by decide), q1 33 (by decide), q1 34 (by decide), q1 35 (by decide), upd_at, upd_at, upd_at, upd_at]
    by_cases z2 : k = i
    · rw [if_pos z2, if_pos z2, if_pos z2, if_pos z2, z2]
      exact ⟨rfl, rfl, rfl, rfl⟩
    · rw [if_neg z2, if_neg z2, if_neg z2, if_neg z2]
      exact q2 k (by omega)

theorem zGd_at {S : zS} (g : zGd S) {nf nr nw nl nv no : Nat → Int32} {ru re bo ifs te : Int32} (h : zBm ru re bo ifs te nf nr nw nl nv no S) : ∀ j, j < S.2.2.2.1.length → (nl j = 0 ∨ nl j = 1) ∧ (no j = 0 ∨ no j = 1) := by
  intro j hj
  obtain ⟨x, hx⟩ : ∃ x, S.2.2.2.1[j]? = some x := ⟨_, List.getElem?_eq_getElem hj⟩
  have h6 := h.2.2.2.2.2.1 j x hx
  have g5 := g.2.2.2.2.1 x (List.mem_of_getElem? hx)
  rw [h6.2.1, h6.2.2.2]
  refine ⟨?_, g5.2.2.2⟩
  unfold zless
  split
  · exact Or.inr rfl
  · exact Or.inl rfl
set_option maxRecDepth 100000 in
theorem y_rules {d : Nat} {s : Nat → Int32} {a : Nat → Nat → Int32} {w : Bool} {t : Nat → Int32} {b : Nat → Nat → Int32} {u : Nat → Int64} {c : Nat → Nat → Int64} {f : Nat → Int32} {n N : Nat} {st en : Nat → Nat} {tk pl : Nat → Int32} {ok : Bool} {k' : Nat} {S' : zS} {Q : zQ} (ht : zTp f (b 29)) (hn : t 15 = nI n) (hn4 : n ≤ 400) (hs : zSpl f (b 29) n N st en tk pl) (hrd : zRd (zTt tk N) ok k' S')
  (h0 : ok = false → ∀ (t' : Nat → Int32) (u' : Nat → Int64) (b' : Nat → Nat → Int32), zSm [0, 1, 15, 16, 17, 18, 19, 20, 21, 22, 23, 24, 25] t t' → zSm [1] u u' → zSm [30, 31, 32, 33, 34, 35] b b' → t' 19 = nI (if k' < N then st k' else n) → t' 15 = 0 → t' 1 = zcode (-6) → Q (some (.int (-6))) (HX s a w ++ HM t' b' u' c))
  (h1 : ok = true → ∀ (t' : Nat → Int32) (u' : Nat → Int64) (b' : Nat → Nat → Int32), zSm [0, 1, 3, 4, 5, 6, 15, 16, 17, 18, 19, 20, 21, 22, 23, 24, 25] t t' → zSm [1] u u' → zSm [3, 4, 5, 6, 7, 8, 30, 31, 32, 33, 34, 35] b b' → t' 19 = -1 → t' 15 = 0 → t' 1 = zcode (nI S'.1) → zBm (t' 3) (t' 4) (t' 5) (t' 6) (nI S'.2.2.2.1.length) (b' 3) (b' 4) (b' 5) (b' 6) (b' 7) (b' 8) S' → b' 3 0 = 0 → Q (some (.int (nI S'.1))) (HX s a w ++ HM t' b' u' c)) : zG (d + 7) 145 [.ref 56] (HX s a w ++ HM t b u c) Q := by
  refine g_145 (Nat.le_of_ble_eq_true rfl) ?_
  intro X0 hX0
  have bad : ok = false → ∀ (t1 : Nat → Int32) (u1 : Nat → Int64) (b1 : Nat → Nat → Int32), zSm [0, 1, 15, 16, 17, 18, 19, 20, 21, 22, 23, 24, 25] t t1 → zSm [1] u u1 → zSm [30, 31, 32, 33, 34, 35] b b1 → t1 20 = 1 → t1 19 = nI (if k' < N then st k' else n) → X0 107 [some (.ref 56), none] [] (HX s a w ++ HM t1 b1 u1 c) := by
    intro e t1 u1 b1 q1 q2 q3 q4 q5
    iterate 3 refine hX0 _ _ _ _ ?_
    refine zcast (X := X0) yt_15 ?_
    iterate 3 refine hX0 _ _ _ _ ?_
    refine And.intro (fun c => absurd ((show t1 20 = 0 from c).symm.trans q4) (by decide)) (fun _ => ?_)
    iterate 3 refine hX0 _ _ _ _ ?_
    refine r_told (d := d + 5) ?_
    refine hX0 _ _ _ _ ?_
    exact h0 e _ u1 b1 (zSm_up (by decide) (zSm_up (by decide) q1)) q2 q3 q5 rfl rfl
  have fine : ok = true → zGd S' → S'.1 ≤ 20 → ∀ (t1 : Nat → Int32) (u1 : Nat → Int64) (b1 : Nat → Nat → Int32), zSm [0, 1, 15, 16, 17, 18, 19, 20, 21, 22, 23, 24, 25] t t1 → zSm [1] u u1 → zSm [30, 31, 32, 33, 34, 35] b b1 → t1 20 = 0 → t1 19 = -1 → zBm (t1 21) (t1 22) (t1 23) (t1 24) (t1 25) (b1 30) (b1 31) (b1 32) (b1 33) (b1 34) (b1 35) S' → X0 107 [some (.ref 56), none] [] (HX s a w ++ HM t1 b1 u1 c) := by
    intro e g g20 t1 u1 b1 q1 q2 q3 q4 q5 q6
    have g2 := g.2.1
    iterate 3 refine hX0 _ _ _ _ ?_
    refine zcast (X := X0) yt_15 ?_
    iterate 3 refine hX0 _ _ _ _ ?_
    refine And.intro (fun _ => ?_) (fun c => absurd q4 c)
    iterate 4 refine hX0 _ _ _ _ ?_
    refine zcast (X := X0) yt_3 ?_
    iterate 4 refine hX0 _ _ _ _ ?_
    refine zcast (X := X0) yt_4 ?_
    iterate 4 refine hX0 _ _ _ _ ?_
    refine zcast (X := X0) yt_5 ?_
    iterate 4 refine hX0 _ _ _ _ ?_
    refine zcast (X := X0) yt_6 ?_
    obtain ⟨t2, ht2⟩ : ∃ z, z = va_up (va_up (va_up (va_up (va_up t1 15 0) 3 (t1 21)) 4 (t1 22)) 5 (t1 23)) 6 (t1 24) := ⟨_, rfl⟩
    refine zcast (X := X0) (h' := HX s a w ++ HM t2 b1 u1 c) (by rw [ht2]; rfl) ?_
    have c24 : t2 24 = nI S'.2.2.2.2.length := by rw [ht2]; exact q6.2.2.2.1
    have c25 : t2 25 = nI S'.2.2.2.1.length := by rw [ht2]; exact q6.2.2.2.2.1
    have c3 : t2 3 = nI S'.1 := by rw [ht2]; exact q6.1
    have s2 : zSm [0, 1, 3, 4, 5, 6, 15, 16, 17, 18, 19, 20, 21, 22, 23, 24, 25] t t2 := by
      rw [ht2]
      exact zSm_up (by decide) (zSm_up (by decide) (zSm_up (by decide) (zSm_up (by decide) (zSm_up (by decide) (zSm_more q1 (by decide))))))
    iterate 5 refine hX0 _ _ _ _ ?_
    refine And.intro (by exact vp_in_nI (show (0 : Nat) < 21 by omega) (by omega)) ?_
    refine zcast (X := X0) yb_3 ?_
    iterate 2 refine hX0 _ _ _ _ ?_
    show X0 167 [some (.ref 56), some (.int (nI 0))] [] _
    refine y_cp1 hX0 (b := b1) c24 (by omega) (fun z => q6.2.2.2.2.2.2.2 z) (fun b2 p1 p2 p3 => ?_) S'.2.2.2.2.length 0 _ rfl (Nat.zero_le _) (zSm_up (by decide) zSm_refl) (fun k hk => ?_) (fun k hk => by omega)
    · iterate 2 refine hX0 _ _ _ _ ?_
      show X0 223 [some (.ref 56), some (.int (nI 0))] [] _
      refine y_cp2 hX0 (b := b2) c25 (by omega) (fun j hj => ?_) (fun b3 r1 r2 => ?_) S'.2.2.2.1.length 0 _ rfl (Nat.zero_le _) zSm_refl (fun k hk => by omega)
      · rw [p1 33 (by decide), p1 35 (by decide)]
        exact zGd_at g q6 j hj
      · iterate 4 refine hX0 _ _ _ _ ?_
        rw [c3]
        refine r_told (d := d + 5) ?_
        refine hX0 _ _ _ _ ?_
        refine h1 e _ u1 b3 (zSm_up (by decide) s2) q2 (zSm_trans (zSm_more q3 (by decide)) (zSm_trans (zSm_more p1 (by decide)) (zSm_more r1 (by decide)))) (by rw [ht2]; exact q5) (by rw [ht2]; rfl) rfl ?_ (by rw [r1 3 (by decide), p2 0 (Nat.zero_le _)]; rfl)
        obtain ⟨f1, f2, f3, f4, f5, f6, f7, f8⟩ := q6
        refine ⟨by rw [ht2]; exact f1, by rw [ht2]; exact f2, by rw [ht2]; exact f3, by rw [ht2]; exact f4, rfl, fun j x hx => ?_, fun j y hy => ?_, fun _ => by rw [r1 3 (by decide), p2 0 (Nat.zero_le _)]; rfl⟩
        · have hj : j < S'.2.2.2.1.length := (List.getElem?_eq_some_iff.mp hx).1
          have r := r2 j hj
          rw [r.1, r.2.1, r.2.2.1, r.2.2.2, p1 32 (by decide), p1 33 (by decide), p1 34 (by decide), p1 35 (by decide)]
          exact f6 j x hx
        · have hj : j < S'.2.2.2.2.length := (List.getElem?_eq_some_iff.mp hy).1
          rw [r1 3 (by decide), r1 4 (by decide), p2 (j + 1) (by omega), p3 j hj, if_neg (by omega)]
          exact f7 j y hy
    · have z : k = 0 := by omega
      subst z
      rfl
  iterate 3 refine hX0 _ _ _ _ ?_
  refine zcast (X := X0) yt_0 ?_
  iterate 3 refine hX0 _ _ _ _ ?_
  refine zcast (X := X0) yt_17 ?_
  iterate 3 refine hX0 _ _ _ _ ?_
  refine And.intro (Or.inl rfl) ?_
  refine zcast (X := X0) yt_20 ?_
  iterate 3 refine hX0 _ _ _ _ ?_
  refine zcast (X := X0) yt_19 ?_
  iterate 3 refine hX0 _ _ _ _ ?_
  refine zcast (X := X0) yt_21 ?_
  iterate 3 refine hX0 _ _ _ _ ?_
  refine zcast (X := X0) yt_22 ?_
  iterate 3 refine hX0 _ _ _ _ ?_
  refine zcast (X := X0) yt_23 ?_
  iterate 3 refine hX0 _ _ _ _ ?_
  refine zcast (X := X0) yt_24 ?_
  iterate 3 refine hX0 _ _ _ _ ?_
  refine zcast (X := X0) yt_25 ?_
  obtain ⟨t0, ht0⟩ : ∃ z, z = va_up (va_up (va_up (va_up (va_up (va_up (va_up (va_up (va_up t 0 0) 17 0) 20 0) 19 (-1)) 21 0) 22 0) 23 (-90)) 24 0) 25 0 := ⟨_, rfl⟩
  refine zcast (X := X0) (h' := HX s a w ++ HM t0 b u c) (by rw [ht0]) ?_
  have s0 : zSm [0, 1, 15, 16, 17, 18, 19, 20, 21, 22, 23, 24, 25] t t0 := by
    rw [ht0]
    repeat (first | exact zSm_refl | refine zSm_up (by decide) ?_)
  have d15 : t0 15 = nI n := by rw [ht0]; exact hn
  have d20 : t0 20 = 0 := by rw [ht0]; rfl
  have d19 : t0 19 = -1 := by rw [ht0]; rfl
  have dB : zBm (t0 21) (t0 22) (t0 23) (t0 24) (t0 25) (b 30) (b 31) (b 32) (b 33) (b 34) (b 35) zS0 := by
    rw [ht0]
    exact ⟨rfl, rfl, rfl, rfl, rfl, fun j x hx => (by cases hx), fun j x hx => (by cases hx), fun z => absurd z (by decide)⟩
  iterate 2 refine hX0 _ _ _ _ ?_
  refine y_nx (d := d + 4) (k := 0) (f := f) ht d15 hn4 hs (Nat.zero_le _) (by rw [ht0]; rfl) (fun t1 u1 r1 r2 r3 => ?_)
  have d20' : t1 20 = 0 := by rw [r1 20 (by decide)]; exact d20
  have d19' : t1 19 = -1 := by rw [r1 19 (by decide)]; exact d19
  have dB' : zBm (t1 21) (t1 22) (t1 23) (t1 24) (t1 25) (b 30) (b 31) (b 32) (b 33) (b 34) (b 35) zS0 := by
    rw [r1 21 (by decide), r1 22 (by decide), r1 23 (by decide), r1 24 (by decide), r1 25 (by decide)]
    exact dB
  have e0 := r3.2.2.1
  have s1 : zSm [0, 1, 15, 16, 17, 18, 19, 20, 21, 22, 23, 24, 25] t t1 := zSm_trans s0 (zSm_more r1 (by decide))
  iterate 3 refine hX0 _ _ _ _ ?_
  rcases hrd with ⟨z1, z2, z3, z4⟩ | ⟨z1, z2⟩
  · rw [e0.mpr z1]
    refine And.intro (fun _ => ?_) (fun c => absurd rfl c)
    subst z4
    exact fine z2 zGd_0 (by decide) t1 u1 b s1 r2 zSm_refl d20' d19' dB'
  · refine And.intro (fun c => absurd (e0.mp c) z1) (fun _ => ?_)
    iterate 2 refine hX0 _ _ _ _ ?_
    refine y_rll (d := d) (f := f) (k := 0) (t := t1) (b := b) (u := u1) (S' := S') hX0 ht (by rw [r1 15 (by decide)]; exact d15) hn4 hs (fun e t2 u2 b2 q1 q2 q3 q4 q5 => ?_) (fun e t2 u2 b2 q1 q2 q3 q4 q5 => ?_) d20' 20 0 zS0 t1 u1 b _ z2 rfl zGd_0 zSm_refl zSm_refl zSm_refl r3 (Nat.zero_le _) dB' (fun h hx => hx)
    · exact bad e t2 u2 b2 (zSm_trans s1 (zSm_more q1 (by decide))) (zSm_trans r2 q2) q3 q4 q5
    · have g := zGd_l 20 0 zS0 k' S' (by rw [← e]; exact z2) zGd_0 rfl
      exact fine e g.1 g.2 t2 u2 b2 (zSm_trans s1 (zSm_more q1 (by decide))) (zSm_trans r2 q2) q3 q4 (by rw [q1 19 (by decide)]; exact d19') q5
