/-! THE LAW OF rules -/

theorem book_of {S : zS} {ru te ifs re bo : Int32} {ts ta tn tf ie ir : Nat → Int32} {ru' re' bo' ifs' te' : Int32} {iF iR tW tL tV tO : Nat → Int32} (h : zBk ru te ifs re bo ts ta tn tf ie ir S) (g : zBm ru' re' bo' ifs' te' iF iR tW tL tV tO S) (g0 : iF 0 = 0) (k : zGd S) (k20 : S.1 ≤ 20) : IBook ru te ifs re bo ts ta tn tf ie ir ru' re' bo' ifs' iF iR tW tL tV tO := by
  obtain ⟨h1, h2, h3, h4, h5, h6, h7⟩ := h
  obtain ⟨g1, g2, g3, g4, -, g6, g7, -⟩ := g
  obtain ⟨k1, k2, k3, k4, k5, k6, k7⟩ := k
  obtain ⟨R, r, bd, TL, IL⟩ := S
  simp only at h1 h2 h3 h4 h5 h6 h7 g1 g2 g3 g4 g6 g7 k1 k2 k3 k4 k5 k6 k7 k20
  have at1 : ∀ j, j < IL.length → ∃ y, IL[j]? = some y := fun j hj => ⟨_, List.getElem?_eq_getElem hj⟩
  have eR : ru.toInt = (R : Int) := by rw [h1]; exact nI_toInt (by omega)
  obtain ⟨F, hF0, hF⟩ : ∃ F : Nat → Nat, F 0 = 0 ∧ ∀ j y, IL[j]? = some y → F (j + 1) = y.1 := ⟨fun j => if j = 0 then 0 else ((IL[j - 1]?).getD (0, 0)).1, rfl, fun j y hy => by show (if j + 1 = 0 then 0 else ((IL[j + 1 - 1]?).getD (0, 0)).1) = _; rw [if_neg (by omega), Nat.add_sub_cancel, hy]; rfl⟩
  have hle : ∀ j, j ≤ IL.length → F j ≤ TL.length := by
    intro j hj
    rcases j with _ | j
    · rw [hF0]; exact Nat.zero_le _
    · obtain ⟨y, hy⟩ := at1 j (by omega)
      rw [hF j y hy]
      exact (k6 j y hy).1
  refine ⟨⟨by rw [h1, g1], by rw [h4, g2], by rw [h5, g3], by rw [h3, g4]⟩, by rw [h4]; exact k3, by rw [h5]; exact k4, ⟨by omega, by omega⟩, IL.length, F, by omega, h3, hF0, fun j hj => ⟨?_, ?_⟩, fun j hj => ?_, fun j hj => ?_⟩
  · rcases j with _ | j
    · rw [hF0, g0]
      rfl
    · obtain ⟨y, hy⟩ := at1 j (by omega)
      rw [hF j y hy]
      exact (g7 j y hy).1
  · have := hle j hj
    omega
  · obtain ⟨y, hy⟩ := at1 j hj
    have a1 := h7 j y hy
    have a2 := g7 j y hy
    have a3 := k6 j y hy
    refine ⟨?_, by rw [a1.1, hF j y hy], by rw [a1.2, a2.2], by rw [a1.2]; exact a3.2.1, by rw [a1.2]; exact a3.2.2⟩
    rcases j with _ | j
    · rw [hF0]; exact Nat.zero_le _
    · obtain ⟨z, hz⟩ := at1 j (by omega)
      rw [hF j z hz, hF (j + 1) y hy]
      exact k7 j z y hz hy
  · have hj2 := hle IL.length (Nat.le_refl _)
    obtain ⟨x, hx⟩ : ∃ x, TL[j]? = some x := ⟨_, List.getElem?_eq_getElem (by omega)⟩
    have a1 := h6 j x hx
    have a2 := g6 j x hx
    obtain ⟨b1, b2, b3, b4⟩ := k5 x (List.mem_of_getElem? hx)
    rw [a1.1, a1.2.1, a1.2.2.1, a1.2.2.2, a2.1, a2.2.1, a2.2.2.1, a2.2.2.2]
    refine ⟨?_, ?_, rfl, b3, rfl, b4⟩
    · rcases b1 with z | z | z
      · rw [z]; exact Or.inl ⟨rfl, rfl⟩
      · rw [z]; exact Or.inr (Or.inl ⟨rfl, rfl⟩)
      · rw [z]; exact Or.inr (Or.inr ⟨rfl, rfl⟩)
    · rcases b2 with z | z
      · rw [z]; exact Or.inl ⟨rfl, rfl⟩
      · rw [z]; exact Or.inr ⟨rfl, rfl⟩

set_option maxRecDepth 100000 in
theorem x_rulesA {d : Nat} {s : Nat → Int32} {a : Nat → Nat → Int32} {Z : zH} {g : Nat → Int32} {n : Nat} {Q : zQ} (htp : zTp (a 23) g) (hn : s 13 = nI n) (hn4 : n ≤ 400)
  (hf : ∀ (N : Nat) (st en : Nat → Nat) (k' : Nat) (S' : zS) (s' : Nat → Int32) (a' : Nat → Nat → Int32), zSpl (a 23) g n N st en (a' 24) (a' 25) → zRd (zTt (a' 24) N) false k' S' → zSm [1, 2, 13, 14, 15, 16, 23, 24, 25, 26, 27] s s' → zSm [24, 25, 34, 35, 36, 37, 38, 39] a a' → s' 1 = nI (if k' < N then st k' else n) → s' 13 = 0 → s' 2 = zcode (-6) → Q (some (.int (-6))) (HX s' a' true ++ Z))
  (ht : ∀ (N : Nat) (st en : Nat → Nat) (k' : Nat) (S' : zS) (s' : Nat → Int32) (a' : Nat → Nat → Int32), zSpl (a 23) g n N st en (a' 24) (a' 25) → zRd (zTt (a' 24) N) true k' S' → zSm [1, 2, 13, 14, 15, 16, 23, 24, 25, 26, 27] s s' → zSm [24, 25, 34, 35, 36, 37, 38, 39] a a' → s' 1 = -1 → s' 13 = 0 → s' 2 = zcode (nI S'.1) → zBk (s' 23) (s' 24) (s' 25) (s' 26) (s' 27) (a' 34) (a' 35) (a' 36) (a' 37) (a' 38) (a' 39) S' → Q (some (.int (nI S'.1))) (HX s' a' false ++ Z)) : zG (d + 7) 94 [.ref 0] (HX s a true ++ Z) Q := by
  refine g_94 (Nat.le_of_ble_eq_true rfl) ?_
  intro X0 hX0
  iterate 7 refine hX0 _ _ _ _ ?_
  refine x_readA (d := d) (g := g) htp hn hn4 (fun N st en k' S' s' a' q1 q2 q3 q4 q5 q6 q7 q8 => ?_) (fun N st en k' S' s' a' q1 q2 q3 q4 q5 => ?_)
  · have hN := q1.1
    iterate 5 refine hX0 _ _ _ _ ?_
    refine zcast (X := X0) xs_13 ?_
    iterate 2 refine hX0 _ _ _ _ ?_
    refine And.intro (fun c => absurd rfl c) (fun _ => ?_)
    iterate 4 refine hX0 _ _ _ _ ?_
    refine x_place2 (d := d + 5) (N := N) (k := k') (by exact q6) (by omega) (by exact q8) (by omega) ?_
    refine hX0 _ _ _ _ ?_
    refine zcast (X := X0) xs_1 ?_
    iterate 3 refine hX0 _ _ _ _ ?_
    refine r_answered (d := d + 5) ?_
    refine hX0 _ _ _ _ ?_
    refine hf N st en k' S' _ a' q1 q2 (zSm_up (by decide) (zSm_up (by decide) (zSm_up (by decide) (zSm_more q4 (by decide))))) q5 ?_ rfl rfl
    show (if k' < N then a' 25 k' else s' 15) = _
    by_cases c : k' < N
    · rw [if_pos c, if_pos c]
      exact (q1.2.2.2.2 k' c).1
    · rw [if_neg c, if_neg c]
      exact q7
  · iterate 5 refine hX0 _ _ _ _ ?_
    refine zcast (X := X0) xs_13 ?_
    iterate 2 refine hX0 _ _ _ _ ?_
    refine And.intro (fun _ => ?_) (fun c => absurd c (by decide))
    obtain ⟨s2, hs2⟩ : ∃ z, z = va_up s' 13 0 := ⟨_, rfl⟩
    rw [← hs2]
    have e23 : s2 23 = nI S'.1 := by rw [hs2]; exact q5.1
    iterate 7 refine hX0 _ _ _ _ ?_
    iterate 3 refine hX0 _ _ _ _ ?_
    refine zcast (X := X0) (h' := HX s2 a' false ++ Z) rfl ?_
    iterate 3 refine hX0 _ _ _ _ ?_
    refine zcast (X := X0) xs_1 ?_
    iterate 5 refine hX0 _ _ _ _ ?_
    refine r_answered (d := d + 5) ?_
    refine hX0 _ _ _ _ ?_
    have e23' : va_up s2 1 (-1) 23 = nI S'.1 := e23
    rw [e23']
    refine ht N st en k' S' _ a' q1 q2 (zSm_up (by decide) (zSm_up (by decide) ?_)) q4 rfl (by rw [hs2]; rfl) rfl (by rw [hs2]; exact q5)
    rw [hs2]
    exact zSm_up (by decide) (zSm_more q3 (by decide))

set_option maxRecDepth 100000 in
theorem x_rulesB {d : Nat} {s : Nat → Int32} {a : Nat → Nat → Int32} {Z : zH} {g : Nat → Int32} {n : Nat} {Q : zQ} (htp : zTp (a 23) g) (hn : s 13 = nI n) (hn4 : n ≤ 400)
  (hf : ∀ (N : Nat) (st en : Nat → Nat) (k' : Nat) (S' : zS) (s' : Nat → Int32) (a' : Nat → Nat → Int32), zSpl (a 23) g n N st en (a' 24) (a' 25) → zRd (zTt (a' 24) N) false k' S' → zSm [1, 2, 13, 14, 15, 16, 28, 29, 30, 31, 32] s s' → zSm [24, 25, 40, 41, 42, 43, 44, 45] a a' → s' 1 = nI (if k' < N then st k' else n) → s' 13 = 0 → s' 2 = zcode (-6) → Q (some (.int (-6))) (HX s' a' false ++ Z))
  (ht : ∀ (N : Nat) (st en : Nat → Nat) (k' : Nat) (S' : zS) (s' : Nat → Int32) (a' : Nat → Nat → Int32), zSpl (a 23) g n N st en (a' 24) (a' 25) → zRd (zTt (a' 24) N) true k' S' → zSm [1, 2, 13, 14, 15, 16, 28, 29, 30, 31, 32] s s' → zSm [24, 25, 40, 41, 42, 43, 44, 45] a a' → s' 1 = -1 → s' 13 = 0 → s' 2 = zcode (nI S'.1) → zBk (s' 28) (s' 29) (s' 30) (s' 31) (s' 32) (a' 40) (a' 41) (a' 42) (a' 43) (a' 44) (a' 45) S' → Q (some (.int (nI S'.1))) (HX s' a' true ++ Z)) : zG (d + 7) 94 [.ref 0] (HX s a false ++ Z) Q := by
  refine g_94 (Nat.le_of_ble_eq_true rfl) ?_
  intro X0 hX0
  iterate 7 refine hX0 _ _ _ _ ?_
  refine x_readB (d := d) (g := g) htp hn hn4 (fun N st en k' S' s' a' q1 q2 q3 q4 q5 q6 q7 q8 => ?_) (fun N st en k' S' s' a' q1 q2 q3 q4 q5 => ?_)
  · have hN := q1.1
    iterate 5 refine hX0 _ _ _ _ ?_
    refine zcast (X := X0) xs_13 ?_
    iterate 2 refine hX0 _ _ _ _ ?_
    refine And.intro (fun c => absurd rfl c) (fun _ => ?_)
    iterate 4 refine hX0 _ _ _ _ ?_
    refine x_place2 (d := d + 5) (N := N) (k := k') (by exact q6) (by omega) (by exact q8) (by omega) ?_
    refine hX0 _ _ _ _ ?_
    refine zcast (X := X0) xs_1 ?_
    iterate 3 refine hX0 _ _ _ _ ?_
    refine r_answered (d := d + 5) ?_
    refine hX0 _ _ _ _ ?_
    refine hf N st en k' S' _ a' q1 q2 (zSm_up (by decide) (zSm_up (by decide) (zSm_up (by decide) (zSm_more q4 (by decide))))) q5 ?_ rfl rfl
    show (if k' < N then a' 25 k' else s' 15) = _
    by_cases c : k' < N
    · rw [if_pos c, if_pos c]
      exact (q1.2.2.2.2 k' c).1
    · rw [if_neg c, if_neg c]
      exact q7
  · iterate 5 refine hX0 _ _ _ _ ?_
    refine zcast (X := X0) xs_13 ?_
    iterate 2 refine hX0 _ _ _ _ ?_
    refine And.intro (fun _ => ?_) (fun c => absurd c (by decide))
    obtain ⟨s2, hs2⟩ : ∃ z, z = va_up s' 13 0 := ⟨_, rfl⟩
    rw [← hs2]
    have e23 : s2 28 = nI S'.1 := by rw [hs2]; exact q5.1
    iterate 7 refine hX0 _ _ _ _ ?_
    iterate 3 refine hX0 _ _ _ _ ?_
    refine zcast (X := X0) (h' := HX s2 a' true ++ Z) rfl ?_
    iterate 3 refine hX0 _ _ _ _ ?_
    refine zcast (X := X0) xs_1 ?_
    iterate 5 refine hX0 _ _ _ _ ?_
    refine r_answered (d := d + 5) ?_
    refine hX0 _ _ _ _ ?_
    have e23' : va_up s2 1 (-1) 28 = nI S'.1 := e23
    rw [e23']
    refine ht N st en k' S' _ a' q1 q2 (zSm_up (by decide) (zSm_up (by decide) ?_)) q4 rfl (by rw [hs2]; rfl) rfl (by rw [hs2]; exact q5)
    rw [hs2]
    exact zSm_up (by decide) (zSm_more q3 (by decide))
