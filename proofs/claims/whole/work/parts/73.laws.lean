/-! THE LAW OF rules -/

set_option maxRecDepth 100000 in
theorem L_rules : zLaw 94 145 [] := by
  intro s a w t b u c hI
  obtain ⟨i1, i2, i3, i4, i5, i6, i7, i8, i9, i10⟩ := hI
  obtain ⟨j1, j2, j3, j4⟩ := i7
  have hnc := cl_int (s 13) j2
  have hn := nI_cl (s 13) j2
  generalize (s 13).toNatClampNeg = n at *
  have hn4 : n ≤ 400 := by omega
  have hnt : t 15 = nI n := by rw [← j1]; exact hn
  have htp : zTp (a 23) (b 29) := j4
  cases w with
  | false =>
    refine x_rulesB (d := 5) (g := b 29) (n := n) htp hn hn4 (fun N st en k' S' s' a' q1 q2 q3 q4 q5 q6 q7 => ?_) (fun N st en k' S' s' a' q1 q2 q3 q4 q5 q6 q7 q8 => ?_)
    · refine y_rules (d := 5) (f := a 23) (n := n) (N := N) (st := st) (en := en) (k' := k') (S' := S') (ok := false) htp hnt hn4 q1 q2 (fun _ t' u' b' r1 r2 r3 r4 r5 r6 => ?_) (fun z => by cases z)
      have S : ∀ i, i ∉ [1, 2, 13, 14, 15, 16, 28, 29, 30, 31, 32] → s' i = s i := q3
      have A : ∀ i, i ∉ [24, 25, 40, 41, 42, 43, 44, 45] → a' i = a i := q4
      have T : ∀ i, i ∉ [0, 1, 15, 16, 17, 18, 19, 20, 21, 22, 23, 24, 25] → t' i = t i := r1
      have U : ∀ i, i ∉ [1] → u' i = u i := r2
      have B : ∀ i, i ∉ [30, 31, 32, 33, 34, 35] → b' i = b i := r3
      refine ⟨_, rfl, rfl, _, _, _, _, _, _, _, rfl, ⟨?_, ?_, ?_, ?_, ?_, ?_, ?_, ?_, ?_, ?_⟩⟩
      · show IStat (s' 0) (s' 1) (s' 2) (t' 2) (t' 19) (t' 1)
        rw [S 0 (by decide), T 2 (by decide), q5, q7, r4, r6]
        exact ⟨i1.1, rfl, rfl, i1.2.2.2⟩
      · show ISky (a' 0) (b' 0) (b' 1) (b' 2)
        rw [A 0 (by decide), B 0 (by decide), B 1 (by decide), B 2 (by decide)]
        exact i2
      · show IPow (s' 6) (t' 7) (s' 5) (t' 8) (a' 4) (b' 12) (a' 5) (b' 13) (a' 1) (a' 2) (a' 3) (b' 9) (b' 10) (b' 11)
        rw [S 6 (by decide), T 7 (by decide), S 5 (by decide), T 8 (by decide), A 4 (by decide), B 12 (by decide), A 5 (by decide), B 13 (by decide), A 1 (by decide), A 2 (by decide), A 3 (by decide), B 9 (by decide), B 10 (by decide), B 11 (by decide)]
        exact i3
      · show IPlan (s' 3) (s' 4) (a' 9) (a' 10) (t' 9) (u' 0) (b' 14) (b' 15)
        rw [S 3 (by decide), S 4 (by decide), A 9 (by decide), A 10 (by decide), T 9 (by decide), U 0 (by decide), B 14 (by decide), B 15 (by decide)]
        exact i4
      · show IStore (s' 7) (s' 8) (t' 10) (a' 11) (a' 12) (b' 17) (b' 18)
        rw [S 7 (by decide), S 8 (by decide), T 10 (by decide), A 11 (by decide), A 12 (by decide), B 17 (by decide), B 18 (by decide)]
        exact i5
      · show ICrew (s' 9) (s' 10) (s' 11) (s' 12) (t' 11) (t' 12) (t' 13) (t' 14) (a' 13) (a' 14) (a' 15) (a' 16) (a' 17) (a' 18) (a' 19) (a' 20) (a' 21) (a' 22) (b' 19) (b' 20) (b' 21) (b' 22) (b' 23) (b' 24) (b' 25) (b' 26) (b' 27) (b' 28)
        rw [S 9 (by decide), S 10 (by decide), S 11 (by decide), S 12 (by decide), T 11 (by decide), T 12 (by decide), T 13 (by decide), T 14 (by decide), A 13 (by decide), A 14 (by decide), A 15 (by decide), A 16 (by decide), A 17 (by decide), A 18 (by decide), A 19 (by decide), A 20 (by decide), A 21 (by decide), A 22 (by decide), B 19 (by decide), B 20 (by decide), B 21 (by decide), B 22 (by decide), B 23 (by decide), B 24 (by decide), B 25 (by decide), B 26 (by decide), B 27 (by decide), B 28 (by decide)]
        exact i6
      · show ITape (s' 13) (t' 15) (a' 23) (b' 29)
        rw [q6, r5, A 23 (by decide), B 29 (by decide)]
        exact ⟨rfl, by decide, by decide, j4⟩
      · intro hw
        show IBook (s' 23) (s' 24) (s' 25) (s' 26) (s' 27) (a' 34) (a' 35) (a' 36) (a' 37) (a' 38) (a' 39) (t' 3) (t' 4) (t' 5) (t' 6) (b' 3) (b' 4) (b' 5) (b' 6) (b' 7) (b' 8)
        rw [S 23 (by decide), S 24 (by decide), S 25 (by decide), S 26 (by decide), S 27 (by decide), A 34 (by decide), A 35 (by decide), A 36 (by decide), A 37 (by decide), A 38 (by decide), A 39 (by decide), T 3 (by decide), T 4 (by decide), T 5 (by decide), T 6 (by decide), B 3 (by decide), B 4 (by decide), B 5 (by decide), B 6 (by decide), B 7 (by decide), B 8 (by decide)]
        exact i8 hw
      · intro z
        cases z
      · show IRadio (s' 0) (s' 17) (s' 18) (s' 19) (s' 20) (s' 21) (s' 22) (t' 26) (t' 27) (t' 28) (t' 29) (t' 31) (t' 32) (t' 30) (a' 26) (a' 27) (a' 28) (a' 29) (a' 30) (a' 31) (a' 32) (a' 33) (b' 36) (b' 37) (b' 38) (b' 39) (b' 40) (b' 43) (b' 44) (b' 41) (b' 42)
        rw [S 0 (by decide), S 17 (by decide), S 18 (by decide), S 19 (by decide), S 20 (by decide), S 21 (by decide), S 22 (by decide), T 26 (by decide), T 27 (by decide), T 28 (by decide), T 29 (by decide), T 31 (by decide), T 32 (by decide), T 30 (by decide), A 26 (by decide), A 27 (by decide), A 28 (by decide), A 29 (by decide), A 30 (by decide), A 31 (by decide), A 32 (by decide), A 33 (by decide), B 36 (by decide), B 37 (by decide), B 38 (by decide), B 39 (by decide), B 40 (by decide), B 43 (by decide), B 44 (by decide), B 41 (by decide), B 42 (by decide)]
        exact i10
    · refine y_rules (d := 5) (f := a 23) (n := n) (N := N) (st := st) (en := en) (k' := k') (S' := S') (ok := true) htp hnt hn4 q1 q2 (fun z => by cases z) (fun _ t' u' b' r1 r2 r3 r4 r5 r6 r7 r8 => ?_)
      have gd := zGd_r q2
      have S : ∀ i, i ∉ [1, 2, 13, 14, 15, 16, 28, 29, 30, 31, 32] → s' i = s i := q3
      have A : ∀ i, i ∉ [24, 25, 40, 41, 42, 43, 44, 45] → a' i = a i := q4
      have T : ∀ i, i ∉ [0, 1, 3, 4, 5, 6, 15, 16, 17, 18, 19, 20, 21, 22, 23, 24, 25] → t' i = t i := r1
      have U : ∀ i, i ∉ [1] → u' i = u i := r2
      have B : ∀ i, i ∉ [3, 4, 5, 6, 7, 8, 30, 31, 32, 33, 34, 35] → b' i = b i := r3
      refine ⟨_, rfl, rfl, _, _, _, _, _, _, _, rfl, ⟨?_, ?_, ?_, ?_, ?_, ?_, ?_, ?_, ?_, ?_⟩⟩
      · show IStat (s' 0) (s' 1) (s' 2) (t' 2) (t' 19) (t' 1)
        rw [S 0 (by decide), T 2 (by decide), q5, q7, r4, r6]
        exact ⟨i1.1, rfl, rfl, i1.2.2.2⟩
      · show ISky (a' 0) (b' 0) (b' 1) (b' 2)
        rw [A 0 (by decide), B 0 (by decide), B 1 (by decide), B 2 (by decide)]
        exact i2
      · show IPow (s' 6) (t' 7) (s' 5) (t' 8) (a' 4) (b' 12) (a' 5) (b' 13) (a' 1) (a' 2) (a' 3) (b' 9) (b' 10) (b' 11)
        rw [S 6 (by decide), T 7 (by decide), S 5 (by decide), T 8 (by decide), A 4 (by decide), B 12 (by decide), A 5 (by decide), B 13 (by decide), A 1 (by decide), A 2 (by decide), A 3 (by decide), B 9 (by decide), B 10 (by decide), B 11 (by decide)]
        exact i3
      · show IPlan (s' 3) (s' 4) (a' 9) (a' 10) (t' 9) (u' 0) (b' 14) (b' 15)
        rw [S 3 (by decide), S 4 (by decide), A 9 (by decide), A 10 (by decide), T 9 (by decide), U 0 (by decide), B 14 (by decide), B 15 (by decide)]
        exact i4
      · show IStore (s' 7) (s' 8) (t' 10) (a' 11) (a' 12) (b' 17) (b' 18)
        rw [S 7 (by decide), S 8 (by decide), T 10 (by decide), A 11 (by decide), A 12 (by decide), B 17 (by decide), B 18 (by decide)]
        exact i5
      · show ICrew (s' 9) (s' 10) (s' 11) (s' 12) (t' 11) (t' 12) (t' 13) (t' 14) (a' 13) (a' 14) (a' 15) (a' 16) (a' 17) (a' 18) (a' 19) (a' 20) (a' 21) (a' 22) (b' 19) (b' 20) (b' 21) (b' 22) (b' 23) (b' 24) (b' 25) (b' 26) (b' 27) (b' 28)
        rw [S 9 (by decide), S 10 (by decide), S 11 (by decide), S 12 (by decide), T 11 (by decide), T 12 (by decide), T 13 (by decide), T 14 (by decide), A 13 (by decide), A 14 (by decide), A 15 (by decide), A 16 (by decide), A 17 (by decide), A 18 (by decide), A 19 (by decide), A 20 (by decide), A 21 (by decide), A 22 (by decide), B 19 (by decide), B 20 (by decide), B 21 (by decide), B 22 (by decide), B 23 (by decide), B 24 (by decide), B 25 (by decide), B 26 (by decide), B 27 (by decide), B 28 (by decide)]
        exact i6
      · show ITape (s' 13) (t' 15) (a' 23) (b' 29)
        rw [q6, r5, A 23 (by decide), B 29 (by decide)]
        exact ⟨rfl, by decide, by decide, j4⟩
      · intro z
        cases z
      · intro _
        exact book_of q8 r7 r8 gd.1 gd.2
      · show IRadio (s' 0) (s' 17) (s' 18) (s' 19) (s' 20) (s' 21) (s' 22) (t' 26) (t' 27) (t' 28) (t' 29) (t' 31) (t' 32) (t' 30) (a' 26) (a' 27) (a' 28) (a' 29) (a' 30) (a' 31) (a' 32) (a' 33) (b' 36) (b' 37) (b' 38) (b' 39) (b' 40) (b' 43) (b' 44) (b' 41) (b' 42)
        rw [S 0 (by decide), S 17 (by decide), S 18 (by decide), S 19 (by decide), S 20 (by decide), S 21 (by decide), S 22 (by decide), T 26 (by decide), T 27 (by decide), T 28 (by decide), T 29 (by decide), T 31 (by decide), T 32 (by decide), T 30 (by decide), A 26 (by decide), A 27 (by decide), A 28 (by decide), A 29 (by decide), A 30 (by decide), A 31 (by decide), A 32 (by decide), A 33 (by decide), B 36 (by decide), B 37 (by decide), B 38 (by decide), B 39 (by decide), B 40 (by decide), B 43 (by decide), B 44 (by decide), B 41 (by decide), B 42 (by decide)]
        exact i10
  | true =>
    refine x_rulesA (d := 5) (g := b 29) (n := n) htp hn hn4 (fun N st en k' S' s' a' q1 q2 q3 q4 q5 q6 q7 => ?_) (fun N st en k' S' s' a' q1 q2 q3 q4 q5 q6 q7 q8 => ?_)
    · refine y_rules (d := 5) (f := a 23) (n := n) (N := N) (st := st) (en := en) (k' := k') (S' := S') (ok := false) htp hnt hn4 q1 q2 (fun _ t' u' b' r1 r2 r3 r4 r5 r6 => ?_) (fun z => by cases z)
      have S : ∀ i, i ∉ [1, 2, 13, 14, 15, 16, 23, 24, 25, 26, 27] → s' i = s i := q3
      have A : ∀ i, i ∉ [24, 25, 34, 35, 36, 37, 38, 39] → a' i = a i := q4
      have T : ∀ i, i ∉ [0, 1, 15, 16, 17, 18, 19, 20, 21, 22, 23, 24, 25] → t' i = t i := r1
      have U : ∀ i, i ∉ [1] → u' i = u i := r2
      have B : ∀ i, i ∉ [30, 31, 32, 33, 34, 35] → b' i = b i := r3
      refine ⟨_, rfl, rfl, _, _, _, _, _, _, _, rfl, ⟨?_, ?_, ?_, ?_, ?_, ?_, ?_, ?_, ?_, ?_⟩⟩
      · show IStat (s' 0) (s' 1) (s' 2) (t' 2) (t' 19) (t' 1)
        rw [S 0 (by decide), T 2 (by decide), q5, q7, r4, r6]
        exact ⟨i1.1, rfl, rfl, i1.2.2.2⟩
      · show ISky (a' 0) (b' 0) (b' 1) (b' 2)
        rw [A 0 (by decide), B 0 (by decide), B 1 (by decide), B 2 (by decide)]
        exact i2
      · show IPow (s' 6) (t' 7) (s' 5) (t' 8) (a' 4) (b' 12) (a' 5) (b' 13) (a' 1) (a' 2) (a' 3) (b' 9) (b' 10) (b' 11)
        rw [S 6 (by decide), T 7 (by decide), S 5 (by decide), T 8 (by decide), A 4 (by decide), B 12 (by decide), A 5 (by decide), B 13 (by decide), A 1 (by decide), A 2 (by decide), A 3 (by decide), B 9 (by decide), B 10 (by decide), B 11 (by decide)]
        exact i3
      · show IPlan (s' 3) (s' 4) (a' 9) (a' 10) (t' 9) (u' 0) (b' 14) (b' 15)
        rw [S 3 (by decide), S 4 (by decide), A 9 (by decide), A 10 (by decide), T 9 (by decide), U 0 (by decide), B 14 (by decide), B 15 (by decide)]
        exact i4
      · show IStore (s' 7) (s' 8) (t' 10) (a' 11) (a' 12) (b' 17) (b' 18)
        rw [S 7 (by decide), S 8 (by decide), T 10 (by decide), A 11 (by decide), A 12 (by decide), B 17 (by decide), B 18 (by decide)]
        exact i5
      · show ICrew (s' 9) (s' 10) (s' 11) (s' 12) (t' 11) (t' 12) (t' 13) (t' 14) (a' 13) (a' 14) (a' 15) (a' 16) (a' 17) (a' 18) (a' 19) (a' 20) (a' 21) (a' 22) (b' 19) (b' 20) (b' 21) (b' 22) (b' 23) (b' 24) (b' 25) (b' 26) (b' 27) (b' 28)
        rw [S 9 (by decide), S 10 (by decide), S 11 (by decide), S 12 (by decide), T 11 (by decide), T 12 (by decide), T 13 (by decide), T 14 (by decide), A 13 (by decide), A 14 (by decide), A 15 (by decide), A 16 (by decide), A 17 (by decide), A 18 (by decide), A 19 (by decide), A 20 (by decide), A 21 (by decide), A 22 (by decide), B 19 (by decide), B 20 (by decide), B 21 (by decide), B 22 (by decide), B 23 (by decide), B 24 (by decide), B 25 (by decide), B 26 (by decide), B 27 (by decide), B 28 (by decide)]
        exact i6
      · show ITape (s' 13) (t' 15) (a' 23) (b' 29)
        rw [q6, r5, A 23 (by decide), B 29 (by decide)]
        exact ⟨rfl, by decide, by decide, j4⟩
      · intro z
        cases z
      · intro hw
        show IBook (s' 28) (s' 29) (s' 30) (s' 31) (s' 32) (a' 40) (a' 41) (a' 42) (a' 43) (a' 44) (a' 45) (t' 3) (t' 4) (t' 5) (t' 6) (b' 3) (b' 4) (b' 5) (b' 6) (b' 7) (b' 8)
        rw [S 28 (by decide), S 29 (by decide), S 30 (by decide), S 31 (by decide), S 32 (by decide), A 40 (by decide), A 41 (by decide), A 42 (by decide), A 43 (by decide), A 44 (by decide), A 45 (by decide), T 3 (by decide), T 4 (by decide), T 5 (by decide), T 6 (by decide), B 3 (by decide), B 4 (by decide), B 5 (by decide), B 6 (by decide), B 7 (by decide), B 8 (by decide)]
        exact i9 hw
      · show IRadio (s' 0) (s' 17) (s' 18) (s' 19) (s' 20) (s' 21) (s' 22) (t' 26) (t' 27) (t' 28) (t' 29) (t' 31) (t' 32) (t' 30) (a' 26) (a' 27) (a' 28) (a' 29) (a' 30) (a' 31) (a' 32) (a' 33) (b' 36) (b' 37) (b' 38) (b' 39) (b' 40) (b' 43) (b' 44) (b' 41) (b' 42)
        rw [S 0 (by decide), S 17 (by decide), S 18 (by decide), S 19 (by decide), S 20 (by decide), S 21 (by decide), S 22 (by decide), T 26 (by decide), T 27 (by decide), T 28 (by decide), T 29 (by decide), T 31 (by decide), T 32 (by decide), T 30 (by decide), A 26 (by decide), A 27 (by decide), A 28 (by decide), A 29 (by decide), A 30 (by decide), A 31 (by decide), A 32 (by decide), A 33 (by decide), B 36 (by decide), B 37 (by decide), B 38 (by decide), B 39 (by decide), B 40 (by decide), B 43 (by decide), B 44 (by decide), B 41 (by decide), B 42 (by decide)]
        exact i10
    · refine y_rules (d := 5) (f := a 23) (n := n) (N := N) (st := st) (en := en) (k' := k') (S' := S') (ok := true) htp hnt hn4 q1 q2 (fun z => by cases z) (fun _ t' u' b' r1 r2 r3 r4 r5 r6 r7 r8 => ?_)
      have gd := zGd_r q2
      have S : ∀ i, i ∉ [1, 2, 13, 14, 15, 16, 23, 24, 25, 26, 27] → s' i = s i := q3
      have A : ∀ i, i ∉ [24, 25, 34, 35, 36, 37, 38, 39] → a' i = a i := q4
      have T : ∀ i, i ∉ [0, 1, 3, 4, 5, 6, 15, 16, 17, 18, 19, 20, 21, 22, 23, 24, 25] → t' i = t i := r1
      have U : ∀ i, i ∉ [1] → u' i = u i := r2
      have B : ∀ i, i ∉ [3, 4, 5, 6, 7, 8, 30, 31, 32, 33, 34, 35] → b' i = b i := r3
      refine ⟨_, rfl, rfl, _, _, _, _, _, _, _, rfl, ⟨?_, ?_, ?_, ?_, ?_, ?_, ?_, ?_, ?_, ?_⟩⟩
      · show IStat (s' 0) (s' 1) (s' 2) (t' 2) (t' 19) (t' 1)
        rw [S 0 (by decide), T 2 (by decide), q5, q7, r4, r6]
        exact ⟨i1.1, rfl, rfl, i1.2.2.2⟩
      · show ISky (a' 0) (b' 0) (b' 1) (b' 2)
        rw [A 0 (by decide), B 0 (by decide), B 1 (by decide), B 2 (by decide)]
        exact i2
      · show IPow (s' 6) (t' 7) (s' 5) (t' 8) (a' 4) (b' 12) (a' 5) (b' 13) (a' 1) (a' 2) (a' 3) (b' 9) (b' 10) (b' 11)
        rw [S 6 (by decide), T 7 (by decide), S 5 (by decide), T 8 (by decide), A 4 (by decide), B 12 (by decide), A 5 (by decide), B 13 (by decide), A 1 (by decide), A 2 (by decide), A 3 (by decide), B 9 (by decide), B 10 (by decide), B 11 (by decide)]
        exact i3
      · show IPlan (s' 3) (s' 4) (a' 9) (a' 10) (t' 9) (u' 0) (b' 14) (b' 15)
        rw [S 3 (by decide), S 4 (by decide), A 9 (by decide), A 10 (by decide), T 9 (by decide), U 0 (by decide), B 14 (by decide), B 15 (by decide)]
        exact i4
      · show IStore (s' 7) (s' 8) (t' 10) (a' 11) (a' 12) (b' 17) (b' 18)
        rw [S 7 (by decide), S 8 (by decide), T 10 (by decide), A 11 (by decide), A 12 (by decide), B 17 (by decide), B 18 (by decide)]
        exact i5
      · show ICrew (s' 9) (s' 10) (s' 11) (s' 12) (t' 11) (t' 12) (t' 13) (t' 14) (a' 13) (a' 14) (a' 15) (a' 16) (a' 17) (a' 18) (a' 19) (a' 20) (a' 21) (a' 22) (b' 19) (b' 20) (b' 21) (b' 22) (b' 23) (b' 24) (b' 25) (b' 26) (b' 27) (b' 28)
        rw [S 9 (by decide), S 10 (by decide), S 11 (by decide), S 12 (by decide), T 11 (by decide), T 12 (by decide), T 13 (by decide), T 14 (by decide), A 13 (by decide), A 14 (by decide), A 15 (by decide), A 16 (by decide), A 17 (by decide), A 18 (by decide), A 19 (by decide), A 20 (by decide), A 21 (by decide), A 22 (by decide), B 19 (by decide), B 20 (by decide), B 21 (by decide), B 22 (by decide), B 23 (by decide), B 24 (by decide), B 25 (by decide), B 26 (by decide), B 27 (by decide), B 28 (by decide)]
        exact i6
      · show ITape (s' 13) (t' 15) (a' 23) (b' 29)
        rw [q6, r5, A 23 (by decide), B 29 (by decide)]
        exact ⟨rfl, by decide, by decide, j4⟩
      · intro _
        exact book_of q8 r7 r8 gd.1 gd.2
      · intro z
        cases z
      · show IRadio (s' 0) (s' 17) (s' 18) (s' 19) (s' 20) (s' 21) (s' 22) (t' 26) (t' 27) (t' 28) (t' 29) (t' 31) (t' 32) (t' 30) (a' 26) (a' 27) (a' 28) (a' 29) (a' 30) (a' 31) (a' 32) (a' 33) (b' 36) (b' 37) (b' 38) (b' 39) (b' 40) (b' 43) (b' 44) (b' 41) (b' 42)
        rw [S 0 (by decide), S 17 (by decide), S 18 (by decide), S 19 (by decide), S 20 (by decide), S 21 (by decide), S 22 (by decide), T 26 (by decide), T 27 (by decide), T 28 (by decide), T 29 (by decide), T 31 (by decide), T 32 (by decide), T 30 (by decide), A 26 (by decide), A 27 (by decide), A 28 (by decide), A 29 (by decide), A 30 (by decide), A 31 (by decide), A 32 (by decide), A 33 (by decide), B 36 (by decide), B 37 (by decide), B 38 (by decide), B 39 (by decide), B 40 (by decide), B 43 (by decide), B 44 (by decide), B 41 (by decide), B 42 (by decide)]
        exact i10
