/-! THE SCHEDULE GOES TOGETHER -/
theorem L_schedule : zLaw 90 131 [] := by
  intro s a w t b u c hI
  obtain ⟨i1, i2, i3, i4, i5, i6, i7, i8, i9, i10⟩ := hI
  obtain ⟨⟨c1, c2, c3, c4⟩, ⟨d1, d2, d3, d4, d5, d6, d7, d8, d9, d10⟩, k1, k2, k3, k4, k5, k6, k7⟩ := i6
  have hnow := i1.2.2.2
  have hkc := cl_int (s 0) hnow.1
  have hn := nI_cl (s 0) hnow.1
  have hPc := cl_int (s 9) k1.1
  have hP := nI_cl (s 9) k1.1
  have hSc := cl_int (s 10) k2.1
  have hS := nI_cl (s 10) k2.1
  have hWc := cl_int (s 11) k3.1
  have hW := nI_cl (s 11) k3.1
  obtain ⟨now, hnowE⟩ : ∃ k, k = (s 0).toNatClampNeg := ⟨_, rfl⟩
  obtain ⟨P, hPE⟩ : ∃ k, k = (s 9).toNatClampNeg := ⟨_, rfl⟩
  obtain ⟨SP, hSE⟩ : ∃ k, k = (s 10).toNatClampNeg := ⟨_, rfl⟩
  obtain ⟨W, hWE⟩ : ∃ k, k = (s 11).toNatClampNeg := ⟨_, rfl⟩
  rw [← hnowE] at hkc hn
  rw [← hPE] at hPc hP
  rw [← hSE] at hSc hS
  rw [← hWE] at hWc hW
  have hp : ∀ i, i < SP → 0 ≤ (a 14 i).toInt ∧ (a 14 i).toInt < (P : Int) := fun i hi => by have := (k6 i (by omega)).1; omega
  have hH : ∀ i, i < W → (1 ≤ (a 17 i).toInt ∧ (a 17 i).toInt ≤ 24) ∧ (1 ≤ (a 18 i).toInt ∧ (a 18 i).toInt ≤ 4) := fun i hi => ⟨(k7 i (by omega)).1, (k7 i (by omega)).2.1⟩
  -- the reference behind the station
  have fin : ∀ (re bo : Int32), re = t 4 → bo = t 5 → (0 ≤ re.toInt ∧ re.toInt ≤ 1000) → ∀ a' : Nat → Nat → Int32, zSm [21, 22] a a' → (∀ i, W ≤ i → a' 21 i = a 21 i ∧ a' 22 i = a 22 i) → zSch (zCan (b 1) (b 2) (a 13) (a 14) (a 15) (a 16) (a 17) (a 18) (a 19) (a 20) P SP re bo) now W (a' 21) (a' 22) → zG 12 131 [.ref 56] (HX (va_up s 12 (nI W)) a' w ++ HM t b u c) (zPost (some (.int (nI (zlf (a' 21) W))))) := by
    intro re bo hre hbo hreb a' q1 q2 q3
    subst hre
    subst hbo
    refine y_schedule (d := 9) (P := P) (SP := SP) (W := W) (now := now) (by rw [← c1]; exact hP) (by omega) (by rw [← c2]; exact hS) (by omega) (by rw [← c3]; exact hW) (by omega) (by rw [← i1.1]; exact hn) (by omega) hreb (by rw [← d5, ← d6]; exact hH) (fun b' p1 p2 p3 => ?_)
    rw [← d1, ← d2, ← d3, ← d4, ← d5, ← d6, ← d7, ← d8] at p3
    have same := zSch_one (fun f g w b w1 w2 => zCan_one f g w b w1 w2) (fun f g f' g' w b who h => zCan_c h) W q3 p3
    have eB : a' 21 = b' 27 := by
      funext i
      rcases Nat.lt_or_ge i W with z | z
      · exact (same i z).1
      · rw [(q2 i z).1, (p2 i z).1, d9]
    have eW : a' 22 = b' 28 := by
      funext i
      rcases Nat.lt_or_ge i W with z | z
      · exact (same i z).2
      · rw [(q2 i z).2, (p2 i z).2, d10]
    have A : ∀ i, i ∉ [21, 22] → a' i = a i := q1
    have B : ∀ i, i ∉ [27, 28] → b' i = b i := p1
    refine ⟨_, rfl, by rw [eB], _, _, _, _, _, _, _, rfl, ⟨i1, ?_, ?_, ?_, ?_, ?_, ?_, ?_, ?_, ?_⟩⟩
    · show ISky (a' 0) (b' 0) (b' 1) (b' 2)
      rw [A 0 (by decide), B 0 (by decide), B 1 (by decide), B 2 (by decide)]
      exact i2
    · show IPow (s 6) (t 7) (s 5) (t 8) (a' 4) (b' 12) (a' 5) (b' 13) (a' 1) (a' 2) (a' 3) (b' 9) (b' 10) (b' 11)
      rw [A 4 (by decide), A 5 (by decide), A 1 (by decide), A 2 (by decide), A 3 (by decide), B 12 (by decide), B 13 (by decide), B 9 (by decide), B 10 (by decide), B 11 (by decide)]
      exact i3
    · show IPlan (s 3) (s 4) (a' 9) (a' 10) (t 9) (u 0) (b' 14) (b' 15)
      rw [A 9 (by decide), A 10 (by decide), B 14 (by decide), B 15 (by decide)]
      exact i4
    · show IStore (s 7) (s 8) (t 10) (a' 11) (a' 12) (b' 17) (b' 18)
      rw [A 11 (by decide), A 12 (by decide), B 17 (by decide), B 18 (by decide)]
      exact i5
    · show ICrew (s 9) (s 10) (s 11) (nI W) (t 11) (t 12) (t 13) (nI W) (a' 13) (a' 14) (a' 15) (a' 16) (a' 17) (a' 18) (a' 19) (a' 20) (a' 21) (a' 22) (b' 19) (b' 20) (b' 21) (b' 22) (b' 23) (b' 24) (b' 25) (b' 26) (b' 27) (b' 28)
      rw [A 13 (by decide), A 14 (by decide), A 15 (by decide), A 16 (by decide), A 17 (by decide), A 18 (by decide), A 19 (by decide), A 20 (by decide), B 19 (by decide), B 20 (by decide), B 21 (by decide), B 22 (by decide), B 23 (by decide), B 24 (by decide), B 25 (by decide), B 26 (by decide)]
      exact ⟨⟨c1, c2, c3, rfl⟩, ⟨d1, d2, d3, d4, d5, d6, d7, d8, eB, eW⟩, k1, k2, k3, by rw [nI_toInt (by omega)]; omega, k5, k6, k7⟩
    · show ITape (s 13) (t 15) (a' 23) (b' 29)
      rw [A 23 (by decide), B 29 (by decide)]
      exact i7
    · intro hw
      show IBook (s 23) (s 24) (s 25) (s 26) (s 27) (a' 34) (a' 35) (a' 36) (a' 37) (a' 38) (a' 39) (t 3) (t 4) (t 5) (t 6) (b' 3) (b' 4) (b' 5) (b' 6) (b' 7) (b' 8)
      rw [A 34 (by decide), A 35 (by decide), A 36 (by decide), A 37 (by decide), A 38 (by decide), A 39 (by decide), B 3 (by decide), B 4 (by decide), B 5 (by decide), B 6 (by decide), B 7 (by decide), B 8 (by decide)]
      exact i8 hw
    · intro hw
      show IBook (s 28) (s 29) (s 30) (s 31) (s 32) (a' 40) (a' 41) (a' 42) (a' 43) (a' 44) (a' 45) (t 3) (t 4) (t 5) (t 6) (b' 3) (b' 4) (b' 5) (b' 6) (b' 7) (b' 8)
      rw [A 40 (by decide), A 41 (by decide), A 42 (by decide), A 43 (by decide), A 44 (by decide), A 45 (by decide), B 3 (by decide), B 4 (by decide), B 5 (by decide), B 6 (by decide), B 7 (by decide), B 8 (by decide)]
      exact i9 hw
    · show IRadio (s 0) (s 17) (s 18) (s 19) (s 20) (s 21) (s 22) (t 26) (t 27) (t 28) (t 29) (t 31) (t 32) (t 30) (a' 26) (a' 27) (a' 28) (a' 29) (a' 30) (a' 31) (a' 32) (a' 33) (b' 36) (b' 37) (b' 38) (b' 39) (b' 40) (b' 43) (b' 44) (b' 41) (b' 42)
      rw [A 26 (by decide), A 27 (by decide), A 28 (by decide), A 29 (by decide), A 30 (by decide), A 31 (by decide), A 32 (by decide), A 33 (by decide), B 36 (by decide), B 37 (by decide), B 38 (by decide), B 39 (by decide), B 40 (by decide), B 41 (by decide), B 42 (by decide), B 43 (by decide), B 44 (by decide)]
      exact i10
  cases w with
  | false =>
    obtain ⟨⟨r1, r2, r3, r4⟩, r5, r6⟩ := i8 rfl
    refine x_scheduleA (d := 7) (P := P) (SP := SP) (W := W) (now := now) i2 hP (by omega) hS (by omega) hp r5 hW (by omega) hn (by omega) hH (fun a' p1 p2 p3 => ?_)
    exact fin _ _ r2 r3 r5 a' p1 p2 p3
  | true =>
    obtain ⟨⟨r1, r2, r3, r4⟩, r5, r6⟩ := i9 rfl
    refine x_scheduleB (d := 7) (P := P) (SP := SP) (W := W) (now := now) i2 hP (by omega) hS (by omega) hp r5 hW (by omega) hn (by omega) hH (fun a' p1 p2 p3 => ?_)
    exact fin _ _ r2 r3 r5 a' p1 p2 p3
