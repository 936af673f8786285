/-! THE PLAN GOES TOGETHER -/
theorem zra_b {C : Nat → Bool} {ir : Nat → Int32} : ∀ (n i : Nat) (g : Int32), (∀ j, i ≤ j → j < i + n → 0 ≤ (ir j).toInt ∧ (ir j).toInt ≤ 100) → (0 ≤ g.toInt ∧ g.toInt ≤ 100) → 0 ≤ (zra C ir n i g).toInt ∧ (zra C ir n i g).toInt ≤ 100
  | 0, i, g, _, hg => hg
  | n + 1, i, g, h, hg => by
    unfold zra
    refine zra_b n (i + 1) _ (fun j h1 h2 => h j (by omega) (by omega)) ?_
    split
    · exact h i (by omega) (by omega)
    · exact hg
theorem book_ir {ru te ifs re bo : Int32} {ts ta tn tf ie ir : Nat → Int32} {ru' re' bo' ifs' : Int32} {iF iR tW tL tV tO : Nat → Int32} {I : Nat} (hB : IBook ru te ifs re bo ts ta tn tf ie ir ru' re' bo' ifs' iF iR tW tL tV tO) (hI : ifs = nI I) (hI20 : I ≤ 20) : ∀ k, k < I → 0 ≤ (ir k).toInt ∧ (ir k).toInt ≤ 100 := by
  obtain ⟨-, -, -, -, J, F, h1, h2, h3, h4, h5, h6⟩ := hB
  have e : I = J := (nI_eq (by omega) (by omega)).mp (by rw [← hI, h2])
  subst e
  exact fun k hk => (h5 k hk).2.2.2
theorem need_b {d r m : Int32} (hd : 0 ≤ d.toInt ∧ d.toInt ≤ 10000) (hr : 0 ≤ r.toInt ∧ r.toInt ≤ 100) (hm : 0 ≤ m.toInt ∧ m.toInt ≤ 1000) : -1000 ≤ (d - d * r / 100 - m).toInt ∧ (d - d * r / 100 - m).toInt ≤ 10000 := by
  have h1 := cl_int d hd.1
  have h2 := cl_int r hr.1
  have e1 := nI_cl d hd.1
  have e2 := nI_cl r hr.1
  generalize d.toNatClampNeg = D at *
  generalize r.toNatClampNeg = Rr at *
  subst e1
  subst e2
  have hmul : D * Rr ≤ D * 100 := Nat.mul_le_mul_left D (by omega)
  have hdiv : D * Rr / 100 ≤ D := by omega
  have e3 : nI D - nI D * nI Rr / 100 = nI (D - D * Rr / 100) := by
    rw [pk_mul, show (100 : Int32) = nI 100 from rfl, pk_div (by omega) (by omega) (by omega), pk_sub hdiv]
  rw [e3, i32_sub (by rw [nI_toInt (by omega)]; omega), nI_toInt (by omega)]
  omega
theorem zsum_b {f : Nat → Int32} {st : Nat} : ∀ E, E ≤ 4 → (∀ e, e < E → 0 ≤ (f e).toInt ∧ (f e).toInt ≤ 1000) → 0 ≤ (zsum f st E).toInt ∧ (zsum f st E).toInt ≤ 1000 * (E : Int)
  | 0, _, _ => ⟨Int.le_refl _, Int.le_refl _⟩
  | E + 1, h4, h => by
    have ih := zsum_b (st := st) E (by omega) (fun e he => h e (by omega))
    have hE := h E (by omega)
    rw [zsum_e]
    by_cases hb : st.testBit E = true
    · rw [if_pos hb, i32_add (by omega)]
      omega
    · rw [if_neg hb, Int32.add_zero]
      omega
theorem zsum_le {f : Nat → Int32} {st st' : Nat} : ∀ E, E ≤ 4 → (∀ e, e < E → 0 ≤ (f e).toInt ∧ (f e).toInt ≤ 1000) → (∀ e, e < E → st.testBit e = true → st'.testBit e = true) → (zsum f st E).toInt ≤ (zsum f st' E).toInt
  | 0, _, _, _ => Int.le_refl _
  | E + 1, h4, h, hs => by
    have ih := zsum_le E (by omega) (fun e he => h e (by omega)) (fun e he => hs e (by omega))
    have b1 := zsum_b (f := f) (st := st) E (by omega) (fun e he => h e (by omega))
    have b2 := zsum_b (f := f) (st := st') E (by omega) (fun e he => h e (by omega))
    have hE := h E (by omega)
    rw [zsum_e, zsum_e]
    by_cases hb : st.testBit E = true
    · rw [if_pos hb, if_pos (hs E (by omega) hb), i32_add (by omega), i32_add (by omega)]
      omega
    · rw [if_neg hb, Int32.add_zero]
      by_cases hb2 : st'.testBit E = true
      · rw [if_pos hb2, i32_add (by omega)]
        omega
      · rw [if_neg hb2, Int32.add_zero]
        exact ih
theorem L_plan (x : Int32) : zLaw 82 119 [.int x] := by
  intro s a w t b u c hI
  obtain ⟨i1, i2, i3, i4, i5, i6, i7, i8, i9, i10⟩ := hI
  have keep : Inv (va_up s 2 (zcode (-1))) a w (va_up (va_up t 0 0) 1 (zcode (-1))) b u := ⟨⟨i1.1, i1.2.1, rfl, i1.2.2.2⟩, i2, i3, i4, i5, i6, i7, i8, i9, i10⟩
  have i3' := i3
  obtain ⟨e1, e2, e3, e4, e5, e6, E, hE4, f1, ⟨on, hon2, f2⟩, f3, f4⟩ := i3'
  have hnow := i1.2.2.2
  have hkc := cl_int (s 0) hnow.1
  have hn0 := nI_cl (s 0) hnow.1
  obtain ⟨now, hnowE⟩ : ∃ k, k = (s 0).toNatClampNeg := ⟨_, rfl⟩
  rw [← hnowE] at hkc hn0
  obtain ⟨K, hK⟩ : ∃ k, k = 2 ^ E := ⟨_, rfl⟩
  rw [← hK] at hon2 f4
  have hK16 := (pow_sh E hE4).2
  rw [← hK] at hK16
  -- what the station plans by
  have pd : ∀ ND : Nat → Int32, (∀ k, k < 2400 → -1000 ≤ (ND k).toInt ∧ (ND k).toInt ≤ 10000) → ∀ n, n ≤ 100 → now + n ≤ 2400 → zPD (fun i st => zlk (ND (now + i)) (a 1 st)) (a 2) (a 3) K n := by
    intro ND hND n hn1 hn2
    have ob : ∀ st, st < K → 0 ≤ (a 1 st).toInt ∧ (a 1 st).toInt ≤ 4000 := by
      intro st hst
      rw [(f4 st hst).1]
      have := zsum_b (f := b 9) (st := st) E hE4 (fun e he => by have := (f3 e he).1; omega)
      omega
    refine ⟨by omega, hK16.2, hn1, fun st hst => ?_, fun i st hi hst => ?_⟩
    · rw [(f4 st hst).2.1, (f4 st hst).2.2]
      have z1 := zsum_b (f := b 10) (st := st) E hE4 (fun e he => (f3 e he).2.1)
      have z2 := zsum_b (f := b 11) (st := st) E hE4 (fun e he => (f3 e he).2.2)
      omega
    · have hd := hND (now + i) (by omega)
      have o1 := ob st hst
      have o2 := ob (K - 1) (by omega)
      dsimp only
      rw [zlk_i hd o1, zlk_i hd o2]
      have le : (a 1 st).toInt ≤ (a 1 (K - 1)).toInt := by
        rw [(f4 st hst).1, (f4 (K - 1) (by omega)).1]
        refine zsum_le E hE4 (fun e he => by have := (f3 e he).1; omega) (fun e he _ => ?_)
        rw [hK, Nat.testBit_two_pow_sub_one]
        exact decide_eq_true he
      omega
  have fin : ∀ (ND : Nat → Int32) (I : Nat) (F : Nat → Nat), t 6 = nI I → I ≤ 20 → (∀ i, i < I → F i ≤ F (i + 1)) → (∀ i, i ≤ I → b 3 i = nI (F i) ∧ F i ≤ 60) → (∀ k, k < 2400 → b 13 (k % 24) - b 13 (k % 24) * (zra (fun i => zhm (fun j => zTm (zseM (b 5 j) (b 0 k) (b 2 k) (nI (k % 24))) (b 7 j) (b 6 j)) (fun j => decide (¬ b 8 j = 0)) (F (i + 1) - F i) (F i) false true) (b 4) I 0 0) / 100 - b 12 (b 0 k).toNatClampNeg = ND k) → (∀ k, k < 2400 → -1000 ≤ (ND k).toInt ∧ (ND k).toInt ≤ 10000) → ∀ (n : Nat) (s' : Nat → Int32) (a' : Nat → Nat → Int32) (r : Int32), x = nI n → ((1 ≤ n ∧ n ≤ 100) ∧ now + n ≤ 2400) → zSm [3, 4] s s' → zSm [6, 7, 8, 9, 10] a a' → s' 3 = nI n → (s' 4).toInt = zLm (fun i st => zlk (ND (now + i)) (a 1 st)) K n n → (∀ i, i < n → a' 9 i = nI (zWz (fun i st => zlk (ND (now + i)) (a 1 st)) (a 2) (a 3) K n on (i + 1)) ∧ a' 10 i = zlk (ND (now + i)) (a 1 (K - 1))) → r.toInt = zFu (fun i st => zlk (ND (now + i)) (a 1 st)) (a 2) (a 3) K n n on → zG 12 119 [.ref 56, .int x] (HX (va_up s' 2 (zcode r)) a' w ++ HM t b u c) (zPost (some (.int r))) := by
    intro ND I F g1 g2 g3 g4 g5 g6 n s' a' r hx hn q1 q2 q3 q4 q5 q6
    subst hx
    have hD := pd ND g6 n hn.1.2 hn.2
    have hNI : (nI n).toInt = (n : Int) := nI_toInt (by omega)
    refine y_plan (d := 7) (ND := ND) (Oz := a 1) (Sz := a 2) (Bz := a 3) (E := E) (K := K) (now := now) (n := n) (P := a 0) (I := I) (F := F) (on := on) i2 g1 g2 g3 g4 g5 (by rw [← e1]; exact f1) hE4 hK (fun st hst => (f4 st hst).1.symm) (fun st hst => (f4 st hst).2.1.symm) (fun st hst => (f4 st hst).2.2.symm) (by rw [← e2]; exact f2) hon2 (by rw [← i1.1]; exact hn0) hn.1 hn.2 hD (fun b' c' xx r' p1 p2 p3 p4 => ?_)
    have er : r = r' := by rw [fa_eq, q6, p4]
    subst er
    have S : ∀ i, i ∉ [3, 4] → s' i = s i := q1
    have A : ∀ i, i ∉ [6, 7, 8, 9, 10] → a' i = a i := q2
    have B : ∀ i, i ∉ [14, 15, 16] → b' i = b i := p1
    refine ⟨_, rfl, rfl, _, _, _, _, _, _, _, rfl, ⟨?_, ?_, ?_, ?_, ?_, ?_, ?_, ?_, ?_, ?_⟩⟩
    · show IStat (s' 0) (s' 1) (zcode r) (t 2) (t 19) (zcode r)
      rw [S 0 (by decide), S 1 (by decide)]
      exact ⟨i1.1, i1.2.1, rfl, i1.2.2.2⟩
    · show ISky (a' 0) (b' 0) (b' 1) (b' 2)
      rw [A 0 (by decide), B 0 (by decide), B 1 (by decide), B 2 (by decide)]
      exact i2
    · show IPow (s' 6) (t 7) (s' 5) (t 8) (a' 4) (b' 12) (a' 5) (b' 13) (a' 1) (a' 2) (a' 3) (b' 9) (b' 10) (b' 11)
      rw [S 6 (by decide), S 5 (by decide), A 4 (by decide), A 5 (by decide), A 1 (by decide), A 2 (by decide), A 3 (by decide), B 12 (by decide), B 13 (by decide), B 9 (by decide), B 10 (by decide), B 11 (by decide)]
      exact i3
    · show IPlan (s' 3) (s' 4) (a' 9) (a' 10) (nI n) xx (b' 14) (b' 15)
      rw [q3]
      have zl := zLm_b hD n (Nat.le_refl n)
      refine Or.inr ⟨rfl, by rw [hNI]; omega, by rw [hNI]; omega, ?_, fun i hi => ?_⟩
      · rw [fa_eq, l2i_i (by rw [p2]; omega), q4, p2]
      · rw [hNI] at hi
        rw [(q5 i (by omega)).1, (q5 i (by omega)).2, (p3 i (by omega)).1, (p3 i (by omega)).2]
        exact ⟨rfl, rfl⟩
    · show IStore (s' 7) (s' 8) (t 10) (a' 11) (a' 12) (b' 17) (b' 18)
      rw [S 7 (by decide), S 8 (by decide), A 11 (by decide), A 12 (by decide), B 17 (by decide), B 18 (by decide)]
      exact i5
    · show ICrew (s' 9) (s' 10) (s' 11) (s' 12) (t 11) (t 12) (t 13) (t 14) (a' 13) (a' 14) (a' 15) (a' 16) (a' 17) (a' 18) (a' 19) (a' 20) (a' 21) (a' 22) (b' 19) (b' 20) (b' 21) (b' 22) (b' 23) (b' 24) (b' 25) (b' 26) (b' 27) (b' 28)
      rw [S 9 (by decide), S 10 (by decide), S 11 (by decide), S 12 (by decide), A 13 (by decide), A 14 (by decide), A 15 (by decide), A 16 (by decide), A 17 (by decide), A 18 (by decide), A 19 (by decide), A 20 (by decide), A 21 (by decide), A 22 (by decide), B 19 (by decide), B 20 (by decide), B 21 (by decide), B 22 (by decide), B 23 (by decide), B 24 (by decide), B 25 (by decide), B 26 (by decide), B 27 (by decide), B 28 (by decide)]
      exact i6
    · show ITape (s' 13) (t 15) (a' 23) (b' 29)
      rw [S 13 (by decide), A 23 (by decide), B 29 (by decide)]
      exact i7
    · intro hw
      show IBook (s' 23) (s' 24) (s' 25) (s' 26) (s' 27) (a' 34) (a' 35) (a' 36) (a' 37) (a' 38) (a' 39) (t 3) (t 4) (t 5) (t 6) (b' 3) (b' 4) (b' 5) (b' 6) (b' 7) (b' 8)
      rw [S 23 (by decide), S 24 (by decide), S 25 (by decide), S 26 (by decide), S 27 (by decide), A 34 (by decide), A 35 (by decide), A 36 (by decide), A 37 (by decide), A 38 (by decide), A 39 (by decide), B 3 (by decide), B 4 (by decide), B 5 (by decide), B 6 (by decide), B 7 (by decide), B 8 (by decide)]
      exact i8 hw
    · intro hw
      show IBook (s' 28) (s' 29) (s' 30) (s' 31) (s' 32) (a' 40) (a' 41) (a' 42) (a' 43) (a' 44) (a' 45) (t 3) (t 4) (t 5) (t 6) (b' 3) (b' 4) (b' 5) (b' 6) (b' 7) (b' 8)
      rw [S 28 (by decide), S 29 (by decide), S 30 (by decide), S 31 (by decide), S 32 (by decide), A 40 (by decide), A 41 (by decide), A 42 (by decide), A 43 (by decide), A 44 (by decide), A 45 (by decide), B 3 (by decide), B 4 (by decide), B 5 (by decide), B 6 (by decide), B 7 (by decide), B 8 (by decide)]
      exact i9 hw
    · show IRadio (s' 0) (s' 17) (s' 18) (s' 19) (s' 20) (s' 21) (s' 22) (t 26) (t 27) (t 28) (t 29) (t 31) (t 32) (t 30) (a' 26) (a' 27) (a' 28) (a' 29) (a' 30) (a' 31) (a' 32) (a' 33) (b' 36) (b' 37) (b' 38) (b' 39) (b' 40) (b' 43) (b' 44) (b' 41) (b' 42)
      rw [S 0 (by decide), S 17 (by decide), S 18 (by decide), S 19 (by decide), S 20 (by decide), S 21 (by decide), S 22 (by decide), A 26 (by decide), A 27 (by decide), A 28 (by decide), A 29 (by decide), A 30 (by decide), A 31 (by decide), A 32 (by decide), A 33 (by decide), B 36 (by decide), B 37 (by decide), B 38 (by decide), B 39 (by decide), B 40 (by decide), B 41 (by decide), B 42 (by decide), B 43 (by decide), B 44 (by decide)]
      exact i10
  cases w with
  | false =>
    obtain ⟨I, F, r1, r2, r3, r4, r5, r6, r7, r8⟩ := ration_eq (i8 rfl)
    have rb := book_ir (i8 rfl) r1 r3
    obtain ⟨ND, hND⟩ : ∃ ND : Nat → Int32, ∀ k, ND k = a 5 (k % 24) - a 5 (k % 24) * (zra (fun i => zhd (fun j => zTs (zsee (a 34 j) (b 0 k) (b 2 k) (nI (k % 24))) (a 36 j) (a 35 j)) (fun j => decide (¬ a 37 j = 0)) (F (i + 1) - F i) (F i) true) (a 39) I 0 0) / 100 - a 4 (b 0 k).toNatClampNeg := ⟨fun k => a 5 (k % 24) - a 5 (k % 24) * (zra (fun i => zhd (fun j => zTs (zsee (a 34 j) (b 0 k) (b 2 k) (nI (k % 24))) (a 36 j) (a 35 j)) (fun j => decide (¬ a 37 j = 0)) (F (i + 1) - F i) (F i) true) (a 39) I 0 0) / 100 - a 4 (b 0 k).toNatClampNeg, fun _ => rfl⟩
    have nb : ∀ k, k < 2400 → -1000 ≤ (ND k).toInt ∧ (ND k).toInt ≤ 10000 := by
      intro k hk
      rw [hND k]
      have hw := (i2 k hk).1
      have hwc := cl_int (b 0 k) hw.1
      exact need_b (e6 _ (by omega)) (zra_b I 0 0 (fun j _ h2 => rb j (by omega)) ⟨by decide, by decide⟩) (e5 _ (by omega))
    refine x_planA (d := 5) (ND := ND) (E := E) (K := K) (now := now) (on := on) hn0 i2 r1 r3 r4 r5 r6 (fun k _ => (hND k).symm) f1 hE4 hK f2 hon2 (by omega) (pd ND nb) (fun c1 => ?_) (fun n s' a' r h1 h2 h3 h4 h5 h6 h7 h8 => ?_)
    · refine y_planNo (d := 7) (now := now) (by rw [← i1.1]; exact hn0) (by omega) c1 ?_
      exact ⟨_, rfl, rfl, _, _, _, _, _, _, _, rfl, keep⟩
    · refine fin ND I F r2 r3 (fun i hi => (r5 i hi).1) r7 (fun k hk => ?_) nb n s' a' r h1 h2 h3 h4 h5 h6 h7 h8
      have r9 := r8 (b 0 k) (b 2 k) (nI (k % 24))
      rw [hND k, r9, e3, e4]
  | true =>
    obtain ⟨I, F, r1, r2, r3, r4, r5, r6, r7, r8⟩ := ration_eq (i9 rfl)
    have rb := book_ir (i9 rfl) r1 r3
    obtain ⟨ND, hND⟩ : ∃ ND : Nat → Int32, ∀ k, ND k = a 5 (k % 24) - a 5 (k % 24) * (zra (fun i => zhd (fun j => zTs (zsee (a 40 j) (b 0 k) (b 2 k) (nI (k % 24))) (a 42 j) (a 41 j)) (fun j => decide (¬ a 43 j = 0)) (F (i + 1) - F i) (F i) true) (a 45) I 0 0) / 100 - a 4 (b 0 k).toNatClampNeg := ⟨fun k => a 5 (k % 24) - a 5 (k % 24) * (zra (fun i => zhd (fun j => zTs (zsee (a 40 j) (b 0 k) (b 2 k) (nI (k % 24))) (a 42 j) (a 41 j)) (fun j => decide (¬ a 43 j = 0)) (F (i + 1) - F i) (F i) true) (a 45) I 0 0) / 100 - a 4 (b 0 k).toNatClampNeg, fun _ => rfl⟩
    have nb : ∀ k, k < 2400 → -1000 ≤ (ND k).toInt ∧ (ND k).toInt ≤ 10000 := by
      intro k hk
      rw [hND k]
      have hw := (i2 k hk).1
      have hwc := cl_int (b 0 k) hw.1
      exact need_b (e6 _ (by omega)) (zra_b I 0 0 (fun j _ h2 => rb j (by omega)) ⟨by decide, by decide⟩) (e5 _ (by omega))
    refine x_planB (d := 5) (ND := ND) (E := E) (K := K) (now := now) (on := on) hn0 i2 r1 r3 r4 r5 r6 (fun k _ => (hND k).symm) f1 hE4 hK f2 hon2 (by omega) (pd ND nb) (fun c1 => ?_) (fun n s' a' r h1 h2 h3 h4 h5 h6 h7 h8 => ?_)
    · refine y_planNo (d := 7) (now := now) (by rw [← i1.1]; exact hn0) (by omega) c1 ?_
      exact ⟨_, rfl, rfl, _, _, _, _, _, _, _, rfl, keep⟩
    · refine fin ND I F r2 r3 (fun i hi => (r5 i hi).1) r7 (fun k hk => ?_) nb n s' a' r h1 h2 h3 h4 h5 h6 h7 h8
      have r9 := r8 (b 0 k) (b 2 k) (nI (k % 24))
      rw [hND k, r9, e3, e4]
