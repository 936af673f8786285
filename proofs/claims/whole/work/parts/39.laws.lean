theorem see1 (p q r : Int32) : zsee (-13) p q r = p := if_pos rfl
theorem see2 (p q r : Int32) : zsee (-8) p q r = q := by unfold zsee; rw [if_neg (by decide), if_pos rfl]
theorem see3 (p q r : Int32) : zsee (-14) p q r = r := by unfold zsee; rw [if_neg (by decide), if_neg (by decide)]
theorem seM1 (p q r : Int32) : zseM 0 p q r = p := if_pos rfl
theorem seM2 (p q r : Int32) : zseM 1 p q r = q := by unfold zseM; rw [if_neg (by decide), if_pos rfl]
theorem seM3 (p q r : Int32) : zseM 2 p q r = r := by unfold zseM; rw [if_neg (by decide), if_neg (by decide)]
theorem ts0 (v n : Int32) : zTs v n 0 = decide (v < n) := if_pos rfl
theorem ts1 (v n : Int32) : zTs v n 1 = decide (n < v) := if_neg (by decide)
theorem tm0 (v n : Int32) : zTm v n 0 = decide (n < v) := if_pos rfl
theorem tm1 (v n : Int32) : zTm v n 1 = decide (v < n) := if_neg (by decide)
theorem zhd_c {T T' O O' : Nat → Bool} : ∀ (n t : Nat) (al : Bool), (∀ j, t ≤ j → j < t + n → T j = T' j ∧ O j = O' j) → zhd T O n t al = zhd T' O' n t al
  | 0, t, al, _ => rfl
  | n + 1, t, al, h => by
    have h0 := h t (Nat.le_refl _) (by omega)
    have ih : ∀ al, zhd T O n (t + 1) al = zhd T' O' n (t + 1) al := fun al => zhd_c n (t + 1) al (fun j q1 q2 => h j (by omega) (by omega))
    unfold zhd
    rw [h0.1, h0.2, ih, ih]
theorem zra_c {C C' : Nat → Bool} {ir ir' : Nat → Int32} : ∀ (n i : Nat) (g : Int32), (∀ j, i ≤ j → j < i + n → C j = C' j ∧ ir j = ir' j) → zra C ir n i g = zra C' ir' n i g
  | 0, i, g, _ => rfl
  | n + 1, i, g, h => by
    have h0 := h i (Nat.le_refl _) (by omega)
    unfold zra
    rw [h0.1, h0.2]
    exact zra_c n (i + 1) _ (fun j q1 q2 => h j (by omega) (by omega))
/-- the ration of an hour, as both have it -/
theorem ration_eq {ru te ifs re bo : Int32} {ts ta tn tf ie ir : Nat → Int32} {ru' re' bo' ifs' : Int32} {iF iR tW tL tV tO : Nat → Int32} (hB : IBook ru te ifs re bo ts ta tn tf ie ir ru' re' bo' ifs' iF iR tW tL tV tO) : ∃ (I : Nat) (F : Nat → Nat), ifs = nI I ∧ ifs' = nI I ∧ I ≤ 20 ∧ F 0 = 0 ∧ (∀ i, i < I → F i ≤ F (i + 1) ∧ ie i = nI (F (i + 1))) ∧ (∀ i, i ≤ I → F i ≤ 60) ∧ (∀ i, i ≤ I → iF i = nI (F i) ∧ F i ≤ 60) ∧ ∀ wv cv hv : Int32, zra (fun i => zhd (fun j => zTs (zsee (ts j) wv cv hv) (tn j) (ta j)) (fun j => decide (¬ tf j = 0)) (F (i + 1) - F i) (F i) true) ir I 0 0 = zra (fun i => zhm (fun j => zTm (zseM (tW j) wv cv hv) (tV j) (tL j)) (fun j => decide (¬ tO j = 0)) (F (i + 1) - F i) (F i) false true) iR I 0 0 := by
  obtain ⟨⟨e1, e2, e3, e4⟩, -, -, -, I, F, h1, h2, h3, h4, h5, h6⟩ := hB
  have mono : ∀ n i, i + n ≤ I → F i ≤ F (i + n) := by
    intro n
    induction n with
    | zero => intro i _; exact Nat.le_refl _
    | succ n ih => intro i hi; exact Nat.le_trans (ih i (by omega)) (h5 (i + n) (by omega)).1
  refine ⟨I, F, h2, by rw [← e4]; exact h2, h1, h3, fun i hi => ⟨(h5 i hi).1, (h5 i hi).2.1⟩, fun i hi => (h4 i hi).2, h4, fun wv cv hv => ?_⟩
  refine zra_c I 0 0 (fun i _ hi => ⟨?_, (h5 i (by omega)).2.2.1⟩)
  rw [zhm_hd]
  refine zhd_c _ _ _ (fun j q1 q2 => ?_)
  have hm := mono (I - (i + 1)) (i + 1) (by omega)
  rw [show i + 1 + (I - (i + 1)) = I by omega] at hm
  have hF := (h5 i (by omega)).1
  obtain ⟨g1, g2, g3, -, g4, -⟩ := h6 j (by omega)
  refine ⟨?_, by rw [g4]⟩
  rw [g3]
  rcases g1 with ⟨x1, x2⟩ | ⟨x1, x2⟩ | ⟨x1, x2⟩ <;> rcases g2 with ⟨x3, x4⟩ | ⟨x3, x4⟩ <;> rw [x1, x2, x3, x4] <;> simp only [see1, see2, see3, seM1, seM2, seM3, ts0, ts1, tm0, tm1]
theorem L_hour (x y : Int32) : zLaw 77 112 [.int x, .int y] := by
  intro s a w t b u c hI
  have hI0 := hI
  obtain ⟨i1, i2, i3, i4, i5, i6, i7, i8, i9, i10⟩ := hI
  have fin : ∀ v v' : Int32, v = v' → zPost (some (.int v)) (some (.int v')) (HX s a w ++ HM (va_up t 0 0) b u c) := by
    intro v v' e
    subst e
    exact ⟨_, rfl, rfl, _, _, _, _, _, _, _, rfl, hI0⟩
  have e3 := i3.2.2.1
  have e4 := i3.2.2.2.1
  by_cases hx : 0 ≤ x.toInt ∧ x.toInt ≤ 2399
  · have hcx := cl_int x hx.1
    have ex := nI_cl x hx.1
    have hk : x.toNatClampNeg < 2400 := by omega
    generalize x.toNatClampNeg = k at *
    subst ex
    cases w with
    | false =>
      obtain ⟨I, F, r1, r2, r3, r4, r5, r6, r7, r8⟩ := ration_eq (i8 rfl)
      have r9 := r8 (b 0 k) (b 2 k) (nI (k % 24))
      refine x_hourA (d := 6) i2 hk r1 r3 r4 r5 r6 (fun c1 => ?_) (fun c1 => ?_) (fun c1 => ?_) (fun c1 => ?_) (fun c1 => ?_) (fun c1 => ?_) (fun c1 => ?_)
      · refine y_hour (d := 8) i2 hk r2 r3 (fun i hi => (r5 i hi).1) r7 (fun c2 => fin _ _ rfl) (fun c2 => by omega) (fun c2 => by omega) (fun c2 => by omega) (fun c2 => by omega) (fun c2 => by omega) (fun c2 => by omega)
      · refine y_hour (d := 8) i2 hk r2 r3 (fun i hi => (r5 i hi).1) r7 (fun c2 => by omega) (fun c2 => fin _ _ rfl) (fun c2 => by omega) (fun c2 => by omega) (fun c2 => by omega) (fun c2 => by omega) (fun c2 => by omega)
      · refine y_hour (d := 8) i2 hk r2 r3 (fun i hi => (r5 i hi).1) r7 (fun c2 => by omega) (fun c2 => by omega) (fun c2 => fin _ _ rfl) (fun c2 => by omega) (fun c2 => by omega) (fun c2 => by omega) (fun c2 => by omega)
      · refine y_hour (d := 8) i2 hk r2 r3 (fun i hi => (r5 i hi).1) r7 (fun c2 => by omega) (fun c2 => by omega) (fun c2 => by omega) (fun c2 => fin _ _ r9) (fun c2 => by omega) (fun c2 => by omega) (fun c2 => by omega)
      · refine y_hour (d := 8) i2 hk r2 r3 (fun i hi => (r5 i hi).1) r7 (fun c2 => by omega) (fun c2 => by omega) (fun c2 => by omega) (fun c2 => by omega) (fun c2 => fin _ _ (by rw [r9, e4])) (fun c2 => by omega) (fun c2 => by omega)
      · refine y_hour (d := 8) i2 hk r2 r3 (fun i hi => (r5 i hi).1) r7 (fun c2 => by omega) (fun c2 => by omega) (fun c2 => by omega) (fun c2 => by omega) (fun c2 => by omega) (fun c2 => fin _ _ (congrFun e3 _)) (fun c2 => by omega)
      · refine y_hour (d := 8) i2 hk r2 r3 (fun i hi => (r5 i hi).1) r7 (fun c2 => by omega) (fun c2 => by omega) (fun c2 => by omega) (fun c2 => by omega) (fun c2 => by omega) (fun c2 => by omega) (fun c2 => fin _ _ rfl)
    | true =>
      obtain ⟨I, F, r1, r2, r3, r4, r5, r6, r7, r8⟩ := ration_eq (i9 rfl)
      have r9 := r8 (b 0 k) (b 2 k) (nI (k % 24))
      refine x_hourB (d := 6) i2 hk r1 r3 r4 r5 r6 (fun c1 => ?_) (fun c1 => ?_) (fun c1 => ?_) (fun c1 => ?_) (fun c1 => ?_) (fun c1 => ?_) (fun c1 => ?_)
      · refine y_hour (d := 8) i2 hk r2 r3 (fun i hi => (r5 i hi).1) r7 (fun c2 => fin _ _ rfl) (fun c2 => by omega) (fun c2 => by omega) (fun c2 => by omega) (fun c2 => by omega) (fun c2 => by omega) (fun c2 => by omega)
      · refine y_hour (d := 8) i2 hk r2 r3 (fun i hi => (r5 i hi).1) r7 (fun c2 => by omega) (fun c2 => fin _ _ rfl) (fun c2 => by omega) (fun c2 => by omega) (fun c2 => by omega) (fun c2 => by omega) (fun c2 => by omega)
      · refine y_hour (d := 8) i2 hk r2 r3 (fun i hi => (r5 i hi).1) r7 (fun c2 => by omega) (fun c2 => by omega) (fun c2 => fin _ _ rfl) (fun c2 => by omega) (fun c2 => by omega) (fun c2 => by omega) (fun c2 => by omega)
      · refine y_hour (d := 8) i2 hk r2 r3 (fun i hi => (r5 i hi).1) r7 (fun c2 => by omega) (fun c2 => by omega) (fun c2 => by omega) (fun c2 => fin _ _ r9) (fun c2 => by omega) (fun c2 => by omega) (fun c2 => by omega)
      · refine y_hour (d := 8) i2 hk r2 r3 (fun i hi => (r5 i hi).1) r7 (fun c2 => by omega) (fun c2 => by omega) (fun c2 => by omega) (fun c2 => by omega) (fun c2 => fin _ _ (by rw [r9, e4])) (fun c2 => by omega) (fun c2 => by omega)
      · refine y_hour (d := 8) i2 hk r2 r3 (fun i hi => (r5 i hi).1) r7 (fun c2 => by omega) (fun c2 => by omega) (fun c2 => by omega) (fun c2 => by omega) (fun c2 => by omega) (fun c2 => fin _ _ (congrFun e3 _)) (fun c2 => by omega)
      · refine y_hour (d := 8) i2 hk r2 r3 (fun i hi => (r5 i hi).1) r7 (fun c2 => by omega) (fun c2 => by omega) (fun c2 => by omega) (fun c2 => by omega) (fun c2 => by omega) (fun c2 => by omega) (fun c2 => fin _ _ rfl)
  · refine g_77 (Nat.le_of_ble_eq_true rfl) ?_
    intro X0 hX0
    iterate 2 refine hX0 _ _ _ _ ?_
    refine r_isHour (fun c1 => absurd c1 hx) (fun c1 => ?_)
    refine hX0 _ _ _ _ ?_
    refine And.intro (fun c => absurd c (by decide)) (fun _ => ?_)
    iterate 2 refine hX0 _ _ _ _ ?_
    refine g_112 (Nat.le_of_ble_eq_true rfl) ?_
    intro X1 hX1
    iterate 3 refine hX1 _ _ _ _ ?_
    refine zcast (X := X1) yt_0 ?_
    iterate 2 refine hX1 _ _ _ _ ?_
    refine r_isHourM (fun c2 => absurd c2 hx) (fun c2 => ?_)
    refine hX1 _ _ _ _ ?_
    refine And.intro (fun c => absurd c (by decide)) (fun _ => ?_)
    iterate 2 refine hX1 _ _ _ _ ?_
    exact fin _ _ rfl
