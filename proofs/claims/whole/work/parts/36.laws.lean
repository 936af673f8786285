theorem L_weather (x y z v r : Int32) (hv : v = 0 ∨ v = 1) : zLaw 76 108 [.int x, .int y, .int z, .int v, .int r] := by
  intro s a w t b u c hI
  obtain ⟨i1, i2, i3, i4, i5, i6, i7, i8, i9, i10⟩ := hI
  refine x_weather (d := 8) (fun c1 => ?_) (fun c1 => ?_)
  · refine y_weather (d := 9) hv (fun c2 => ?_) (fun c2 => absurd c2 c1)
    exact ⟨_, rfl, rfl, _, _, _, _, _, _, _, rfl, ⟨i1.1, i1.2.1, rfl, i1.2.2.2⟩, i2, i3, i4, i5, i6, i7, i8, i9, i10⟩
  · refine y_weather (d := 9) hv (fun c2 => absurd c1 c2) (fun c2 => ?_)
    refine ⟨_, rfl, rfl, _, _, _, _, _, _, _, rfl, ⟨i1.1, i1.2.1, rfl, i1.2.2.2⟩, ?_, i3, i4, i5, i6, i7, i8, i9, i10⟩
    intro h hh
    show (0 ≤ (zfill (b 0) x.toNatClampNeg (y.toNatClampNeg + 1) z h).toInt ∧ (zfill (b 0) x.toNatClampNeg (y.toNatClampNeg + 1) z h).toInt ≤ 60) ∧ (zfill (b 1) x.toNatClampNeg (y.toNatClampNeg + 1) v h = 0 ∨ zfill (b 1) x.toNatClampNeg (y.toNatClampNeg + 1) v h = 1) ∧ (-90 ≤ (zfill (b 2) x.toNatClampNeg (y.toNatClampNeg + 1) r h).toInt ∧ (zfill (b 2) x.toNatClampNeg (y.toNatClampNeg + 1) r h).toInt ≤ 20) ∧ zfill (a 0) x.toNatClampNeg (y.toNatClampNeg + 1) (zpk z v r) h = zpk (zfill (b 0) x.toNatClampNeg (y.toNatClampNeg + 1) z h) (zfill (b 1) x.toNatClampNeg (y.toNatClampNeg + 1) v h) (zfill (b 2) x.toNatClampNeg (y.toNatClampNeg + 1) r h)
    simp only [zfill]
    by_cases hc : x.toNatClampNeg ≤ h ∧ h < y.toNatClampNeg + 1
    · simp only [if_pos hc]
      exact ⟨⟨by omega, by omega⟩, hv, ⟨by omega, by omega⟩, trivial⟩
    · simp only [if_neg hc]
      exact i2 h hh
theorem L_land (x : Int32) : zLaw 102 155 [.int x] := by
  intro s a w t b u c hI
  have hI0 := hI
  obtain ⟨i1, i2, i3, i4, i5, i6, i7, i8, i9, i10⟩ := hI
  have fin : ∀ v v' : Int32, v = v' → zPost (some (.int v)) (some (.int v')) (HX s a w ++ HM (va_up t 0 0) b u c) := by
    intro v v' e
    subst e
    exact ⟨_, rfl, rfl, _, _, _, _, _, _, _, rfl, hI0⟩
  have inj : ∀ p q : Nat, p < 2400 → q < 2400 → x = nI p → x = nI q → p = q := fun p q h1 h2 e1 e2 => (nI_eq (by omega) (by omega)).mp (e1.symm.trans e2)
  have rng : ∀ p : Nat, p < 2400 → x = nI p → 0 ≤ x.toInt ∧ x.toInt ≤ 2399 := by
    intro p h1 e
    rw [e, nI_toInt (by omega)]
    omega
  refine x_land (d := 8) i2 (fun c1 => ?_) (fun p h hp ep hl => ?_) (fun p hp ep hl => ?_)
  · refine y_land (d := 9) i2 (fun c2 => fin _ _ rfl) (fun p h hp ep hl => absurd (rng p hp ep) c1) (fun p hp ep hl => absurd (rng p hp ep) c1)
  · refine y_land (d := 9) i2 (fun c2 => absurd (rng p hp ep) c2) (fun q h2 hq eq hm => ?_) (fun q hq eq hm => ?_)
    · have := inj p q hp hq ep eq
      subst this
      exact fin _ _ (by rw [zland_one hl hm])
    · have := inj p q hp hq ep eq
      subst this
      exact (zland_no hl hm).elim
  · refine y_land (d := 9) i2 (fun c2 => absurd (rng p hp ep) c2) (fun q h2 hq eq hm => ?_) (fun q hq eq hm => ?_)
    · have := inj p q hp hq ep eq
      subst this
      exact (zland_no hm hl).elim
    · exact fin _ _ rfl
