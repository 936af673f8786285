theorem zsum_c {f g : Nat → Int32} {st st' : Nat} : ∀ {E : Nat}, (∀ e, e < E → f e = g e ∧ st.testBit e = st'.testBit e) → zsum f st E = zsum g st' E
  | 0, _ => rfl
  | E + 1, h => by
    unfold zsum
    rw [zsum_c (fun e he => h e (by omega)), (h E (by omega)).1, (h E (by omega)).2]
theorem zsum_up (f : Nat → Int32) (v : Int32) {F : Nat → Int32} {E st : Nat} (h : ∀ k, k < 2 ^ E → F k = zsum f k E) (hst : st < 2 ^ (E + 1)) : zdb F (2 ^ E) (2 ^ E) v st = zsum (upd f E v) st (E + 1) := by
  have hp : 2 ^ (E + 1) = 2 ^ E + 2 ^ E := by rw [Nat.pow_succ]; omega
  unfold zsum
  by_cases hlo : st < 2 ^ E
  · rw [zdb_lo _ _ hlo, h st hlo]
    have hb : st.testBit E = false := Nat.testBit_lt_two_pow hlo
    rw [hb]
    have e1 : zsum f st E = zsum (upd f E v) st E := zsum_c (fun e he => ⟨by rw [upd_at, if_neg (by omega)], rfl⟩)
    rw [e1]
    simp
  · have es : st = 2 ^ E + (st - 2 ^ E) := by omega
    have hb : st.testBit E = true := by
      rw [es, Nat.testBit_two_pow_add_eq, Nat.testBit_lt_two_pow (by omega)]
      rfl
    rw [hb, if_pos rfl, upd_at, if_pos rfl]
    simp only [zdb]
    rw [if_pos (by omega), h _ (by omega)]
    congr 1
    refine zsum_c (fun e he => ⟨by rw [upd_at, if_neg (by omega)], ?_⟩)
    conv => rhs; rw [es]
    rw [Nat.testBit_two_pow_add_gt he]
theorem L_engine (x y z : Int32) : zLaw 78 113 [.int x, .int y, .int z] := by
  intro s a w t b u c hI
  obtain ⟨i1, i2, i3, i4, i5, i6, i7, i8, i9, i10⟩ := hI
  have i3' := i3
  obtain ⟨e1, e2, e3, e4, e5, e6, E, hE, f1, ⟨r, hr, f2⟩, f3, f4⟩ := i3
  have ft : t 7 = nI E := by rw [← e1]; exact f1
  have hEI : (t 7).toInt = (E : Int) := by rw [ft, nI_toInt (by omega)]
  have keep : ∀ v : Int32, Inv (va_up s 2 v) a w (va_up (va_up t 0 0) 1 v) b u := fun v => ⟨⟨i1.1, i1.2.1, rfl, i1.2.2.2⟩, i2, i3', i4, i5, i6, i7, i8, i9, i10⟩
  refine x_engine (d := 9) hE f1 (fun c1 => ?_) (fun c1 c2 => ?_) (fun c1 c2 => ?_)
  · refine y_engine (d := 10) (by omega) (fun d1 => ?_) (fun d1 => absurd d1.1 c1) (fun d1 => absurd d1.1 c1)
    exact ⟨_, rfl, rfl, _, _, _, _, _, _, _, rfl, keep _⟩
  · refine y_engine (d := 10) (by omega) (fun d1 => absurd c1 d1) (fun d1 => ?_) (fun d1 => by omega)
    exact ⟨_, rfl, rfl, _, _, _, _, _, _, _, rfl, keep _⟩
  · refine y_engine (d := 10) (by omega) (fun d1 => absurd c1 d1) (fun d1 => by omega) (fun d1 => ?_)
    have hcl : (t 7).toNatClampNeg = E := by rw [ft, nI_clamp (by omega)]
    have ev : t 7 + 1 - 1 = nI E := by rw [p1m1, ft]
    have ev1 : t 7 + 1 = nI (E + 1) := by rw [ft, nI_1]
    refine ⟨_, rfl, by rw [ev], _, _, _, _, _, _, _, rfl, ⟨i1.1, i1.2.1, (show zcode (nI E) = zcode (t 7 + 1 - 1) by rw [ev]), i1.2.2.2⟩, i2, ⟨(show nI (E + 1) = t 7 + 1 by rw [ev1]), e2, e3, e4, e5, e6, E + 1, by omega, (rfl : nI (E + 1) = nI (E + 1)), ⟨r, ?_, f2⟩, ?_, ?_⟩, i4, i5, i6, i7, i8, i9, i10⟩
    · have : 2 ^ (E + 1) = 2 ^ E + 2 ^ E := by rw [Nat.pow_succ]; omega
      omega
    · intro e he
      show (1 ≤ (upd (b 9) (t 7).toNatClampNeg x e).toInt ∧ (upd (b 9) (t 7).toNatClampNeg x e).toInt ≤ 1000) ∧ (0 ≤ (upd (b 10) (t 7).toNatClampNeg y e).toInt ∧ (upd (b 10) (t 7).toNatClampNeg y e).toInt ≤ 1000) ∧ (0 ≤ (upd (b 11) (t 7).toNatClampNeg z e).toInt ∧ (upd (b 11) (t 7).toNatClampNeg z e).toInt ≤ 1000)
      rw [hcl]
      simp only [upd_at]
      by_cases hk : e = E
      · simp only [if_pos hk]
        omega
      · simp only [if_neg hk]
        exact f3 e (by omega)
    · intro st hst
      show zdb (a 1) (2 ^ E) (2 ^ E) x st = zsum (upd (b 9) (t 7).toNatClampNeg x) st (E + 1) ∧ zdb (a 2) (2 ^ E) (2 ^ E) y st = zsum (upd (b 10) (t 7).toNatClampNeg y) st (E + 1) ∧ zdb (a 3) (2 ^ E) (2 ^ E) z st = zsum (upd (b 11) (t 7).toNatClampNeg z) st (E + 1)
      rw [hcl]
      exact ⟨zsum_up (b 9) x (fun k hk => (f4 k hk).1) hst, zsum_up (b 10) y (fun k hk => (f4 k hk).2.1) hst, zsum_up (b 11) z (fun k hk => (f4 k hk).2.2) hst⟩
