theorem byte_low (x : Int32) : (x &&& 255).toInt8 = x.toInt8 := by
  apply Int8.toBitVec_inj.1
  apply BitVec.eq_of_getLsbD_eq
  intro i hi
  have h2 : (255 : Int32).toBitVec.getLsbD i = true := by
    have : ∀ j : Fin 8, (255 : Int32).toBitVec.getLsbD j.val = true := by decide +kernel
    exact this ⟨i, hi⟩
  have h4 : (x &&& 255).toBitVec.getLsbD i = x.toBitVec.getLsbD i := by
    show (x.toBitVec &&& (255 : Int32).toBitVec).getLsbD i = _
    rw [BitVec.getLsbD_and, h2, Bool.and_true]
  have h3 : i < 32 := by omega
  first
    | (show (((x &&& 255).toBitVec).signExtend 8).getLsbD i = (x.toBitVec.signExtend 8).getLsbD i; rw [BitVec.getLsbD_signExtend, BitVec.getLsbD_signExtend, if_pos h3, if_pos h3, h4])
    | (show (((x &&& 255).toBitVec).setWidth 8).getLsbD i = (x.toBitVec.setWidth 8).getLsbD i; rw [BitVec.getLsbD_setWidth, BitVec.getLsbD_setWidth, h4])
    | (simp [hi, h3, h4]; done)
theorem byte_rng (x : Int32) : 0 ≤ (x &&& 255).toInt ∧ (x &&& 255).toInt ≤ 255 := by
  obtain ⟨j, h1, h2⟩ := pk_andE x (m := 255) 8 (by decide)
  rw [h2, nI_toInt (by omega)]
  omega
def zTp (f g : Nat → Int32) : Prop := ∀ i, (0 ≤ (g i).toInt ∧ (g i).toInt ≤ 255) ∧ f i = (g i).toInt8.toInt32
theorem tape1 {f g : Nat → Int32} (h : zTp f g) (k : Nat) (y : Int32) : zTp (upd f k (vp_nar .byte y.toInt8.toInt32)) (upd g k (y &&& 255)) := by
  intro i
  simp only [upd_at]
  by_cases hi : i = k
  · simp only [if_pos hi]
    exact ⟨byte_rng y, by rw [pk_vb, byte_low]⟩
  · simp only [if_neg hi]
    exact h i
theorem tape4 {f g : Nat → Int32} (h : zTp f g) (n x : Int32) : zTp (zap f n x) (zaq g n x) := tape1 (tape1 (tape1 (tape1 h _ _) _ _) _ _) _ _
theorem L_feed (x y z v r : Int32) : zLaw 92 134 [.int x, .int y, .int z, .int v, .int r] := by
  intro s a w t b u c hI
  have hI0 := hI
  obtain ⟨i1, i2, i3, i4, i5, i6, i7, i8, i9, i10⟩ := hI
  obtain ⟨e1, e2, e3, e4⟩ := i7
  have et : (s 13).toInt = (t 15).toInt := by rw [e1]
  refine x_feed (d := 10) ⟨e2, e3⟩ (fun c1 => ?_) (fun c1 => ?_)
  · refine y_feed (d := 10) (by omega) (fun c2 => ?_) (fun c2 => by omega)
    exact ⟨_, rfl, rfl, _, _, _, _, _, _, _, rfl, hI0⟩
  · refine y_feed (d := 10) (by omega) (fun c2 => by omega) (fun c2 => ?_)
    have f0 := zn4_int (s 13) (by omega)
    have f1 := zn4_int (zn4 (s 13)) (by omega)
    have f2 := zn4_int (zn4 (zn4 (s 13))) (by omega)
    have f3 := zn4_int (zn4 (zn4 (zn4 (s 13)))) (by omega)
    have f4 := zn4_int (zn4 (zn4 (zn4 (zn4 (s 13))))) (by omega)
    refine ⟨_, rfl, by rw [e1], _, _, _, _, _, _, _, rfl, i1, i2, i3, i4, i5, i6, ⟨(show zn4 (zn4 (zn4 (zn4 (zn4 (s 13))))) = zn4 (zn4 (zn4 (zn4 (zn4 (t 15))))) by rw [e1]), (show 0 ≤ (zn4 (zn4 (zn4 (zn4 (zn4 (s 13)))))).toInt by omega), (show (zn4 (zn4 (zn4 (zn4 (zn4 (s 13)))))).toInt ≤ 400 by omega), ?_⟩, i8, i9, i10⟩
    show zTp (zap (zap (zap (zap (zap (a 23) (s 13) x) (zn4 (s 13)) y) (zn4 (zn4 (s 13))) z) (zn4 (zn4 (zn4 (s 13)))) v) (zn4 (zn4 (zn4 (zn4 (s 13))))) r) (zaq (zaq (zaq (zaq (zaq (b 29) (t 15) x) (zn4 (t 15)) y) (zn4 (zn4 (t 15))) z) (zn4 (zn4 (zn4 (t 15)))) v) (zn4 (zn4 (zn4 (zn4 (t 15))))) r)
    rw [e1]
    exact tape4 (tape4 (tape4 (tape4 (tape4 e4 _ _) _ _) _ _) _ _) _ _
theorem L_count (x : Int32) : zLaw 103 156 [.int x] := by
  intro s a w t b u c hI
  have hI0 := hI
  obtain ⟨i1, i2, i3, i4, i5, i6, i7, i8, i9, i10⟩ := hI
  have fin : ∀ v v' : Int32, v = v' → zPost (some (.int v)) (some (.int v')) (HX s a w ++ HM (va_up t 0 0) b u c) := by
    intro v v' e
    subst e
    exact ⟨_, rfl, rfl, _, _, _, _, _, _, _, rfl, hI0⟩
  have hb : s 7 = 0 + b 18 0 + b 18 1 + b 18 2 + b 18 3 + b 18 4 + b 18 5 := by
    obtain ⟨e1, e2, e3, e4, e5⟩ := i5
    rw [← e2]
    have q0 := e4 0 (by omega); have q1 := e4 1 (by omega); have q2 := e4 2 (by omega); have q3 := e4 3 (by omega); have q4 := e4 4 (by omega); have q5 := e4 5 (by omega)
    have z0 : (0 : Int32).toInt = 0 := rfl
    have h0 : (0 + a 12 0).toInt = (a 12 0).toInt := by rw [i32_add (by omega)]; omega
    have h1 : (0 + a 12 0 + a 12 1).toInt = (a 12 0).toInt + (a 12 1).toInt := by rw [i32_add (by omega)]; omega
    have h2 : (0 + a 12 0 + a 12 1 + a 12 2).toInt = (a 12 0).toInt + (a 12 1).toInt + (a 12 2).toInt := by rw [i32_add (by omega)]; omega
    have h3 : (0 + a 12 0 + a 12 1 + a 12 2 + a 12 3).toInt = (a 12 0).toInt + (a 12 1).toInt + (a 12 2).toInt + (a 12 3).toInt := by rw [i32_add (by omega)]; omega
    have h4 : (0 + a 12 0 + a 12 1 + a 12 2 + a 12 3 + a 12 4).toInt = (a 12 0).toInt + (a 12 1).toInt + (a 12 2).toInt + (a 12 3).toInt + (a 12 4).toInt := by rw [i32_add (by omega)]; omega
    have h5 : (0 + a 12 0 + a 12 1 + a 12 2 + a 12 3 + a 12 4 + a 12 5).toInt = (a 12 0).toInt + (a 12 1).toInt + (a 12 2).toInt + (a 12 3).toInt + (a 12 4).toInt + (a 12 5).toInt := by rw [i32_add (by omega)]; omega
    rw [← Int32.toInt_inj, h5, e5]
  have hw6 : (if w then s 28 else s 23) = t 3 := by
    cases w with
    | false => exact (i8 rfl).1.1
    | true => exact (i9 rfl).1.1
  have hw11 : (if w then s 31 else s 26) = t 4 := by
    cases w with
    | false => exact (i8 rfl).1.2.1
    | true => exact (i9 rfl).1.2.1
  have hw12 : (if w then s 32 else s 27) = t 5 := by
    cases w with
    | false => exact (i8 rfl).1.2.2.1
    | true => exact (i9 rfl).1.2.2.1
  refine x_count (d := 11) (fun c1 => ?_) (fun c1 => ?_) (fun c1 => ?_) (fun c1 => ?_) (fun c1 => ?_) (fun c1 => ?_) (fun c1 => ?_) (fun c1 => ?_) (fun c1 => ?_) (fun c1 => ?_) (fun c1 => ?_) (fun c1 => ?_) (fun c1 => ?_) (fun c1 => ?_)
  · refine y_count (d := 11) (fun c2 => fin _ _ rfl) (fun c2 => by omega) (fun c2 => by omega) (fun c2 => by omega) (fun c2 => by omega) (fun c2 => by omega) (fun c2 => by omega) (fun c2 => by omega) (fun c2 => by omega) (fun c2 => by omega) (fun c2 => by omega) (fun c2 => by omega) (fun c2 => by omega) (fun c2 => by omega)
  · refine y_count (d := 11) (fun c2 => by omega) (fun c2 => fin _ _ i1.1) (fun c2 => by omega) (fun c2 => by omega) (fun c2 => by omega) (fun c2 => by omega) (fun c2 => by omega) (fun c2 => by omega) (fun c2 => by omega) (fun c2 => by omega) (fun c2 => by omega) (fun c2 => by omega) (fun c2 => by omega) (fun c2 => by omega)
  · refine y_count (d := 11) (fun c2 => by omega) (fun c2 => by omega) (fun c2 => fin _ _ i3.1) (fun c2 => by omega) (fun c2 => by omega) (fun c2 => by omega) (fun c2 => by omega) (fun c2 => by omega) (fun c2 => by omega) (fun c2 => by omega) (fun c2 => by omega) (fun c2 => by omega) (fun c2 => by omega) (fun c2 => by omega)
  · refine y_count (d := 11) (fun c2 => by omega) (fun c2 => by omega) (fun c2 => by omega) (fun c2 => fin _ _ hb) (fun c2 => by omega) (fun c2 => by omega) (fun c2 => by omega) (fun c2 => by omega) (fun c2 => by omega) (fun c2 => by omega) (fun c2 => by omega) (fun c2 => by omega) (fun c2 => by omega) (fun c2 => by omega)
  · refine y_count (d := 11) (fun c2 => by omega) (fun c2 => by omega) (fun c2 => by omega) (fun c2 => by omega) (fun c2 => fin _ _ i5.2.2.1) (fun c2 => by omega) (fun c2 => by omega) (fun c2 => by omega) (fun c2 => by omega) (fun c2 => by omega) (fun c2 => by omega) (fun c2 => by omega) (fun c2 => by omega) (fun c2 => by omega)
  · refine y_count (d := 11) (fun c2 => by omega) (fun c2 => by omega) (fun c2 => by omega) (fun c2 => by omega) (fun c2 => by omega) (fun c2 => fin _ _ i6.1.1) (fun c2 => by omega) (fun c2 => by omega) (fun c2 => by omega) (fun c2 => by omega) (fun c2 => by omega) (fun c2 => by omega) (fun c2 => by omega) (fun c2 => by omega)
  · refine y_count (d := 11) (fun c2 => by omega) (fun c2 => by omega) (fun c2 => by omega) (fun c2 => by omega) (fun c2 => by omega) (fun c2 => by omega) (fun c2 => fin _ _ i6.1.2.2.1) (fun c2 => by omega) (fun c2 => by omega) (fun c2 => by omega) (fun c2 => by omega) (fun c2 => by omega) (fun c2 => by omega) (fun c2 => by omega)
  · refine y_count (d := 11) (fun c2 => by omega) (fun c2 => by omega) (fun c2 => by omega) (fun c2 => by omega) (fun c2 => by omega) (fun c2 => by omega) (fun c2 => by omega) (fun c2 => fin _ _ hw6) (fun c2 => by omega) (fun c2 => by omega) (fun c2 => by omega) (fun c2 => by omega) (fun c2 => by omega) (fun c2 => by omega)
  · refine y_count (d := 11) (fun c2 => by omega) (fun c2 => by omega) (fun c2 => by omega) (fun c2 => by omega) (fun c2 => by omega) (fun c2 => by omega) (fun c2 => by omega) (fun c2 => by omega) (fun c2 => fin _ _ i10.1.2.2.2.1) (fun c2 => by omega) (fun c2 => by omega) (fun c2 => by omega) (fun c2 => by omega) (fun c2 => by omega)
  · refine y_count (d := 11) (fun c2 => by omega) (fun c2 => by omega) (fun c2 => by omega) (fun c2 => by omega) (fun c2 => by omega) (fun c2 => by omega) (fun c2 => by omega) (fun c2 => by omega) (fun c2 => by omega) (fun c2 => fin _ _ i10.1.2.2.2.2.1) (fun c2 => by omega) (fun c2 => by omega) (fun c2 => by omega) (fun c2 => by omega)
  · refine y_count (d := 11) (fun c2 => by omega) (fun c2 => by omega) (fun c2 => by omega) (fun c2 => by omega) (fun c2 => by omega) (fun c2 => by omega) (fun c2 => by omega) (fun c2 => by omega) (fun c2 => by omega) (fun c2 => by omega) (fun c2 => fin _ _ i10.1.2.2.2.2.2) (fun c2 => by omega) (fun c2 => by omega) (fun c2 => by omega)
  · refine y_count (d := 11) (fun c2 => by omega) (fun c2 => by omega) (fun c2 => by omega) (fun c2 => by omega) (fun c2 => by omega) (fun c2 => by omega) (fun c2 => by omega) (fun c2 => by omega) (fun c2 => by omega) (fun c2 => by omega) (fun c2 => by omega) (fun c2 => fin _ _ i7.1) (fun c2 => by omega) (fun c2 => by omega)
  · refine y_count (d := 11) (fun c2 => by omega) (fun c2 => by omega) (fun c2 => by omega) (fun c2 => by omega) (fun c2 => by omega) (fun c2 => by omega) (fun c2 => by omega) (fun c2 => by omega) (fun c2 => by omega) (fun c2 => by omega) (fun c2 => by omega) (fun c2 => by omega) (fun c2 => fin _ _ hw11) (fun c2 => by omega)
  · refine y_count (d := 11) (fun c2 => by omega) (fun c2 => by omega) (fun c2 => by omega) (fun c2 => by omega) (fun c2 => by omega) (fun c2 => by omega) (fun c2 => by omega) (fun c2 => by omega) (fun c2 => by omega) (fun c2 => by omega) (fun c2 => by omega) (fun c2 => by omega) (fun c2 => by omega) (fun c2 => fin _ _ hw12)
theorem mask32 (E : Nat) (h : E ≤ 4) : ((1 : Int32) <<< (nI E &&& 31) - 1).toInt = 2 ^ E - 1 ∧ ((1 : Int64) <<< ((nI E).toInt64 &&& 63) - 1).toInt = 2 ^ E - 1 := by
  have : ∀ k : Fin 5, ((1 : Int32) <<< (nI k.val &&& 31) - 1).toInt = 2 ^ k.val - 1 ∧ ((1 : Int64) <<< ((nI k.val).toInt64 &&& 63) - 1).toInt = 2 ^ k.val - 1 := by decide
  exact this ⟨E, by omega⟩
theorem L_on (x : Int32) : zLaw 81 116 [.int x] := by
  intro s a w t b u c hI
  obtain ⟨i1, i2, i3, i4, i5, i6, i7, i8, i9, i10⟩ := hI
  have i3' := i3
  obtain ⟨e1, e2, e3, e4, e5, e6, E, hE, f1, f2, f3, f4⟩ := i3
  obtain ⟨m1, m2⟩ := mask32 E hE
  have k1 : ((1 : Int32) <<< (s 6 &&& 31) - 1).toInt = ((1 : Int64) <<< ((t 7).toInt64 &&& 63) - 1).toInt := by rw [← e1, f1, m1, m2]
  refine x_on (d := 9) (fun c1 => ?_) (fun c1 => ?_)
  · refine y_on (d := 10) (fun c2 => ?_) (fun c2 => by omega)
    exact ⟨_, rfl, rfl, _, _, _, _, _, _, _, rfl, ⟨i1.1, i1.2.1, rfl, i1.2.2.2⟩, i2, i3', i4, i5, i6, i7, i8, i9, i10⟩
  · refine y_on (d := 10) (fun c2 => by omega) (fun c2 => ?_)
    refine ⟨_, rfl, by rw [e2], _, _, _, _, _, _, _, rfl, ⟨i1.1, i1.2.1, (show zcode (s 5) = zcode (t 8) by rw [e2]), i1.2.2.2⟩, i2, ⟨e1, (rfl : x = x), e3, e4, e5, e6, E, hE, f1, ⟨x.toNatClampNeg, ?_, ?_⟩, f3, f4⟩, i4, i5, i6, i7, i8, i9, i10⟩
    · have hc := cl_int x c1.1
      rw [f1, m1] at c1
      have : (x.toNatClampNeg : Int) < 2 ^ E := by omega
      exact_mod_cast this
    · show x = nI x.toNatClampNeg
      have hc := cl_int x c1.1
      have hr := i32_rng x
      rw [← Int32.toInt_inj, nI_toInt (by omega)]
      exact hc.symm
