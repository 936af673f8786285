/-! ARRIVED GOES TOGETHER; frames -/
theorem zfin_le (mS mB : Nat → Int32) : ∀ n, zfin mS mB n ≤ n
  | 0 => Nat.le_refl _
  | n + 1 => by
    have := zfin_le mS mB n
    unfold zfin
    split <;> omega
theorem zfin_lt {mS mB : Nat → Int32} : ∀ {n m : Nat}, m < n → ¬ mS m = mB m → zfin mS mB n + 1 ≤ n
  | 0, m, h, _ => absurd h (Nat.not_lt_zero _)
  | n + 1, m, h, hm => by
    unfold zfin
    rcases Nat.lt_or_ge m n with q | q
    · have := zfin_lt q hm
      split <;> omega
    · have e : m = n := by omega
      subst e
      rw [if_neg hm]
      have := zfin_le mS mB m
      omega
theorem L_arrived (x y : Int32) : zLaw 101 154 [.int x, .int y] := by
  intro s a w t b u c hI
  have hI0 := hI
  obtain ⟨i1, i2, i3, i4, i5, i6, i7, i8, i9, i10⟩ := hI
  obtain ⟨⟨e1, e2, e3, e4, e5, e6⟩, ⟨f1, f2, f3, f4, f5, f6, f7⟩, g1, g2, g3, g4, g5, g6, g7, g8, G, gG, gL, gM, gR⟩ := i10
  have fin : ∀ v : Int32, zPost (some (.int v)) (some (.int v)) (HX s a w ++ HM (va_up t 0 0) b u c) := fun v => ⟨_, rfl, rfl, _, _, _, _, _, _, _, rfl, hI0⟩
  have hnow := i1.2.2.2
  have hG2 : G ≤ 2600 := by
    have h1 := zfin_le (a 28) (a 26) (s 20).toNatClampNeg
    have h2 := cl_int (s 20) g3.1
    omega
  have et : (s 20).toInt = (t 29).toInt := by rw [e4]
  have et2 : (s 21).toInt = (t 31).toInt := by rw [e5]
  have hit : (0 ≤ x.toInt ∧ x.toInt < (s 20).toInt) → ((∃ f : Nat, (f : Int) < (s 21).toInt ∧ ((a 33 f).toInt ≤ y.toInt ∧ (a 30 x.toNatClampNeg = a 32 f ∨ a 31 (a 32 f).toNatClampNeg = x + 1))) ↔ ∃ g f : Nat, g < G ∧ (f : Int) < (t 31).toInt ∧ (b 41 g = x ∧ b 43 f = b 42 g ∧ (b 44 f).toInt ≤ y.toInt)) := by
    intro hx
    have hc := cl_int x hx.1
    have ex := nI_cl x hx.1
    generalize x.toNatClampNeg = m at *
    subst ex
    rw [nI_1]
    constructor
    · rintro ⟨f, q1, q2, q3⟩
      have hf := (g5 f q1).1
      have hfc := cl_int (a 32 f) hf.1
      have ef := nI_cl (a 32 f) hf.1
      have hlt : ((a 32 f).toNatClampNeg : Int) < (s 0).toInt := by
        rcases q3 with q4 | q4
        · have := (g6 m (by omega)).2.2.2.2
          rw [q4] at this
          omega
        · rcases Int.lt_or_le ((a 32 f).toNatClampNeg : Int) (s 0).toInt with q5 | q5
          · exact q5
          · exfalso
            have h9 := (g8 (a 32 f).toNatClampNeg (by omega)).2.2 q5
            rw [q4] at h9
            exact nI_ne0 (n := m + 1) (by omega) (by omega) h9
      obtain ⟨g, r1, r2, r3⟩ := (gR m (a 32 f).toNatClampNeg (by omega) hlt).mpr (by
        rcases q3 with q4 | q4
        · right
          rw [q4]
          exact ef
        · exact Or.inl q4)
      refine ⟨g, f, r1, by omega, r2, ?_, ?_⟩
      · rw [← f6, r3]
        exact ef
      · rw [← f7]
        exact q2
    · rintro ⟨g, f, r1, r2, r3, r4, r5⟩
      rw [← f6] at r4
      rw [← f7] at r5
      have hg := gM g r1
      have hf := (g5 f (by omega)).1
      have hfc := cl_int (a 32 f) hf.1
      have ef := nI_cl (a 32 f) hf.1
      refine ⟨f, by omega, r5, ?_⟩
      have h9 := (gR m (a 32 f).toNatClampNeg (by omega) (by rw [r4] at hfc ⊢; omega)).mp ⟨g, r1, r3, by rw [← r4]; exact ef⟩
      rcases h9 with q | q
      · exact Or.inr q
      · left
        rw [q]
        exact ef.symm
  refine x_arrived (d := 8) g3 g4 (fun i hi => (g5 i hi).1) (fun c1 => ?_) (fun c1 c2 => ?_) (fun f c1 c2 c3 c4 => ?_) (fun c1 c2 c3 => ?_)
  · refine y_arrived (d := 10) (by rw [← e4]; exact g3) (by rw [← e5]; exact g4) gG hG2 (fun d1 => fin _) (fun d1 d2 => absurd (by rw [et]; exact d1) c1) (fun g f d1 d2 d3 d4 d5 => absurd (by rw [et]; exact d1) c1) (fun d1 d2 d3 => absurd (by rw [et]; exact d1) c1)
  · refine y_arrived (d := 10) (by rw [← e4]; exact g3) (by rw [← e5]; exact g4) gG hG2 (fun d1 => absurd (by rw [← et]; exact c1) d1) (fun d1 d2 => fin _) (fun g f d1 d2 d3 d4 d5 => absurd (by rw [f1, f3]; exact d2) c2) (fun d1 d2 d3 => absurd (by rw [f1, f3]; exact d2) c2)
  · refine y_arrived (d := 10) (by rw [← e4]; exact g3) (by rw [← e5]; exact g4) gG hG2 (fun d1 => absurd (by rw [← et]; exact c1) d1) (fun d1 d2 => absurd (by rw [← f1, ← f3]; exact c2) d2) (fun g f d1 d2 d3 d4 d5 => fin _) (fun d1 d2 d3 => ?_)
    obtain ⟨g, f', r1, r2, r3⟩ := (hit c1.1).mp ⟨f, c3, c4⟩
    exact absurd r3 (d3 g f' r1 r2)
  · refine y_arrived (d := 10) (by rw [← e4]; exact g3) (by rw [← e5]; exact g4) gG hG2 (fun d1 => absurd (by rw [← et]; exact c1) d1) (fun d1 d2 => absurd (by rw [← f1, ← f3]; exact c2) d2) (fun g f d1 d2 d3 d4 d5 => ?_) (fun d1 d2 d3 => fin _)
    obtain ⟨f', r1, r2⟩ := (hit c1.1).mpr ⟨g, f, d3, d4, d5⟩
    exact absurd r2 (c3 f' r1)
/-- the same but at the places of l -/
def zSm {α : Type} (l : List Nat) (f f' : Nat → α) : Prop := ∀ i, i ∉ l → f' i = f i
theorem zSm_refl {α : Type} {l : List Nat} {f : Nat → α} : zSm l f f := fun _ _ => rfl
theorem zSm_up {α : Type} {l : List Nat} {f f' : Nat → α} {k : Nat} {v : α} (hk : k ∈ l) (h : zSm l f f') : zSm l f (va_up f' k v) := by
  intro i hi
  simp only [va_up]
  rw [if_neg (fun e => hi (by rw [e]; exact hk))]
  exact h i hi
theorem zSm_trans {α : Type} {l : List Nat} {f f' f'' : Nat → α} (h1 : zSm l f f') (h2 : zSm l f' f'') : zSm l f f'' := fun i hi => by rw [h2 i hi, h1 i hi]
theorem zSm_more {α : Type} {l l' : List Nat} {f f' : Nat → α} (h : zSm l f f') (hl : ∀ i, i ∈ l → i ∈ l') : zSm l' f f' := fun i hi => h i (fun q => hi (hl i q))
