/-! WHO CAN BE AT A WORK, AND WHEN -/
noncomputable def zdc (P : Prop) : Bool := @decide P (Classical.propDecidable P)
theorem zdc_t {P : Prop} : zdc P = true ↔ P := by
  unfold zdc
  exact @decide_eq_true_iff P (Classical.propDecidable P)
/-- person p is free for work w from hour b on -/
def zFr (sk pP pF pT wH wS : Nat → Int32) (SP : Nat) (re : Int32) (sB sW : Nat → Int32) (w b p : Nat) : Prop := (sk p &&& wS w = wS w) ∧ (∀ k, k < SP → ¬ (pP k = nI p ∧ (b : Int) ≤ (pT k).toInt ∧ (pF k).toInt < (b : Int) + (wH w).toInt)) ∧ ∀ o, o < w → ¬ (¬ (sB o).toInt < 0 ∧ bt (sW o) p = true ∧ ¬ ((sB o).toInt + (wH o).toInt + re.toInt ≤ (b : Int) ∨ (b : Int) + (wH w).toInt + re.toInt ≤ (sB o).toInt))
/-- the weather is such that work w can begin at hour b -/
def zWe (li co wH wT : Nat → Int32) (bo : Int32) (w b : Nat) : Prop := ∀ h : Nat, b ≤ h → (h : Int) < (b : Int) + (wH w).toInt → ¬ (¬ wT w &&& 2 = 0 ∧ li h = 0) ∧ ¬ (¬ wT w &&& 1 = 0 ∧ (co h).toInt < bo.toInt)
/-- work w can begin at hour b, with these people -/
def zCan (li co sk pP pF pT wH wP wS wT : Nat → Int32) (PE SP : Nat) (re bo : Int32) (sB sW : Nat → Int32) (w b who : Nat) : Prop := (b : Int) + (wH w).toInt ≤ 2400 ∧ zWe li co wH wT bo w b ∧ zwf (fun p => zdc (zFr sk pP pF pT wH wS SP re sB sW w b p)) (wP w).toNatClampNeg PE = (who, (wP w).toNatClampNeg)
/-- where it begins -/
def zPl (C : Nat → Nat → Prop) (now : Nat) (r1 r2 : Int32) : Prop := (∃ b who : Nat, (now ≤ b ∧ b < now + 300) ∧ who < 16384 ∧ r1 = nI b ∧ r2 = nI who ∧ C b who ∧ ∀ b' who', now ≤ b' → b' < b → ¬ C b' who') ∨ (r1 = -1 ∧ r2 = -1 ∧ ∀ b' who', now ≤ b' → b' < now + 300 → ¬ C b' who')
theorem zPl_one {C : Nat → Nat → Prop} {now : Nat} {r1 r2 r1' r2' : Int32} (hC : ∀ b w1 w2, C b w1 → C b w2 → w1 = w2) (h : zPl C now r1 r2) (h' : zPl C now r1' r2') : r1 = r1' ∧ r2 = r2' := by
  rcases h with ⟨b, who, h1, hw, h2, h3, h4, h5⟩ | ⟨h1, h2, h3⟩
  · rcases h' with ⟨b', who', g1, gw, g2, g3, g4, g5⟩ | ⟨g1, g2, g3⟩
    · have e : b = b' := by
        rcases Nat.lt_or_ge b b' with c | c
        · exact absurd h4 (g5 b who h1.1 c)
        · rcases Nat.lt_or_ge b' b with c2 | c2
          · exact absurd g4 (h5 b' who' g1.1 c2)
          · omega
      subst e
      have e2 := hC b who who' h4 g4
      subst e2
      exact ⟨by rw [h2, g2], by rw [h3, g3]⟩
    · exact absurd h4 (g3 b who h1.1 h1.2)
  · rcases h' with ⟨b', who', g1, gw, g2, g3, g4, g5⟩ | ⟨g1, g2, g3⟩
    · exact absurd g4 (h3 b' who' g1.1 g1.2)
    · exact ⟨by rw [h1, g1], by rw [h2, g2]⟩
theorem zPl_c {C C' : Nat → Nat → Prop} {now : Nat} {r1 r2 : Int32} (e : ∀ b who, C b who ↔ C' b who) (h : zPl C now r1 r2) : zPl C' now r1 r2 := by
  rcases h with ⟨b, who, h1, hw, h2, h3, h4, h5⟩ | ⟨h1, h2, h3⟩
  · exact Or.inl ⟨b, who, h1, hw, h2, h3, (e b who).mp h4, fun b' who' z1 z2 z3 => h5 b' who' z1 z2 ((e b' who').mpr z3)⟩
  · exact Or.inr ⟨h1, h2, fun b' who' z1 z2 z3 => h3 b' who' z1 z2 ((e b' who').mpr z3)⟩
theorem zFr_c {sk pP pF pT wH wS : Nat → Int32} {SP : Nat} {re : Int32} {sB sW sB' sW' : Nat → Int32} {w b p : Nat} (h : ∀ o, o < w → sB o = sB' o ∧ sW o = sW' o) : zFr sk pP pF pT wH wS SP re sB sW w b p ↔ zFr sk pP pF pT wH wS SP re sB' sW' w b p := by
  unfold zFr
  constructor
  · rintro ⟨h1, h2, h3⟩
    refine ⟨h1, h2, fun o ho => ?_⟩
    rw [← (h o ho).1, ← (h o ho).2]
    exact h3 o ho
  · rintro ⟨h1, h2, h3⟩
    refine ⟨h1, h2, fun o ho => ?_⟩
    rw [(h o ho).1, (h o ho).2]
    exact h3 o ho
theorem zCan_c {li co sk pP pF pT wH wP wS wT : Nat → Int32} {PE SP : Nat} {re bo : Int32} {sB sW sB' sW' : Nat → Int32} {w b who : Nat} (h : ∀ o, o < w → sB o = sB' o ∧ sW o = sW' o) : zCan li co sk pP pF pT wH wP wS wT PE SP re bo sB sW w b who ↔ zCan li co sk pP pF pT wH wP wS wT PE SP re bo sB' sW' w b who := by
  unfold zCan
  have e : (fun p => zdc (zFr sk pP pF pT wH wS SP re sB sW w b p)) = (fun p => zdc (zFr sk pP pF pT wH wS SP re sB' sW' w b p)) := by
    funext p
    rw [show zFr sk pP pF pT wH wS SP re sB sW w b p = zFr sk pP pF pT wH wS SP re sB' sW' w b p from propext (zFr_c h)]
  rw [e]
/-- a schedule of the first W works -/
def zSch (C : (Nat → Int32) → (Nat → Int32) → Nat → Nat → Nat → Prop) (now W : Nat) (sB sW : Nat → Int32) : Prop := ∀ w, w < W → zPl (C sB sW w) now (sB w) (sW w)
theorem zSch_one {C : (Nat → Int32) → (Nat → Int32) → Nat → Nat → Nat → Prop} {now : Nat} {sB sW sB' sW' : Nat → Int32} (h1 : ∀ f g w b w1 w2, C f g w b w1 → C f g w b w2 → w1 = w2) (h2 : ∀ f g f' g' w b who, (∀ o, o < w → f o = f' o ∧ g o = g' o) → (C f g w b who ↔ C f' g' w b who)) : ∀ W, zSch C now W sB sW → zSch C now W sB' sW' → ∀ w, w < W → sB w = sB' w ∧ sW w = sW' w
  | 0, _, _, w, hw => absurd hw (Nat.not_lt_zero w)
  | W + 1, a, a', w, hw => by
    have ih := zSch_one h1 h2 W (fun w hw => a w (by omega)) (fun w hw => a' w (by omega))
    rcases Nat.lt_or_ge w W with c | c
    · exact ih w c
    · have e : w = W := by omega
      subst e
      exact zPl_one (fun b w1 w2 => h1 sB' sW' w b w1 w2) (zPl_c (fun b who => h2 sB sW sB' sW' w b who ih) (a w hw)) (a' w hw)
/-- how many are left -/
def zlf (sB : Nat → Int32) : Nat → Nat
  | 0 => 0
  | w + 1 => zlf sB w + (if sB w = -1 then 1 else 0)
theorem zlf_c {sB sB' : Nat → Int32} : ∀ W, (∀ w, w < W → sB w = sB' w) → zlf sB W = zlf sB' W
  | 0, _ => rfl
  | W + 1, h => by
    unfold zlf
    rw [zlf_c W (fun w hw => h w (by omega)), h W (by omega)]
theorem zlf_le (sB : Nat → Int32) : ∀ W, zlf sB W ≤ W
  | 0 => Nat.le_refl _
  | W + 1 => by
    have := zlf_le sB W
    unfold zlf
    split <;> omega
