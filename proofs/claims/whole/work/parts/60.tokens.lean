/-! TOKENS -/
def zlt (x : Int32) : Prop := 97 ≤ x.toInt ∧ x.toInt ≤ 122
def zdg (x : Int32) : Prop := 48 ≤ x.toInt ∧ x.toInt ≤ 57
def zSame (x y : Int32) : Prop := (zlt x ∧ zlt y) ∨ (zdg x ∧ zdg y)
/-- the token that begins at p ends at e -/
def zEn (g : Nat → Int32) (n p e : Nat) : Prop := p < e ∧ e ≤ n ∧ (∀ i, p < i → i < e → zSame (g p) (g i)) ∧ (e < n → ¬ zSame (g p) (g e))
theorem zEn_one {g : Nat → Int32} {n p e e' : Nat} (h : zEn g n p e) (h' : zEn g n p e') : e = e' := by
  obtain ⟨h1, h2, h3, h4⟩ := h
  obtain ⟨g1, g2, g3, g4⟩ := h'
  rcases Nat.lt_or_ge e e' with c | c
  · exact absurd (g3 e h1 c) (h4 (by omega))
  · rcases Nat.lt_or_ge e' e with c2 | c2
    · exact absurd (h3 e' g1 c2) (g4 (by omega))
    · omega
theorem by8 {x : Int32} (h : 0 ≤ x.toInt ∧ x.toInt ≤ 255) : x.toInt8.toInt32.toInt = if x.toInt < 128 then x.toInt else x.toInt - 256 := by
  have k : ∀ q : Fin 256, (nI q.val).toInt8.toInt32.toInt = if ((q.val : Nat) : Int) < 128 then ((q.val : Nat) : Int) else ((q.val : Nat) : Int) - 256 := by decide +kernel
  have h1 := cl_int x h.1
  have e := nI_cl x h.1
  generalize x.toNatClampNeg = m at *
  subst e
  rw [nI_toInt (by omega)]
  exact k ⟨m, by rw [nI_toInt (by omega)] at h; omega⟩
/-- one byte of both tapes -/
def zBy (f g : Int32) : Prop := (0 ≤ g.toInt ∧ g.toInt ≤ 255) ∧ f.toInt = if g.toInt < 128 then g.toInt else g.toInt - 256
theorem zBy_of {f g : Nat → Int32} (h : zTp f g) (i : Nat) : zBy (f i) (g i) := by
  obtain ⟨h1, h2⟩ := h i
  refine ⟨h1, ?_⟩
  rw [h2]
  exact by8 h1
theorem zBy_r {f g : Int32} (h : zBy f g) {A B : Int} (hA : 0 ≤ A) (hB : B < 128) : (A ≤ f.toInt ∧ f.toInt ≤ B) ↔ (A ≤ g.toInt ∧ g.toInt ≤ B) := by
  obtain ⟨h1, h2⟩ := h
  split at h2 <;> omega
theorem zBy_e {f g : Int32} (h : zBy f g) {A : Int} (hA : 0 ≤ A) (hB : A < 128) : f.toInt = A ↔ g.toInt = A := by
  obtain ⟨h1, h2⟩ := h
  split at h2 <;> omega
/-- numbers, as the station and the reference have them -/
def zNv (g : Nat → Int32) (p : Nat) : Nat → Int
  | 0 => 0
  | m + 1 => min (zNv g p m * 10 + (g (p + m)).toInt - 48) 1001
def zRv (g : Nat → Int32) (p : Nat) : Nat → Int
  | 0 => 0
  | m + 1 => if 1000 < zRv g p m then zRv g p m else zRv g p m * 10 + (g (p + m)).toInt - 48
theorem zNR {g : Nat → Int32} {p : Nat} : ∀ m, (∀ i, i < m → zdg (g (p + i))) → zNv g p m = min (zRv g p m) 1001 ∧ 0 ≤ zRv g p m ∧ zRv g p m ≤ 10009
  | 0, _ => ⟨(by decide : (0 : Int) = min 0 1001), Int.le_refl _, (by decide : (0 : Int) ≤ 10009)⟩
  | m + 1, h => by
    have ih := zNR m (fun i hi => h i (by omega))
    have hd := h m (by omega)
    unfold zdg at hd
    show min (zNv g p m * 10 + (g (p + m)).toInt - 48) 1001 = min (if 1000 < zRv g p m then zRv g p m else zRv g p m * 10 + (g (p + m)).toInt - 48) 1001 ∧ _
    have e : zRv g p (m + 1) = if 1000 < zRv g p m then zRv g p m else zRv g p m * 10 + (g (p + m)).toInt - 48 := rfl
    rw [e]
    split <;> omega
theorem zNv_b {g : Nat → Int32} {p : Nat} (m : Nat) (h : ∀ i, i < m → zdg (g (p + i))) : 0 ≤ zNv g p m ∧ zNv g p m ≤ 1001 := by
  have := zNR m h
  omega
/-- a word's number -/
def zWv (g : Nat → Int32) (p : Nat) : Nat → Int
  | 0 => 0
  | m + 1 => if m < 7 then zWv g p m * 32 + (g (p + m)).toInt - 96 else -1
theorem zWv_b {g : Nat → Int32} {p : Nat} : ∀ m, (∀ i, i < m → zlt (g (p + i))) → (m ≤ 7 → 0 ≤ zWv g p m ∧ zWv g p m < 32 ^ m) ∧ (7 < m → zWv g p m = -1)
  | 0, _ => ⟨fun _ => ⟨Int.le_refl _, (by decide : (0 : Int) < 32 ^ 0)⟩, fun h => absurd h (by omega)⟩
  | m + 1, h => by
    have ih := zWv_b m (fun i hi => h i (by omega))
    have hd := h m (by omega)
    unfold zlt at hd
    have e : zWv g p (m + 1) = if m < 7 then zWv g p m * 32 + (g (p + m)).toInt - 96 else -1 := rfl
    rw [e]
    refine ⟨fun h7 => ?_, fun h7 => by rw [if_neg (by omega)]⟩
    rw [if_pos (by omega), Int.pow_succ]
    have := ih.1 (by omega)
    omega

theorem word_0 {f g : Nat → Int32} {p e : Nat} (ht : zTp f g) (hpe : p < e) (hl : ∀ i, i < e - p → zlt (g (p + i))) : zwordEq 0 f p e ↔ zWv g p (e - p) = 595572 := by
  have hb := zWv_b (e - p) hl
  unfold zwordEq
  show (4 = e - p ∧ ∀ k, k < e - p → f (p + k) = ([114, 101, 115, 116] : List Int32).getD k 0) ↔ _
  generalize hm : e - p = m at *
  constructor
  · rintro ⟨h1, h2⟩
    subst h1
    have q0 : (g (p + 0)).toInt = 114 := by
      have z := h2 0 (by omega)
      have z1 : f (p + 0) = 114 := z
      rw [← zBy_e (zBy_of ht (p + 0)) (by decide) (by decide), z1]
      rfl
    have q1 : (g (p + 1)).toInt = 101 := by
      have z := h2 1 (by omega)
      have z1 : f (p + 1) = 101 := z
      rw [← zBy_e (zBy_of ht (p + 1)) (by decide) (by decide), z1]
      rfl
    have q2 : (g (p + 2)).toInt = 115 := by
      have z := h2 2 (by omega)
      have z1 : f (p + 2) = 115 := z
      rw [← zBy_e (zBy_of ht (p + 2)) (by decide) (by decide), z1]
      rfl
    have q3 : (g (p + 3)).toInt = 116 := by
      have z := h2 3 (by omega)
      have z1 : f (p + 3) = 116 := z
      rw [← zBy_e (zBy_of ht (p + 3)) (by decide) (by decide), z1]
      rfl
    simp only [zWv, q0, q1, q2, q3]
    decide
  · intro h
    rcases Nat.lt_or_ge 7 m with h7 | h7
    · exfalso
      have := hb.2 h7
      omega
    · have hlm : ∀ i, i < m → 97 ≤ (g (p + i)).toInt ∧ (g (p + i)).toInt ≤ 122 := hl
      rcases (show m = 0 ∨ m = 1 ∨ m = 2 ∨ m = 3 ∨ m = 4 ∨ m = 5 ∨ m = 6 ∨ m = 7 by omega) with rfl | rfl | rfl | rfl | rfl | rfl | rfl | rfl
      · omega
      · have h9 : (0) * 32 + (g (p + 0)).toInt - 96 = 595572 := h
        have u0 := hlm 0 (by omega)
        exfalso
        omega
      · have h9 : ((0) * 32 + (g (p + 0)).toInt - 96) * 32 + (g (p + 1)).toInt - 96 = 595572 := h
        have u0 := hlm 0 (by omega)
        have u1 := hlm 1 (by omega)
        exfalso
        omega
      · have h9 : (((0) * 32 + (g (p + 0)).toInt - 96) * 32 + (g (p + 1)).toInt - 96) * 32 + (g (p + 2)).toInt - 96 = 595572 := h
        have u0 := hlm 0 (by omega)
        have u1 := hlm 1 (by omega)
        have u2 := hlm 2 (by omega)
        exfalso
        omega
      · have h9 : ((((0) * 32 + (g (p + 0)).toInt - 96) * 32 + (g (p + 1)).toInt - 96) * 32 + (g (p + 2)).toInt - 96) * 32 + (g (p + 3)).toInt - 96 = 595572 := h
        have u0 := hlm 0 (by omega)
        have u1 := hlm 1 (by omega)
        have u2 := hlm 2 (by omega)
        have u3 := hlm 3 (by omega)
        refine ⟨rfl, fun k hk => ?_⟩
        have v0 : f (p + 0) = 114 := by
          have z : (f (p + 0)).toInt = 114 := (zBy_e (A := 114) (zBy_of ht (p + 0)) (by decide) (by decide)).mpr (by omega)
          rw [fa_eq, z]
          rfl
        have v1 : f (p + 1) = 101 := by
          have z : (f (p + 1)).toInt = 101 := (zBy_e (A := 101) (zBy_of ht (p + 1)) (by decide) (by decide)).mpr (by omega)
          rw [fa_eq, z]
          rfl
        have v2 : f (p + 2) = 115 := by
          have z : (f (p + 2)).toInt = 115 := (zBy_e (A := 115) (zBy_of ht (p + 2)) (by decide) (by decide)).mpr (by omega)
          rw [fa_eq, z]
          rfl
        have v3 : f (p + 3) = 116 := by
          have z : (f (p + 3)).toInt = 116 := (zBy_e (A := 116) (zBy_of ht (p + 3)) (by decide) (by decide)).mpr (by omega)
          rw [fa_eq, z]
          rfl
        rcases (show k = 0 ∨ k = 1 ∨ k = 2 ∨ k = 3 by omega) with rfl | rfl | rfl | rfl
        · exact v0
        · exact v1
        · exact v2
        · exact v3
      · have h9 : (((((0) * 32 + (g (p + 0)).toInt - 96) * 32 + (g (p + 1)).toInt - 96) * 32 + (g (p + 2)).toInt - 96) * 32 + (g (p + 3)).toInt - 96) * 32 + (g (p + 4)).toInt - 96 = 595572 := h
        have u0 := hlm 0 (by omega)
        have u1 := hlm 1 (by omega)
        have u2 := hlm 2 (by omega)
        have u3 := hlm 3 (by omega)
        have u4 := hlm 4 (by omega)
        exfalso
        omega
      · have h9 : ((((((0) * 32 + (g (p + 0)).toInt - 96) * 32 + (g (p + 1)).toInt - 96) * 32 + (g (p + 2)).toInt - 96) * 32 + (g (p + 3)).toInt - 96) * 32 + (g (p + 4)).toInt - 96) * 32 + (g (p + 5)).toInt - 96 = 595572 := h
        have u0 := hlm 0 (by omega)
        have u1 := hlm 1 (by omega)
        have u2 := hlm 2 (by omega)
        have u3 := hlm 3 (by omega)
        have u4 := hlm 4 (by omega)
        have u5 := hlm 5 (by omega)
        exfalso
        omega
      · have h9 : (((((((0) * 32 + (g (p + 0)).toInt - 96) * 32 + (g (p + 1)).toInt - 96) * 32 + (g (p + 2)).toInt - 96) * 32 + (g (p + 3)).toInt - 96) * 32 + (g (p + 4)).toInt - 96) * 32 + (g (p + 5)).toInt - 96) * 32 + (g (p + 6)).toInt - 96 = 595572 := h
        have u0 := hlm 0 (by omega)
        have u1 := hlm 1 (by omega)
        have u2 := hlm 2 (by omega)
        have u3 := hlm 3 (by omega)
        have u4 := hlm 4 (by omega)
        have u5 := hlm 5 (by omega)
        have u6 := hlm 6 (by omega)
        exfalso
        omega

theorem word_1 {f g : Nat → Int32} {p e : Nat} (ht : zTp f g) (hpe : p < e) (hl : ∀ i, i < e - p → zlt (g (p + i))) : zwordEq 1 f p e ↔ zWv g p (e - p) = 114052 := by
  have hb := zWv_b (e - p) hl
  unfold zwordEq
  show (4 = e - p ∧ ∀ k, k < e - p → f (p + k) = ([99, 111, 108, 100] : List Int32).getD k 0) ↔ _
  generalize hm : e - p = m at *
  constructor
  · rintro ⟨h1, h2⟩
    subst h1
    have q0 : (g (p + 0)).toInt = 99 := by
      have z := h2 0 (by omega)
      have z1 : f (p + 0) = 99 := z
      rw [← zBy_e (zBy_of ht (p + 0)) (by decide) (by decide), z1]
      rfl
    have q1 : (g (p + 1)).toInt = 111 := by
      have z := h2 1 (by omega)
      have z1 : f (p + 1) = 111 := z
      rw [← zBy_e (zBy_of ht (p + 1)) (by decide) (by decide), z1]
      rfl
    have q2 : (g (p + 2)).toInt = 108 := by
      have z := h2 2 (by omega)
      have z1 : f (p + 2) = 108 := z
      rw [← zBy_e (zBy_of ht (p + 2)) (by decide) (by decide), z1]
      rfl
    have q3 : (g (p + 3)).toInt = 100 := by
      have z := h2 3 (by omega)
      have z1 : f (p + 3) = 100 := z
      rw [← zBy_e (zBy_of ht (p + 3)) (by decide) (by decide), z1]
      rfl
    simp only [zWv, q0, q1, q2, q3]
    decide
  · intro h
    rcases Nat.lt_or_ge 7 m with h7 | h7
    · exfalso
      have := hb.2 h7
      omega
    · have hlm : ∀ i, i < m → 97 ≤ (g (p + i)).toInt ∧ (g (p + i)).toInt ≤ 122 := hl
      rcases (show m = 0 ∨ m = 1 ∨ m = 2 ∨ m = 3 ∨ m = 4 ∨ m = 5 ∨ m = 6 ∨ m = 7 by omega) with rfl | rfl | rfl | rfl | rfl | rfl | rfl | rfl
      · omega
      · have h9 : (0) * 32 + (g (p + 0)).toInt - 96 = 114052 := h
        have u0 := hlm 0 (by omega)
        exfalso
        omega
      · have h9 : ((0) * 32 + (g (p + 0)).toInt - 96) * 32 + (g (p + 1)).toInt - 96 = 114052 := h
        have u0 := hlm 0 (by omega)
        have u1 := hlm 1 (by omega)
        exfalso
        omega
      · have h9 : (((0) * 32 + (g (p + 0)).toInt - 96) * 32 + (g (p + 1)).toInt - 96) * 32 + (g (p + 2)).toInt - 96 = 114052 := h
        have u0 := hlm 0 (by omega)
        have u1 := hlm 1 (by omega)
        have u2 := hlm 2 (by omega)
        exfalso
        omega
      · have h9 : ((((0) * 32 + (g (p + 0)).toInt - 96) * 32 + (g (p + 1)).toInt - 96) * 32 + (g (p + 2)).toInt - 96) * 32 + (g (p + 3)).toInt - 96 = 114052 := h
        have u0 := hlm 0 (by omega)
        have u1 := hlm 1 (by omega)
        have u2 := hlm 2 (by omega)
        have u3 := hlm 3 (by omega)
        refine ⟨rfl, fun k hk => ?_⟩
        have v0 : f (p + 0) = 99 := by
          have z : (f (p + 0)).toInt = 99 := (zBy_e (A := 99) (zBy_of ht (p + 0)) (by decide) (by decide)).mpr (by omega)
          rw [fa_eq, z]
          rfl
        have v1 : f (p + 1) = 111 := by
          have z : (f (p + 1)).toInt = 111 := (zBy_e (A := 111) (zBy_of ht (p + 1)) (by decide) (by decide)).mpr (by omega)
          rw [fa_eq, z]
          rfl
        have v2 : f (p + 2) = 108 := by
          have z : (f (p + 2)).toInt = 108 := (zBy_e (A := 108) (zBy_of ht (p + 2)) (by decide) (by decide)).mpr (by omega)
          rw [fa_eq, z]
          rfl
        have v3 : f (p + 3) = 100 := by
          have z : (f (p + 3)).toInt = 100 := (zBy_e (A := 100) (zBy_of ht (p + 3)) (by decide) (by decide)).mpr (by omega)
          rw [fa_eq, z]
          rfl
        rcases (show k = 0 ∨ k = 1 ∨ k = 2 ∨ k = 3 by omega) with rfl | rfl | rfl | rfl
        · exact v0
        · exact v1
        · exact v2
        · exact v3
      · have h9 : (((((0) * 32 + (g (p + 0)).toInt - 96) * 32 + (g (p + 1)).toInt - 96) * 32 + (g (p + 2)).toInt - 96) * 32 + (g (p + 3)).toInt - 96) * 32 + (g (p + 4)).toInt - 96 = 114052 := h
        have u0 := hlm 0 (by omega)
        have u1 := hlm 1 (by omega)
        have u2 := hlm 2 (by omega)
        have u3 := hlm 3 (by omega)
        have u4 := hlm 4 (by omega)
        exfalso
        omega
      · have h9 : ((((((0) * 32 + (g (p + 0)).toInt - 96) * 32 + (g (p + 1)).toInt - 96) * 32 + (g (p + 2)).toInt - 96) * 32 + (g (p + 3)).toInt - 96) * 32 + (g (p + 4)).toInt - 96) * 32 + (g (p + 5)).toInt - 96 = 114052 := h
        have u0 := hlm 0 (by omega)
        have u1 := hlm 1 (by omega)
        have u2 := hlm 2 (by omega)
        have u3 := hlm 3 (by omega)
        have u4 := hlm 4 (by omega)
        have u5 := hlm 5 (by omega)
        exfalso
        omega
      · have h9 : (((((((0) * 32 + (g (p + 0)).toInt - 96) * 32 + (g (p + 1)).toInt - 96) * 32 + (g (p + 2)).toInt - 96) * 32 + (g (p + 3)).toInt - 96) * 32 + (g (p + 4)).toInt - 96) * 32 + (g (p + 5)).toInt - 96) * 32 + (g (p + 6)).toInt - 96 = 114052 := h
        have u0 := hlm 0 (by omega)
        have u1 := hlm 1 (by omega)
        have u2 := hlm 2 (by omega)
        have u3 := hlm 3 (by omega)
        have u4 := hlm 4 (by omega)
        have u5 := hlm 5 (by omega)
        have u6 := hlm 6 (by omega)
        exfalso
        omega

theorem word_2 {f g : Nat → Int32} {p e : Nat} (ht : zTp f g) (hpe : p < e) (hl : ∀ i, i < e - p → zlt (g (p + i))) : zwordEq 2 f p e ↔ zWv g p (e - p) = 294 := by
  have hb := zWv_b (e - p) hl
  unfold zwordEq
  show (2 = e - p ∧ ∀ k, k < e - p → f (p + k) = ([105, 102] : List Int32).getD k 0) ↔ _
  generalize hm : e - p = m at *
  constructor
  · rintro ⟨h1, h2⟩
    subst h1
    have q0 : (g (p + 0)).toInt = 105 := by
      have z := h2 0 (by omega)
      have z1 : f (p + 0) = 105 := z
      rw [← zBy_e (zBy_of ht (p + 0)) (by decide) (by decide), z1]
      rfl
    have q1 : (g (p + 1)).toInt = 102 := by
      have z := h2 1 (by omega)
      have z1 : f (p + 1) = 102 := z
      rw [← zBy_e (zBy_of ht (p + 1)) (by decide) (by decide), z1]
      rfl
    simp only [zWv, q0, q1]
    decide
  · intro h
    rcases Nat.lt_or_ge 7 m with h7 | h7
    · exfalso
      have := hb.2 h7
      omega
    · have hlm : ∀ i, i < m → 97 ≤ (g (p + i)).toInt ∧ (g (p + i)).toInt ≤ 122 := hl
      rcases (show m = 0 ∨ m = 1 ∨ m = 2 ∨ m = 3 ∨ m = 4 ∨ m = 5 ∨ m = 6 ∨ m = 7 by omega) with rfl | rfl | rfl | rfl | rfl | rfl | rfl | rfl
      · omega
      · have h9 : (0) * 32 + (g (p + 0)).toInt - 96 = 294 := h
        have u0 := hlm 0 (by omega)
        exfalso
        omega
      · have h9 : ((0) * 32 + (g (p + 0)).toInt - 96) * 32 + (g (p + 1)).toInt - 96 = 294 := h
        have u0 := hlm 0 (by omega)
        have u1 := hlm 1 (by omega)
        refine ⟨rfl, fun k hk => ?_⟩
        have v0 : f (p + 0) = 105 := by
          have z : (f (p + 0)).toInt = 105 := (zBy_e (A := 105) (zBy_of ht (p + 0)) (by decide) (by decide)).mpr (by omega)
          rw [fa_eq, z]
          rfl
        have v1 : f (p + 1) = 102 := by
          have z : (f (p + 1)).toInt = 102 := (zBy_e (A := 102) (zBy_of ht (p + 1)) (by decide) (by decide)).mpr (by omega)
          rw [fa_eq, z]
          rfl
        rcases (show k = 0 ∨ k = 1 by omega) with rfl | rfl
        · exact v0
        · exact v1
      · have h9 : (((0) * 32 + (g (p + 0)).toInt - 96) * 32 + (g (p + 1)).toInt - 96) * 32 + (g (p + 2)).toInt - 96 = 294 := h
        have u0 := hlm 0 (by omega)
        have u1 := hlm 1 (by omega)
        have u2 := hlm 2 (by omega)
        exfalso
        omega
      · have h9 : ((((0) * 32 + (g (p + 0)).toInt - 96) * 32 + (g (p + 1)).toInt - 96) * 32 + (g (p + 2)).toInt - 96) * 32 + (g (p + 3)).toInt - 96 = 294 := h
        have u0 := hlm 0 (by omega)
        have u1 := hlm 1 (by omega)
        have u2 := hlm 2 (by omega)
        have u3 := hlm 3 (by omega)
        exfalso
        omega
      · have h9 : (((((0) * 32 + (g (p + 0)).toInt - 96) * 32 + (g (p + 1)).toInt - 96) * 32 + (g (p + 2)).toInt - 96) * 32 + (g (p + 3)).toInt - 96) * 32 + (g (p + 4)).toInt - 96 = 294 := h
        have u0 := hlm 0 (by omega)
        have u1 := hlm 1 (by omega)
        have u2 := hlm 2 (by omega)
        have u3 := hlm 3 (by omega)
        have u4 := hlm 4 (by omega)
        exfalso
        omega
      · have h9 : ((((((0) * 32 + (g (p + 0)).toInt - 96) * 32 + (g (p + 1)).toInt - 96) * 32 + (g (p + 2)).toInt - 96) * 32 + (g (p + 3)).toInt - 96) * 32 + (g (p + 4)).toInt - 96) * 32 + (g (p + 5)).toInt - 96 = 294 := h
        have u0 := hlm 0 (by omega)
        have u1 := hlm 1 (by omega)
        have u2 := hlm 2 (by omega)
        have u3 := hlm 3 (by omega)
        have u4 := hlm 4 (by omega)
        have u5 := hlm 5 (by omega)
        exfalso
        omega
      · have h9 : (((((((0) * 32 + (g (p + 0)).toInt - 96) * 32 + (g (p + 1)).toInt - 96) * 32 + (g (p + 2)).toInt - 96) * 32 + (g (p + 3)).toInt - 96) * 32 + (g (p + 4)).toInt - 96) * 32 + (g (p + 5)).toInt - 96) * 32 + (g (p + 6)).toInt - 96 = 294 := h
        have u0 := hlm 0 (by omega)
        have u1 := hlm 1 (by omega)
        have u2 := hlm 2 (by omega)
        have u3 := hlm 3 (by omega)
        have u4 := hlm 4 (by omega)
        have u5 := hlm 5 (by omega)
        have u6 := hlm 6 (by omega)
        exfalso
        omega

theorem word_3 {f g : Nat → Int32} {p e : Nat} (ht : zTp f g) (hpe : p < e) (hl : ∀ i, i < e - p → zlt (g (p + i))) : zwordEq 3 f p e ↔ zWv g p (e - p) = 605693422 := by
  have hb := zWv_b (e - p) hl
  unfold zwordEq
  show (6 = e - p ∧ ∀ k, k < e - p → f (p + k) = ([114, 97, 116, 105, 111, 110] : List Int32).getD k 0) ↔ _
  generalize hm : e - p = m at *
  constructor
  · rintro ⟨h1, h2⟩
    subst h1
    have q0 : (g (p + 0)).toInt = 114 := by
      have z := h2 0 (by omega)
      have z1 : f (p + 0) = 114 := z
      rw [← zBy_e (zBy_of ht (p + 0)) (by decide) (by decide), z1]
      rfl
    have q1 : (g (p + 1)).toInt = 97 := by
      have z := h2 1 (by omega)
      have z1 : f (p + 1) = 97 := z
      rw [← zBy_e (zBy_of ht (p + 1)) (by decide) (by decide), z1]
      rfl
    have q2 : (g (p + 2)).toInt = 116 := by
      have z := h2 2 (by omega)
      have z1 : f (p + 2) = 116 := z
      rw [← zBy_e (zBy_of ht (p + 2)) (by decide) (by decide), z1]
      rfl
    have q3 : (g (p + 3)).toInt = 105 := by
      have z := h2 3 (by omega)
      have z1 : f (p + 3) = 105 := z
      rw [← zBy_e (zBy_of ht (p + 3)) (by decide) (by decide), z1]
      rfl
    have q4 : (g (p + 4)).toInt = 111 := by
      have z := h2 4 (by omega)
      have z1 : f (p + 4) = 111 := z
      rw [← zBy_e (zBy_of ht (p + 4)) (by decide) (by decide), z1]
      rfl
    have q5 : (g (p + 5)).toInt = 110 := by
      have z := h2 5 (by omega)
      have z1 : f (p + 5) = 110 := z
      rw [← zBy_e (zBy_of ht (p + 5)) (by decide) (by decide), z1]
      rfl
    simp only [zWv, q0, q1, q2, q3, q4, q5]
    decide
  · intro h
    rcases Nat.lt_or_ge 7 m with h7 | h7
    · exfalso
      have := hb.2 h7
      omega
    · have hlm : ∀ i, i < m → 97 ≤ (g (p + i)).toInt ∧ (g (p + i)).toInt ≤ 122 := hl
      rcases (show m = 0 ∨ m = 1 ∨ m = 2 ∨ m = 3 ∨ m = 4 ∨ m = 5 ∨ m = 6 ∨ m = 7 by omega) with rfl | rfl | rfl | rfl | rfl | rfl | rfl | rfl
      · omega
      · have h9 : (0) * 32 + (g (p + 0)).toInt - 96 = 605693422 := h
        have u0 := hlm 0 (by omega)
        exfalso
        omega
      · have h9 : ((0) * 32 + (g (p + 0)).toInt - 96) * 32 + (g (p + 1)).toInt - 96 = 605693422 := h
        have u0 := hlm 0 (by omega)
        have u1 := hlm 1 (by omega)
        exfalso
        omega
      · have h9 : (((0) * 32 + (g (p + 0)).toInt - 96) * 32 + (g (p + 1)).toInt - 96) * 32 + (g (p + 2)).toInt - 96 = 605693422 := h
        have u0 := hlm 0 (by omega)
        have u1 := hlm 1 (by omega)
        have u2 := hlm 2 (by omega)
        exfalso
        omega
      · have h9 : ((((0) * 32 + (g (p + 0)).toInt - 96) * 32 + (g (p + 1)).toInt - 96) * 32 + (g (p + 2)).toInt - 96) * 32 + (g (p + 3)).toInt - 96 = 605693422 := h
        have u0 := hlm 0 (by omega)
        have u1 := hlm 1 (by omega)
        have u2 := hlm 2 (by omega)
        have u3 := hlm 3 (by omega)
        exfalso
        omega
      · have h9 : (((((0) * 32 + (g (p + 0)).toInt - 96) * 32 + (g (p + 1)).toInt - 96) * 32 + (g (p + 2)).toInt - 96) * 32 + (g (p + 3)).toInt - 96) * 32 + (g (p + 4)).toInt - 96 = 605693422 := h
        have u0 := hlm 0 (by omega)
        have u1 := hlm 1 (by omega)
        have u2 := hlm 2 (by omega)
        have u3 := hlm 3 (by omega)
        have u4 := hlm 4 (by omega)
        exfalso
        omega
      · have h9 : ((((((0) * 32 + (g (p + 0)).toInt - 96) * 32 + (g (p + 1)).toInt - 96) * 32 + (g (p + 2)).toInt - 96) * 32 + (g (p + 3)).toInt - 96) * 32 + (g (p + 4)).toInt - 96) * 32 + (g (p + 5)).toInt - 96 = 605693422 := h
        have u0 := hlm 0 (by omega)
        have u1 := hlm 1 (by omega)
        have u2 := hlm 2 (by omega)
        have u3 := hlm 3 (by omega)
        have u4 := hlm 4 (by omega)
        have u5 := hlm 5 (by omega)
        refine ⟨rfl, fun k hk => ?_⟩
        have v0 : f (p + 0) = 114 := by
          have z : (f (p + 0)).toInt = 114 := (zBy_e (A := 114) (zBy_of ht (p + 0)) (by decide) (by decide)).mpr (by omega)
          rw [fa_eq, z]
          rfl
        have v1 : f (p + 1) = 97 := by
          have z : (f (p + 1)).toInt = 97 := (zBy_e (A := 97) (zBy_of ht (p + 1)) (by decide) (by decide)).mpr (by omega)
          rw [fa_eq, z]
          rfl
        have v2 : f (p + 2) = 116 := by
          have z : (f (p + 2)).toInt = 116 := (zBy_e (A := 116) (zBy_of ht (p + 2)) (by decide) (by decide)).mpr (by omega)
          rw [fa_eq, z]
          rfl
        have v3 : f (p + 3) = 105 := by
          have z : (f (p + 3)).toInt = 105 := (zBy_e (A := 105) (zBy_of ht (p + 3)) (by decide) (by decide)).mpr (by omega)
          rw [fa_eq, z]
          rfl
        have v4 : f (p + 4) = 111 := by
          have z : (f (p + 4)).toInt = 111 := (zBy_e (A := 111) (zBy_of ht (p + 4)) (by decide) (by decide)).mpr (by omega)
          rw [fa_eq, z]
          rfl
        have v5 : f (p + 5) = 110 := by
          have z : (f (p + 5)).toInt = 110 := (zBy_e (A := 110) (zBy_of ht (p + 5)) (by decide) (by decide)).mpr (by omega)
          rw [fa_eq, z]
          rfl
        rcases (show k = 0 ∨ k = 1 ∨ k = 2 ∨ k = 3 ∨ k = 4 ∨ k = 5 by omega) with rfl | rfl | rfl | rfl | rfl | rfl
        · exact v0
        · exact v1
        · exact v2
        · exact v3
        · exact v4
        · exact v5
      · have h9 : (((((((0) * 32 + (g (p + 0)).toInt - 96) * 32 + (g (p + 1)).toInt - 96) * 32 + (g (p + 2)).toInt - 96) * 32 + (g (p + 3)).toInt - 96) * 32 + (g (p + 4)).toInt - 96) * 32 + (g (p + 5)).toInt - 96) * 32 + (g (p + 6)).toInt - 96 = 605693422 := h
        have u0 := hlm 0 (by omega)
        have u1 := hlm 1 (by omega)
        have u2 := hlm 2 (by omega)
        have u3 := hlm 3 (by omega)
        have u4 := hlm 4 (by omega)
        have u5 := hlm 5 (by omega)
        have u6 := hlm 6 (by omega)
        exfalso
        omega

theorem word_4 {f g : Nat → Int32} {p e : Nat} (ht : zTp f g) (hpe : p < e) (hl : ∀ i, i < e - p → zlt (g (p + i))) : zwordEq 4 f p e ↔ zWv g p (e - p) = 498 := by
  have hb := zWv_b (e - p) hl
  unfold zwordEq
  show (2 = e - p ∧ ∀ k, k < e - p → f (p + k) = ([111, 114] : List Int32).getD k 0) ↔ _
  generalize hm : e - p = m at *
  constructor
  · rintro ⟨h1, h2⟩
    subst h1
    have q0 : (g (p + 0)).toInt = 111 := by
      have z := h2 0 (by omega)
      have z1 : f (p + 0) = 111 := z
      rw [← zBy_e (zBy_of ht (p + 0)) (by decide) (by decide), z1]
      rfl
    have q1 : (g (p + 1)).toInt = 114 := by
      have z := h2 1 (by omega)
      have z1 : f (p + 1) = 114 := z
      rw [← zBy_e (zBy_of ht (p + 1)) (by decide) (by decide), z1]
      rfl
    simp only [zWv, q0, q1]
    decide
  · intro h
    rcases Nat.lt_or_ge 7 m with h7 | h7
    · exfalso
      have := hb.2 h7
      omega
    · have hlm : ∀ i, i < m → 97 ≤ (g (p + i)).toInt ∧ (g (p + i)).toInt ≤ 122 := hl
      rcases (show m = 0 ∨ m = 1 ∨ m = 2 ∨ m = 3 ∨ m = 4 ∨ m = 5 ∨ m = 6 ∨ m = 7 by omega) with rfl | rfl | rfl | rfl | rfl | rfl | rfl | rfl
      · omega
      · have h9 : (0) * 32 + (g (p + 0)).toInt - 96 = 498 := h
        have u0 := hlm 0 (by omega)
        exfalso
        omega
      · have h9 : ((0) * 32 + (g (p + 0)).toInt - 96) * 32 + (g (p + 1)).toInt - 96 = 498 := h
        have u0 := hlm 0 (by omega)
        have u1 := hlm 1 (by omega)
        refine ⟨rfl, fun k hk => ?_⟩
        have v0 : f (p + 0) = 111 := by
          have z : (f (p + 0)).toInt = 111 := (zBy_e (A := 111) (zBy_of ht (p + 0)) (by decide) (by decide)).mpr (by omega)
          rw [fa_eq, z]
          rfl
        have v1 : f (p + 1) = 114 := by
          have z : (f (p + 1)).toInt = 114 := (zBy_e (A := 114) (zBy_of ht (p + 1)) (by decide) (by decide)).mpr (by omega)
          rw [fa_eq, z]
          rfl
        rcases (show k = 0 ∨ k = 1 by omega) with rfl | rfl
        · exact v0
        · exact v1
      · have h9 : (((0) * 32 + (g (p + 0)).toInt - 96) * 32 + (g (p + 1)).toInt - 96) * 32 + (g (p + 2)).toInt - 96 = 498 := h
        have u0 := hlm 0 (by omega)
        have u1 := hlm 1 (by omega)
        have u2 := hlm 2 (by omega)
        exfalso
        omega
      · have h9 : ((((0) * 32 + (g (p + 0)).toInt - 96) * 32 + (g (p + 1)).toInt - 96) * 32 + (g (p + 2)).toInt - 96) * 32 + (g (p + 3)).toInt - 96 = 498 := h
        have u0 := hlm 0 (by omega)
        have u1 := hlm 1 (by omega)
        have u2 := hlm 2 (by omega)
        have u3 := hlm 3 (by omega)
        exfalso
        omega
      · have h9 : (((((0) * 32 + (g (p + 0)).toInt - 96) * 32 + (g (p + 1)).toInt - 96) * 32 + (g (p + 2)).toInt - 96) * 32 + (g (p + 3)).toInt - 96) * 32 + (g (p + 4)).toInt - 96 = 498 := h
        have u0 := hlm 0 (by omega)
        have u1 := hlm 1 (by omega)
        have u2 := hlm 2 (by omega)
        have u3 := hlm 3 (by omega)
        have u4 := hlm 4 (by omega)
        exfalso
        omega
      · have h9 : ((((((0) * 32 + (g (p + 0)).toInt - 96) * 32 + (g (p + 1)).toInt - 96) * 32 + (g (p + 2)).toInt - 96) * 32 + (g (p + 3)).toInt - 96) * 32 + (g (p + 4)).toInt - 96) * 32 + (g (p + 5)).toInt - 96 = 498 := h
        have u0 := hlm 0 (by omega)
        have u1 := hlm 1 (by omega)
        have u2 := hlm 2 (by omega)
        have u3 := hlm 3 (by omega)
        have u4 := hlm 4 (by omega)
        have u5 := hlm 5 (by omega)
        exfalso
        omega
      · have h9 : (((((((0) * 32 + (g (p + 0)).toInt - 96) * 32 + (g (p + 1)).toInt - 96) * 32 + (g (p + 2)).toInt - 96) * 32 + (g (p + 3)).toInt - 96) * 32 + (g (p + 4)).toInt - 96) * 32 + (g (p + 5)).toInt - 96) * 32 + (g (p + 6)).toInt - 96 = 498 := h
        have u0 := hlm 0 (by omega)
        have u1 := hlm 1 (by omega)
        have u2 := hlm 2 (by omega)
        have u3 := hlm 3 (by omega)
        have u4 := hlm 4 (by omega)
        have u5 := hlm 5 (by omega)
        have u6 := hlm 6 (by omega)
        exfalso
        omega

theorem word_5 {f g : Nat → Int32} {p e : Nat} (ht : zTp f g) (hpe : p < e) (hl : ∀ i, i < e - p → zlt (g (p + i))) : zwordEq 5 f p e ↔ zWv g p (e - p) = 1476 := by
  have hb := zWv_b (e - p) hl
  unfold zwordEq
  show (3 = e - p ∧ ∀ k, k < e - p → f (p + k) = ([97, 110, 100] : List Int32).getD k 0) ↔ _
  generalize hm : e - p = m at *
  constructor
  · rintro ⟨h1, h2⟩
    subst h1
    have q0 : (g (p + 0)).toInt = 97 := by
      have z := h2 0 (by omega)
      have z1 : f (p + 0) = 97 := z
      rw [← zBy_e (zBy_of ht (p + 0)) (by decide) (by decide), z1]
      rfl
    have q1 : (g (p + 1)).toInt = 110 := by
      have z := h2 1 (by omega)
      have z1 : f (p + 1) = 110 := z
      rw [← zBy_e (zBy_of ht (p + 1)) (by decide) (by decide), z1]
      rfl
    have q2 : (g (p + 2)).toInt = 100 := by
      have z := h2 2 (by omega)
      have z1 : f (p + 2) = 100 := z
      rw [← zBy_e (zBy_of ht (p + 2)) (by decide) (by decide), z1]
      rfl
    simp only [zWv, q0, q1, q2]
    decide
  · intro h
    rcases Nat.lt_or_ge 7 m with h7 | h7
    · exfalso
      have := hb.2 h7
      omega
    · have hlm : ∀ i, i < m → 97 ≤ (g (p + i)).toInt ∧ (g (p + i)).toInt ≤ 122 := hl
      rcases (show m = 0 ∨ m = 1 ∨ m = 2 ∨ m = 3 ∨ m = 4 ∨ m = 5 ∨ m = 6 ∨ m = 7 by omega) with rfl | rfl | rfl | rfl | rfl | rfl | rfl | rfl
      · omega
      · have h9 : (0) * 32 + (g (p + 0)).toInt - 96 = 1476 := h
        have u0 := hlm 0 (by omega)
        exfalso
        omega
      · have h9 : ((0) * 32 + (g (p + 0)).toInt - 96) * 32 + (g (p + 1)).toInt - 96 = 1476 := h
        have u0 := hlm 0 (by omega)
        have u1 := hlm 1 (by omega)
        exfalso
        omega
      · have h9 : (((0) * 32 + (g (p + 0)).toInt - 96) * 32 + (g (p + 1)).toInt - 96) * 32 + (g (p + 2)).toInt - 96 = 1476 := h
        have u0 := hlm 0 (by omega)
        have u1 := hlm 1 (by omega)
        have u2 := hlm 2 (by omega)
        refine ⟨rfl, fun k hk => ?_⟩
        have v0 : f (p + 0) = 97 := by
          have z : (f (p + 0)).toInt = 97 := (zBy_e (A := 97) (zBy_of ht (p + 0)) (by decide) (by decide)).mpr (by omega)
          rw [fa_eq, z]
          rfl
        have v1 : f (p + 1) = 110 := by
          have z : (f (p + 1)).toInt = 110 := (zBy_e (A := 110) (zBy_of ht (p + 1)) (by decide) (by decide)).mpr (by omega)
          rw [fa_eq, z]
          rfl
        have v2 : f (p + 2) = 100 := by
          have z : (f (p + 2)).toInt = 100 := (zBy_e (A := 100) (zBy_of ht (p + 2)) (by decide) (by decide)).mpr (by omega)
          rw [fa_eq, z]
          rfl
        rcases (show k = 0 ∨ k = 1 ∨ k = 2 by omega) with rfl | rfl | rfl
        · exact v0
        · exact v1
        · exact v2
      · have h9 : ((((0) * 32 + (g (p + 0)).toInt - 96) * 32 + (g (p + 1)).toInt - 96) * 32 + (g (p + 2)).toInt - 96) * 32 + (g (p + 3)).toInt - 96 = 1476 := h
        have u0 := hlm 0 (by omega)
        have u1 := hlm 1 (by omega)
        have u2 := hlm 2 (by omega)
        have u3 := hlm 3 (by omega)
        exfalso
        omega
      · have h9 : (((((0) * 32 + (g (p + 0)).toInt - 96) * 32 + (g (p + 1)).toInt - 96) * 32 + (g (p + 2)).toInt - 96) * 32 + (g (p + 3)).toInt - 96) * 32 + (g (p + 4)).toInt - 96 = 1476 := h
        have u0 := hlm 0 (by omega)
        have u1 := hlm 1 (by omega)
        have u2 := hlm 2 (by omega)
        have u3 := hlm 3 (by omega)
        have u4 := hlm 4 (by omega)
        exfalso
        omega
      · have h9 : ((((((0) * 32 + (g (p + 0)).toInt - 96) * 32 + (g (p + 1)).toInt - 96) * 32 + (g (p + 2)).toInt - 96) * 32 + (g (p + 3)).toInt - 96) * 32 + (g (p + 4)).toInt - 96) * 32 + (g (p + 5)).toInt - 96 = 1476 := h
        have u0 := hlm 0 (by omega)
        have u1 := hlm 1 (by omega)
        have u2 := hlm 2 (by omega)
        have u3 := hlm 3 (by omega)
        have u4 := hlm 4 (by omega)
        have u5 := hlm 5 (by omega)
        exfalso
        omega
      · have h9 : (((((((0) * 32 + (g (p + 0)).toInt - 96) * 32 + (g (p + 1)).toInt - 96) * 32 + (g (p + 2)).toInt - 96) * 32 + (g (p + 3)).toInt - 96) * 32 + (g (p + 4)).toInt - 96) * 32 + (g (p + 5)).toInt - 96) * 32 + (g (p + 6)).toInt - 96 = 1476 := h
        have u0 := hlm 0 (by omega)
        have u1 := hlm 1 (by omega)
        have u2 := hlm 2 (by omega)
        have u3 := hlm 3 (by omega)
        have u4 := hlm 4 (by omega)
        have u5 := hlm 5 (by omega)
        have u6 := hlm 6 (by omega)
        exfalso
        omega

theorem word_6 {f g : Nat → Int32} {p e : Nat} (ht : zTp f g) (hpe : p < e) (hl : ∀ i, i < e - p → zlt (g (p + i))) : zwordEq 6 f p e ↔ zWv g p (e - p) = 763332 := by
  have hb := zWv_b (e - p) hl
  unfold zwordEq
  show (4 = e - p ∧ ∀ k, k < e - p → f (p + k) = ([119, 105, 110, 100] : List Int32).getD k 0) ↔ _
  generalize hm : e - p = m at *
  constructor
  · rintro ⟨h1, h2⟩
    subst h1
    have q0 : (g (p + 0)).toInt = 119 := by
      have z := h2 0 (by omega)
      have z1 : f (p + 0) = 119 := z
      rw [← zBy_e (zBy_of ht (p + 0)) (by decide) (by decide), z1]
      rfl
    have q1 : (g (p + 1)).toInt = 105 := by
      have z := h2 1 (by omega)
      have z1 : f (p + 1) = 105 := z
      rw [← zBy_e (zBy_of ht (p + 1)) (by decide) (by decide), z1]
      rfl
    have q2 : (g (p + 2)).toInt = 110 := by
      have z := h2 2 (by omega)
      have z1 : f (p + 2) = 110 := z
      rw [← zBy_e (zBy_of ht (p + 2)) (by decide) (by decide), z1]
      rfl
    have q3 : (g (p + 3)).toInt = 100 := by
      have z := h2 3 (by omega)
      have z1 : f (p + 3) = 100 := z
      rw [← zBy_e (zBy_of ht (p + 3)) (by decide) (by decide), z1]
      rfl
    simp only [zWv, q0, q1, q2, q3]
    decide
  · intro h
    rcases Nat.lt_or_ge 7 m with h7 | h7
    · exfalso
      have := hb.2 h7
      omega
    · have hlm : ∀ i, i < m → 97 ≤ (g (p + i)).toInt ∧ (g (p + i)).toInt ≤ 122 := hl
      rcases (show m = 0 ∨ m = 1 ∨ m = 2 ∨ m = 3 ∨ m = 4 ∨ m = 5 ∨ m = 6 ∨ m = 7 by omega) with rfl | rfl | rfl | rfl | rfl | rfl | rfl | rfl
      · omega
      · have h9 : (0) * 32 + (g (p + 0)).toInt - 96 = 763332 := h
        have u0 := hlm 0 (by omega)
        exfalso
        omega
      · have h9 : ((0) * 32 + (g (p + 0)).toInt - 96) * 32 + (g (p + 1)).toInt - 96 = 763332 := h
        have u0 := hlm 0 (by omega)
        have u1 := hlm 1 (by omega)
        exfalso
        omega
      · have h9 : (((0) * 32 + (g (p + 0)).toInt - 96) * 32 + (g (p + 1)).toInt - 96) * 32 + (g (p + 2)).toInt - 96 = 763332 := h
        have u0 := hlm 0 (by omega)
        have u1 := hlm 1 (by omega)
        have u2 := hlm 2 (by omega)
        exfalso
        omega
      · have h9 : ((((0) * 32 + (g (p + 0)).toInt - 96) * 32 + (g (p + 1)).toInt - 96) * 32 + (g (p + 2)).toInt - 96) * 32 + (g (p + 3)).toInt - 96 = 763332 := h
        have u0 := hlm 0 (by omega)
        have u1 := hlm 1 (by omega)
        have u2 := hlm 2 (by omega)
        have u3 := hlm 3 (by omega)
        refine ⟨rfl, fun k hk => ?_⟩
        have v0 : f (p + 0) = 119 := by
          have z : (f (p + 0)).toInt = 119 := (zBy_e (A := 119) (zBy_of ht (p + 0)) (by decide) (by decide)).mpr (by omega)
          rw [fa_eq, z]
          rfl
        have v1 : f (p + 1) = 105 := by
          have z : (f (p + 1)).toInt = 105 := (zBy_e (A := 105) (zBy_of ht (p + 1)) (by decide) (by decide)).mpr (by omega)
          rw [fa_eq, z]
          rfl
        have v2 : f (p + 2) = 110 := by
          have z : (f (p + 2)).toInt = 110 := (zBy_e (A := 110) (zBy_of ht (p + 2)) (by decide) (by decide)).mpr (by omega)
          rw [fa_eq, z]
          rfl
        have v3 : f (p + 3) = 100 := by
          have z : (f (p + 3)).toInt = 100 := (zBy_e (A := 100) (zBy_of ht (p + 3)) (by decide) (by decide)).mpr (by omega)
          rw [fa_eq, z]
          rfl
        rcases (show k = 0 ∨ k = 1 ∨ k = 2 ∨ k = 3 by omega) with rfl | rfl | rfl | rfl
        · exact v0
        · exact v1
        · exact v2
        · exact v3
      · have h9 : (((((0) * 32 + (g (p + 0)).toInt - 96) * 32 + (g (p + 1)).toInt - 96) * 32 + (g (p + 2)).toInt - 96) * 32 + (g (p + 3)).toInt - 96) * 32 + (g (p + 4)).toInt - 96 = 763332 := h
        have u0 := hlm 0 (by omega)
        have u1 := hlm 1 (by omega)
        have u2 := hlm 2 (by omega)
        have u3 := hlm 3 (by omega)
        have u4 := hlm 4 (by omega)
        exfalso
        omega
      · have h9 : ((((((0) * 32 + (g (p + 0)).toInt - 96) * 32 + (g (p + 1)).toInt - 96) * 32 + (g (p + 2)).toInt - 96) * 32 + (g (p + 3)).toInt - 96) * 32 + (g (p + 4)).toInt - 96) * 32 + (g (p + 5)).toInt - 96 = 763332 := h
        have u0 := hlm 0 (by omega)
        have u1 := hlm 1 (by omega)
        have u2 := hlm 2 (by omega)
        have u3 := hlm 3 (by omega)
        have u4 := hlm 4 (by omega)
        have u5 := hlm 5 (by omega)
        exfalso
        omega
      · have h9 : (((((((0) * 32 + (g (p + 0)).toInt - 96) * 32 + (g (p + 1)).toInt - 96) * 32 + (g (p + 2)).toInt - 96) * 32 + (g (p + 3)).toInt - 96) * 32 + (g (p + 4)).toInt - 96) * 32 + (g (p + 5)).toInt - 96) * 32 + (g (p + 6)).toInt - 96 = 763332 := h
        have u0 := hlm 0 (by omega)
        have u1 := hlm 1 (by omega)
        have u2 := hlm 2 (by omega)
        have u3 := hlm 3 (by omega)
        have u4 := hlm 4 (by omega)
        have u5 := hlm 5 (by omega)
        have u6 := hlm 6 (by omega)
        exfalso
        omega

theorem word_7 {f g : Nat → Int32} {p e : Nat} (ht : zTp f g) (hpe : p < e) (hl : ∀ i, i < e - p → zlt (g (p + i))) : zwordEq 7 f p e ↔ zWv g p (e - p) = 278194 := by
  have hb := zWv_b (e - p) hl
  unfold zwordEq
  show (4 = e - p ∧ ∀ k, k < e - p → f (p + k) = ([104, 111, 117, 114] : List Int32).getD k 0) ↔ _
  generalize hm : e - p = m at *
  constructor
  · rintro ⟨h1, h2⟩
    subst h1
    have q0 : (g (p + 0)).toInt = 104 := by
      have z := h2 0 (by omega)
      have z1 : f (p + 0) = 104 := z
      rw [← zBy_e (zBy_of ht (p + 0)) (by decide) (by decide), z1]
      rfl
    have q1 : (g (p + 1)).toInt = 111 := by
      have z := h2 1 (by omega)
      have z1 : f (p + 1) = 111 := z
      rw [← zBy_e (zBy_of ht (p + 1)) (by decide) (by decide), z1]
      rfl
    have q2 : (g (p + 2)).toInt = 117 := by
      have z := h2 2 (by omega)
      have z1 : f (p + 2) = 117 := z
      rw [← zBy_e (zBy_of ht (p + 2)) (by decide) (by decide), z1]
      rfl
    have q3 : (g (p + 3)).toInt = 114 := by
      have z := h2 3 (by omega)
      have z1 : f (p + 3) = 114 := z
      rw [← zBy_e (zBy_of ht (p + 3)) (by decide) (by decide), z1]
      rfl
    simp only [zWv, q0, q1, q2, q3]
    decide
  · intro h
    rcases Nat.lt_or_ge 7 m with h7 | h7
    · exfalso
      have := hb.2 h7
      omega
    · have hlm : ∀ i, i < m → 97 ≤ (g (p + i)).toInt ∧ (g (p + i)).toInt ≤ 122 := hl
      rcases (show m = 0 ∨ m = 1 ∨ m = 2 ∨ m = 3 ∨ m = 4 ∨ m = 5 ∨ m = 6 ∨ m = 7 by omega) with rfl | rfl | rfl | rfl | rfl | rfl | rfl | rfl
      · omega
      · have h9 : (0) * 32 + (g (p + 0)).toInt - 96 = 278194 := h
        have u0 := hlm 0 (by omega)
        exfalso
        omega
      · have h9 : ((0) * 32 + (g (p + 0)).toInt - 96) * 32 + (g (p + 1)).toInt - 96 = 278194 := h
        have u0 := hlm 0 (by omega)
        have u1 := hlm 1 (by omega)
        exfalso
        omega
      · have h9 : (((0) * 32 + (g (p + 0)).toInt - 96) * 32 + (g (p + 1)).toInt - 96) * 32 + (g (p + 2)).toInt - 96 = 278194 := h
        have u0 := hlm 0 (by omega)
        have u1 := hlm 1 (by omega)
        have u2 := hlm 2 (by omega)
        exfalso
        omega
      · have h9 : ((((0) * 32 + (g (p + 0)).toInt - 96) * 32 + (g (p + 1)).toInt - 96) * 32 + (g (p + 2)).toInt - 96) * 32 + (g (p + 3)).toInt - 96 = 278194 := h
        have u0 := hlm 0 (by omega)
        have u1 := hlm 1 (by omega)
        have u2 := hlm 2 (by omega)
        have u3 := hlm 3 (by omega)
        refine ⟨rfl, fun k hk => ?_⟩
        have v0 : f (p + 0) = 104 := by
          have z : (f (p + 0)).toInt = 104 := (zBy_e (A := 104) (zBy_of ht (p + 0)) (by decide) (by decide)).mpr (by omega)
          rw [fa_eq, z]
          rfl
        have v1 : f (p + 1) = 111 := by
          have z : (f (p + 1)).toInt = 111 := (zBy_e (A := 111) (zBy_of ht (p + 1)) (by decide) (by decide)).mpr (by omega)
          rw [fa_eq, z]
          rfl
        have v2 : f (p + 2) = 117 := by
          have z : (f (p + 2)).toInt = 117 := (zBy_e (A := 117) (zBy_of ht (p + 2)) (by decide) (by decide)).mpr (by omega)
          rw [fa_eq, z]
          rfl
        have v3 : f (p + 3) = 114 := by
          have z : (f (p + 3)).toInt = 114 := (zBy_e (A := 114) (zBy_of ht (p + 3)) (by decide) (by decide)).mpr (by omega)
          rw [fa_eq, z]
          rfl
        rcases (show k = 0 ∨ k = 1 ∨ k = 2 ∨ k = 3 by omega) with rfl | rfl | rfl | rfl
        · exact v0
        · exact v1
        · exact v2
        · exact v3
      · have h9 : (((((0) * 32 + (g (p + 0)).toInt - 96) * 32 + (g (p + 1)).toInt - 96) * 32 + (g (p + 2)).toInt - 96) * 32 + (g (p + 3)).toInt - 96) * 32 + (g (p + 4)).toInt - 96 = 278194 := h
        have u0 := hlm 0 (by omega)
        have u1 := hlm 1 (by omega)
        have u2 := hlm 2 (by omega)
        have u3 := hlm 3 (by omega)
        have u4 := hlm 4 (by omega)
        exfalso
        omega
      · have h9 : ((((((0) * 32 + (g (p + 0)).toInt - 96) * 32 + (g (p + 1)).toInt - 96) * 32 + (g (p + 2)).toInt - 96) * 32 + (g (p + 3)).toInt - 96) * 32 + (g (p + 4)).toInt - 96) * 32 + (g (p + 5)).toInt - 96 = 278194 := h
        have u0 := hlm 0 (by omega)
        have u1 := hlm 1 (by omega)
        have u2 := hlm 2 (by omega)
        have u3 := hlm 3 (by omega)
        have u4 := hlm 4 (by omega)
        have u5 := hlm 5 (by omega)
        exfalso
        omega
      · have h9 : (((((((0) * 32 + (g (p + 0)).toInt - 96) * 32 + (g (p + 1)).toInt - 96) * 32 + (g (p + 2)).toInt - 96) * 32 + (g (p + 3)).toInt - 96) * 32 + (g (p + 4)).toInt - 96) * 32 + (g (p + 5)).toInt - 96) * 32 + (g (p + 6)).toInt - 96 = 278194 := h
        have u0 := hlm 0 (by omega)
        have u1 := hlm 1 (by omega)
        have u2 := hlm 2 (by omega)
        have u3 := hlm 3 (by omega)
        have u4 := hlm 4 (by omega)
        have u5 := hlm 5 (by omega)
        have u6 := hlm 6 (by omega)
        exfalso
        omega

/-- the token of a word, of a sign -/
def zTw (f : Nat → Int32) (p e : Nat) (v : Int32) : Prop := (v = -7 ∧ zwordEq 0 f p e) ∨ (v = -8 ∧ zwordEq 1 f p e) ∨ (v = -9 ∧ zwordEq 2 f p e) ∨ (v = -10 ∧ zwordEq 3 f p e) ∨ (v = -11 ∧ zwordEq 4 f p e) ∨ (v = -12 ∧ zwordEq 5 f p e) ∨ (v = -13 ∧ zwordEq 6 f p e) ∨ (v = -14 ∧ zwordEq 7 f p e) ∨ (v = -2 ∧ ¬ zwordEq 0 f p e ∧ ¬ zwordEq 1 f p e ∧ ¬ zwordEq 2 f p e ∧ ¬ zwordEq 3 f p e ∧ ¬ zwordEq 4 f p e ∧ ¬ zwordEq 5 f p e ∧ ¬ zwordEq 6 f p e ∧ ¬ zwordEq 7 f p e)
def zTg (x v : Int32) : Prop := (x.toInt = 45 ∧ v = -6) ∨ (x.toInt = 59 ∧ v = -3) ∨ (x.toInt = 60 ∧ v = -4) ∨ (x.toInt = 62 ∧ v = -5) ∨ (¬ x.toInt = 45 ∧ ¬ x.toInt = 59 ∧ ¬ x.toInt = 60 ∧ ¬ x.toInt = 62 ∧ v = -2)
def zTk (f g : Nat → Int32) (p e : Nat) (v : Int32) : Prop := (zlt (g p) → zTw f p e v) ∧ (zdg (g p) → v.toInt = zNv g p (e - p)) ∧ (¬ zlt (g p) → ¬ zdg (g p) → zTg (f p) v)
/-- sort and worth in the reference, against the station's token -/
def zRt (so : Int32) (wo : Int64) (v : Int32) : Prop := (so = 0 ↔ v = -1) ∧ (((so = 1 ∧ wo.toInt = 595572) ↔ v = -7) ∧ ((so = 1 ∧ wo.toInt = 114052) ↔ v = -8) ∧ ((so = 1 ∧ wo.toInt = 294) ↔ v = -9) ∧ ((so = 1 ∧ wo.toInt = 605693422) ↔ v = -10) ∧ ((so = 1 ∧ wo.toInt = 498) ↔ v = -11) ∧ ((so = 1 ∧ wo.toInt = 1476) ↔ v = -12) ∧ ((so = 1 ∧ wo.toInt = 763332) ↔ v = -13) ∧ ((so = 1 ∧ wo.toInt = 278194) ↔ v = -14)) ∧ (((so = 3 ∧ wo.toInt = 59) ↔ v = -3) ∧ ((so = 3 ∧ wo.toInt = 60) ↔ v = -4) ∧ ((so = 3 ∧ wo.toInt = 62) ↔ v = -5) ∧ ((so = 3 ∧ wo.toInt = 45) ↔ v = -6)) ∧ (so = 2 ↔ 0 ≤ v.toInt) ∧ (so = 2 → (v.toInt ≤ 1000 → wo.toInt = v.toInt) ∧ (1000 < v.toInt → 1000 < wo.toInt))
