/-! ===== Int32 by its bits: bt x i ===== -/
def bt (x : Int32) (i : Nat) : Bool := x.toBitVec.getLsbD i
theorem b_ext {x y : Int32} (h : ∀ i, i < 32 → bt x i = bt y i) : x = y := Int32.toBitVec_inj.mp (BitVec.eq_of_getLsbD_eq (fun i hi => h i hi))
theorem b_or (x y : Int32) (i : Nat) : bt (x ||| y) i = (bt x i || bt y i) := by unfold bt; rw [Int32.toBitVec_or, BitVec.getLsbD_or]
theorem b_and (x y : Int32) (i : Nat) : bt (x &&& y) i = (bt x i && bt y i) := by unfold bt; rw [Int32.toBitVec_and, BitVec.getLsbD_and]
theorem b_xor (x y : Int32) (i : Nat) : bt (x ^^^ y) i = (bt x i ^^ bt y i) := by unfold bt; rw [Int32.toBitVec_xor, BitVec.getLsbD_xor]
theorem b_big {x : Int32} {i : Nat} (h : 32 ≤ i) : bt x i = false := BitVec.getLsbD_of_ge _ _ h
theorem b_255 (i : Nat) : bt 255 i = decide (i < 8) := by
  rcases Nat.lt_or_ge i 32 with h | h
  · exact (by decide +kernel : ∀ i, i < 32 → bt 255 i = decide (i < 8)) i h
  · rw [b_big h, decide_eq_false (by omega)]
theorem b_65535 (i : Nat) : bt 65535 i = decide (i < 16) := by
  rcases Nat.lt_or_ge i 32 with h | h
  · exact (by decide +kernel : ∀ i, i < 32 → bt 65535 i = decide (i < 16)) i h
  · rw [b_big h, decide_eq_false (by omega)]
theorem b_m1 : ∀ i, i < 32 → bt (-1) i = true := by decide +kernel
theorem b_0 (i : Nat) : bt 0 i = false := BitVec.getLsbD_zero
theorem s_l : ∀ n, n < 32 → ((nI n &&& 31).toBitVec.smod 32).toNat = n := by decide +kernel
theorem s_u : ∀ n, n < 32 → (((nI n).toUInt32 &&& Int32.toUInt32 31).toBitVec % 32).toNat = n := by decide +kernel
theorem b_shl (n : Nat) (hn : n < 32) (x : Int32) {i : Nat} (hi : i < 32) : bt (x <<< (nI n &&& 31)) i = (decide (n ≤ i) && bt x (i - n)) := by
  unfold bt
  rw [Int32.toBitVec_shiftLeft]
  show (x.toBitVec <<< ((nI n &&& 31).toBitVec.smod 32).toNat).getLsbD i = _
  rw [s_l n hn, BitVec.getLsbD_shiftLeft]
  rcases Nat.lt_or_ge i n with h | h
  · simp [h, Nat.not_le.mpr h]
  · simp [hi, h, Nat.not_lt.mpr h]
theorem b_ushr (n : Nat) (hn : n < 32) (x : Int32) (i : Nat) : bt ((x.toUInt32 >>> ((nI n).toUInt32 &&& Int32.toUInt32 31)).toInt32) i = bt x (n + i) := by
  show (x.toUInt32 >>> ((nI n).toUInt32 &&& Int32.toUInt32 31)).toBitVec.getLsbD i = x.toUInt32.toBitVec.getLsbD (n + i)
  rw [UInt32.toBitVec_shiftRight]
  show (x.toUInt32.toBitVec >>> (((nI n).toUInt32 &&& Int32.toUInt32 31).toBitVec % 32).toNat).getLsbD i = _
  rw [s_u n hn, BitVec.getLsbD_ushiftRight]
theorem b_sshr (n : Nat) (hn : n < 32) (x : Int32) {i : Nat} (hi : i < 32) : bt (x >>> (nI n &&& 31)) i = if n + i < 32 then bt x (n + i) else bt x 31 := by
  unfold bt
  rw [Int32.toBitVec_shiftRight]
  show (x.toBitVec.sshiftRight ((nI n &&& 31).toBitVec.smod 32).toNat).getLsbD i = _
  rw [s_l n hn, BitVec.getLsbD_sshiftRight, BitVec.msb_eq_getLsbD_last]
  simp [hi]
theorem b_shl8 (x : Int32) {i : Nat} (hi : i < 32) : bt (x <<< ((8 : Int32) &&& 31)) i = (decide (8 ≤ i) && bt x (i - 8)) := b_shl 8 (by omega) x hi
theorem b_shl16 (x : Int32) {i : Nat} (hi : i < 32) : bt (x <<< ((16 : Int32) &&& 31)) i = (decide (16 ≤ i) && bt x (i - 16)) := b_shl 16 (by omega) x hi
theorem b_shl24 (x : Int32) {i : Nat} (hi : i < 32) : bt (x <<< ((24 : Int32) &&& 31)) i = (decide (24 ≤ i) && bt x (i - 24)) := b_shl 24 (by omega) x hi
theorem b_sshr8 (x : Int32) {i : Nat} (hi : i < 32) : bt (x >>> ((8 : Int32) &&& 31)) i = if 8 + i < 32 then bt x (8 + i) else bt x 31 := b_sshr 8 (by omega) x hi
/-! ===== nI under and, xor, >>>, one bit, 65535 ===== -/
theorem nx_and (a b : Nat) : nI a &&& nI b = nI (a &&& b) := by
  apply Int32.toBitVec_inj.1
  show BitVec.ofNat 32 a &&& BitVec.ofNat 32 b = BitVec.ofNat 32 (a &&& b)
  apply BitVec.eq_of_getLsbD_eq
  intro i hi
  simp [hi]
theorem nx_xor (a b : Nat) : nI a ^^^ nI b = nI (a ^^^ b) := by
  apply Int32.toBitVec_inj.1
  show BitVec.ofNat 32 a ^^^ BitVec.ofNat 32 b = BitVec.ofNat 32 (a ^^^ b)
  apply BitVec.eq_of_getLsbD_eq
  intro i hi
  simp [hi]
/-! MASKS OF PEOPLE (the rows bt .. nx_xor began as the kit's laws/BITS) -/
theorem bt_nI {m p : Nat} (hp : p < 32) : bt (nI m) p = m.testBit p := by
  show (BitVec.ofNat 32 m).getLsbD p = _
  rw [BitVec.getLsbD_ofNat]
  simp [hp]
theorem bt_one {p : Nat} (hp : p < 32) : bt 1 p = decide (p = 0) := (by decide +kernel : ∀ p, p < 32 → bt 1 p = decide (p = 0)) p hp
theorem bt_sh {j p : Nat} (hj : j < 32) (hp : p < 32) : bt ((1 : Int32) <<< (nI j &&& 31)) p = decide (p = j) := by
  rw [b_shl j hj 1 hp]
  rcases Nat.lt_or_ge p j with h | h
  · rw [decide_eq_false (by omega), decide_eq_false (by omega)]
    rfl
  · rw [decide_eq_true h, bt_one (by omega)]
    by_cases e : p = j
    · rw [decide_eq_true e, decide_eq_true (by omega)]
      rfl
    · rw [decide_eq_false e, decide_eq_false (by omega)]
      rfl
/-- the people of a set, as bits -/
def zMk (x : Int32) (F : Nat → Prop) : Prop := ∀ p, p < 32 → (bt x p = true ↔ p < 14 ∧ F p)
theorem zMk_0 : zMk 0 (fun _ => False) := fun p _ => by rw [b_0]; simp
theorem zMk_or {x y : Int32} {F G : Nat → Prop} (h : zMk x F) (h2 : zMk y G) : zMk (x ||| y) (fun p => F p ∨ G p) := by
  intro p hp
  rw [b_or, Bool.or_eq_true, h p hp, h2 p hp]
  constructor
  · rintro (z | z)
    · exact ⟨z.1, Or.inl z.2⟩
    · exact ⟨z.1, Or.inr z.2⟩
  · rintro ⟨z1, z | z⟩
    · exact Or.inl ⟨z1, z⟩
    · exact Or.inr ⟨z1, z⟩
theorem zMk_sh {j : Nat} (hj : j < 14) : zMk ((1 : Int32) <<< (nI j &&& 31)) (fun p => p = j) := by
  intro p hp
  rw [bt_sh (by omega) hp, decide_eq_true_iff]
  omega
theorem zMk_nI {m : Nat} (hm : m < 16384) : zMk (nI m) (fun p => m.testBit p = true) := by
  intro p hp
  rw [bt_nI hp]
  constructor
  · intro h
    refine ⟨?_, h⟩
    rcases Nat.lt_or_ge p 14 with h1 | h1
    · exact h1
    · exfalso
      rw [Nat.testBit_lt_two_pow (Nat.lt_of_lt_of_le hm (by exact Nat.pow_le_pow_right (by omega) h1 : 2 ^ 14 ≤ 2 ^ p))] at h
      exact Bool.noConfusion h
  · exact fun h => h.2
theorem zMk_c {x : Int32} {F G : Nat → Prop} (h : zMk x F) (e : ∀ p, p < 14 → (F p ↔ G p)) : zMk x G := by
  intro p hp
  rw [h p hp]
  constructor
  · exact fun z => ⟨z.1, (e p z.1).mp z.2⟩
  · exact fun z => ⟨z.1, (e p z.1).mpr z.2⟩
theorem zMk_and {x y : Int32} {F G : Nat → Prop} (h : zMk x F) (h2 : zMk y G) : zMk (x &&& (y ^^^ (-1))) (fun p => F p ∧ ¬ G p) := by
  intro p hp
  rw [b_and, b_xor, b_m1 p hp]
  have h3 := h p hp
  have h4 := h2 p hp
  cases hb : bt x p <;> cases hc : bt y p <;> rw [hb] at h3 <;> rw [hc] at h4 <;> simp at h3 h4 ⊢ <;> simp_all
/-- a set is a number below 16384 -/
theorem zMk_num {x : Int32} {F : Nat → Prop} (h : zMk x F) : ∃ m : Nat, m < 16384 ∧ x = nI m ∧ ∀ p, p < 14 → (m.testBit p = true ↔ F p) := by
  have e : x = nI x.toBitVec.toNat := by
    apply Int32.toBitVec_inj.1
    show x.toBitVec = BitVec.ofNat 32 x.toBitVec.toNat
    simp
  refine ⟨x.toBitVec.toNat, ?_, e, fun p hp => ?_⟩
  · refine Nat.lt_pow_two_of_testBit (n := 14) _ (fun i hi => ?_)
    rcases Nat.lt_or_ge i 32 with h1 | h1
    · cases hb : x.toBitVec.toNat.testBit i with
      | false => rfl
      | true =>
        exfalso
        have h2 := (h i h1).mp hb
        omega
    · exact Nat.testBit_lt_two_pow (Nat.lt_of_lt_of_le x.toBitVec.isLt (Nat.pow_le_pow_right (by omega) h1))
  · have h1 := h p (by omega)
    constructor
    · exact fun z => (h1.mp z).2
    · exact fun z => h1.mpr ⟨hp, z⟩
theorem zMk_one {x y : Int32} {F : Nat → Prop} (h : zMk x F) (h2 : zMk y F) : x = y := by
  refine b_ext (fun i hi => ?_)
  have h3 := h i hi
  rw [← h2 i hi] at h3
  cases hb : bt x i <;> cases hc : bt y i <;> rw [hb, hc] at h3 <;> simp at h3 ⊢
/-- how many of the first P -/
def zcn (F : Nat → Bool) : Nat → Nat
  | 0 => 0
  | p + 1 => zcn F p + (if F p = true then 1 else 0)
theorem zcn_mono {F : Nat → Bool} : ∀ {q p : Nat}, p ≤ q → zcn F p ≤ zcn F q
  | 0, p, h => by
    rw [show p = 0 by omega]
    exact Nat.le_refl _
  | q + 1, p, h => by
    rcases Nat.lt_or_ge p (q + 1) with h1 | h1
    · have := zcn_mono (F := F) (show p ≤ q by omega)
      show zcn F p ≤ zcn F q + (if F q = true then 1 else 0)
      omega
    · rw [show p = q + 1 by omega]
      exact Nat.le_refl _
theorem zcn_ex {F : Nat → Bool} {n : Nat} : ∀ {i : Nat}, n < zcn F i → ∃ j, j < i ∧ F j = true ∧ n ≤ zcn F j
  | 0, h => absurd h (Nat.not_lt_zero _)
  | i + 1, h => by
    have e : zcn F (i + 1) = zcn F i + (if F i = true then 1 else 0) := rfl
    rw [e] at h
    by_cases hi : F i = true
    · rw [if_pos hi] at h
      exact ⟨i, by omega, hi, by omega⟩
    · rw [if_neg hi] at h
      obtain ⟨j, h1, h2, h3⟩ := zcn_ex (show n < zcn F i by omega)
      exact ⟨j, by omega, h2, h3⟩
/-- the lowest n of a set, as the reference takes them: their bits, how many -/
def zwf (F : Nat → Bool) (n : Nat) : Nat → Nat × Nat
  | 0 => (0, 0)
  | p + 1 => if (zwf F n p).2 < n ∧ F p = true then ((zwf F n p).1 ||| 2 ^ p, (zwf F n p).2 + 1) else zwf F n p
theorem zwf_c {F G : Nat → Bool} {n : Nat} : ∀ P, (∀ p, p < P → F p = G p) → zwf F n P = zwf G n P
  | 0, _ => rfl
  | P + 1, h => by
    unfold zwf
    rw [zwf_c P (fun p hp => h p (by omega)), h P (by omega)]
theorem zwf_2 {F : Nat → Bool} {n : Nat} : ∀ P, (zwf F n P).2 = min n (zcn F P)
  | 0 => by
    show 0 = min n 0
    omega
  | P + 1 => by
    have ih := zwf_2 (F := F) (n := n) P
    unfold zwf zcn
    by_cases h : F P = true
    · rw [if_pos h]
      split
      · show (zwf F n P).2 + 1 = _
        omega
      · next h2 =>
        have : ¬ (zwf F n P).2 < n := fun z => h2 ⟨z, h⟩
        omega
    · rw [if_neg h, if_neg (fun z => h z.2)]
      omega
theorem zwf_1 {F : Nat → Bool} {n : Nat} : ∀ P q, (zwf F n P).1.testBit q = true ↔ (q < P ∧ F q = true ∧ zcn F q < n)
  | 0, q => by
    show Nat.testBit 0 q = true ↔ _
    simp
  | P + 1, q => by
    have ih := zwf_1 (F := F) (n := n) P q
    have i2 := zwf_2 (F := F) (n := n) P
    unfold zwf
    split
    · next h =>
      show ((zwf F n P).1 ||| 2 ^ P).testBit q = true ↔ _
      rw [Nat.testBit_or, Nat.testBit_two_pow, Bool.or_eq_true, decide_eq_true_iff, ih]
      constructor
      · rintro (z | z)
        · exact ⟨by omega, z.2⟩
        · subst z
          exact ⟨by omega, h.2, by omega⟩
      · rintro ⟨z1, z2, z3⟩
        rcases Nat.lt_or_ge q P with z4 | z4
        · exact Or.inl ⟨z4, z2, z3⟩
        · exact Or.inr (by omega)
    · next h =>
      rw [ih]
      constructor
      · exact fun z => ⟨by omega, z.2⟩
      · rintro ⟨z1, z2, z3⟩
        rcases Nat.lt_or_ge q P with z4 | z4
        · exact ⟨z4, z2, z3⟩
        · exfalso
          have e : q = P := by omega
          subst e
          exact h ⟨by omega, z2⟩
theorem zwf_lt {F : Nat → Bool} {n P : Nat} : (zwf F n P).1 < 2 ^ P := by
  refine Nat.lt_pow_two_of_testBit _ (fun i hi => ?_)
  cases hb : (zwf F n P).1.testBit i with
  | false => rfl
  | true =>
    exfalso
    have := (zwf_1 P i).mp hb
    omega
theorem zcn_le {F G : Nat → Bool} : ∀ P, (∀ p, p < P → F p = true → G p = true) → zcn F P ≤ zcn G P
  | 0, _ => Nat.le_refl _
  | P + 1, h => by
    have ih := zcn_le P (fun p hp => h p (by omega))
    have h0 := h P (by omega)
    unfold zcn
    by_cases hF : F P = true
    · rw [if_pos hF, if_pos (h0 hF)]
      omega
    · rw [if_neg hF]
      omega
theorem zcn_up {F : Nat → Bool} {P : Nat} (h : ∀ p, P ≤ p → F p = false) : ∀ c, zcn F (P + c) = zcn F P
  | 0 => rfl
  | c + 1 => by
    show zcn F (P + c) + (if F (P + c) = true then 1 else 0) = _
    rw [zcn_up h c, h (P + c) (by omega)]
    rfl
theorem zcn_c {F G : Nat → Bool} : ∀ P, (∀ p, p < P → F p = G p) → zcn F P = zcn G P
  | 0, _ => rfl
  | P + 1, h => by
    unfold zcn
    rw [zcn_c P (fun p hp => h p (by omega)), h P (by omega)]
/-- the lowest bit taken away -/
theorem hb_bits : ∀ (n m : Nat), m < n → 0 < m → ∃ i, m.testBit i = true ∧ (∀ j, j < i → m.testBit j = false) ∧ ∀ j, (m &&& (m - 1)).testBit j = (m.testBit j && decide (j ≠ i))
  | 0, m, h, _ => absurd h (Nat.not_lt_zero _)
  | n + 1, m, hn, hm => by
    rcases Nat.mod_two_eq_zero_or_one m with h | h
    · obtain ⟨i, h1, h2, h3⟩ := hb_bits n (m / 2) (by omega) (by omega)
      refine ⟨i + 1, ?_, ?_, ?_⟩
      · rw [Nat.testBit_add_one]
        exact h1
      · intro j hj
        cases j with
        | zero =>
          rw [Nat.testBit_zero, decide_eq_false (by omega)]
        | succ j =>
          rw [Nat.testBit_add_one]
          exact h2 j (by omega)
      · intro j
        cases j with
        | zero =>
          rw [Nat.testBit_and, Nat.testBit_zero, decide_eq_false (by omega)]
          rfl
        | succ j =>
          have h4 := h3 j
          rw [Nat.testBit_and] at h4
          rw [Nat.testBit_and, Nat.testBit_add_one, Nat.testBit_add_one, show (m - 1) / 2 = m / 2 - 1 by omega, h4]
          by_cases e : j = i
          · rw [decide_eq_false (by omega), decide_eq_false (by omega)]
          · rw [decide_eq_true (by omega), decide_eq_true (by omega)]
    · refine ⟨0, ?_, fun j hj => absurd hj (Nat.not_lt_zero j), ?_⟩
      · rw [Nat.testBit_zero, decide_eq_true h]
      · intro j
        cases j with
        | zero =>
          rw [Nat.testBit_and, Nat.testBit_zero (m - 1), decide_eq_false (by omega)]
          simp
        | succ j =>
          rw [Nat.testBit_and, Nat.testBit_add_one, Nat.testBit_add_one, show (m - 1) / 2 = m / 2 by omega, decide_eq_true (by omega)]
          cases (m / 2).testBit j <;> rfl
def zhi (m : Nat) : Nat → Nat
  | 0 => m
  | n + 1 => zhi m n &&& (zhi m n - 1)
theorem zhi_le (m : Nat) : ∀ n, zhi m n ≤ m
  | 0 => Nat.le_refl _
  | n + 1 => Nat.le_trans Nat.and_le_left (zhi_le m n)
theorem zhi_b (m : Nat) : ∀ n q, (zhi m n).testBit q = true ↔ (m.testBit q = true ∧ n ≤ zcn m.testBit q)
  | 0, q => by
    show m.testBit q = true ↔ _
    simp
  | n + 1, q => by
    have ih := zhi_b m n
    show (zhi m n &&& (zhi m n - 1)).testBit q = true ↔ _
    rcases Nat.eq_zero_or_pos (zhi m n) with hz | hz
    · rw [hz]
      have ih2 := ih q
      rw [hz] at ih2
      simp only [Nat.zero_and, Nat.zero_testBit] at ih2 ⊢
      constructor
      · intro z
        exact Bool.noConfusion z
      · rintro ⟨z1, z2⟩
        exact ih2.mpr ⟨z1, by omega⟩
    · obtain ⟨i, h1, h2, h3⟩ := hb_bits _ (zhi m n) (Nat.lt_succ_self _) hz
      rw [h3 q, Bool.and_eq_true, decide_eq_true_iff, ih q]
      have hi := (ih i).mp h1
      have hc : zcn m.testBit i = n := by
        rcases Nat.lt_or_ge n (zcn m.testBit i) with z | z
        · exfalso
          obtain ⟨j, z1, z2, z3⟩ := zcn_ex z
          have z4 := (ih j).mpr ⟨z2, z3⟩
          rw [h2 j z1] at z4
          exact Bool.noConfusion z4
        · omega
      have hi1 : zcn m.testBit (i + 1) = n + 1 := by
        show zcn m.testBit i + (if m.testBit i = true then 1 else 0) = n + 1
        rw [if_pos hi.1, hc]
      constructor
      · rintro ⟨⟨z1, z2⟩, z3⟩
        refine ⟨z1, ?_⟩
        rcases Nat.lt_or_ge q i with z4 | z4
        · exfalso
          have z5 := (ih q).mpr ⟨z1, z2⟩
          rw [h2 q z4] at z5
          exact Bool.noConfusion z5
        · have := zcn_mono (F := m.testBit) (show i + 1 ≤ q by omega)
          omega
      · rintro ⟨z1, z2⟩
        refine ⟨⟨z1, by omega⟩, fun e => ?_⟩
        rw [e] at z2
        omega
/-- the number of bits, as the JDK counts them -/
def zb1 (m : Nat) : Nat := m - (m / 2 &&& 1431655765)
def zb2 (m : Nat) : Nat := (m &&& 858993459) + (m / 4 &&& 858993459)
def zb3 (m : Nat) : Nat := (m + m / 16) &&& 252645135
def zb4 (m : Nat) : Nat := m + m / 256
def zb5 (m : Nat) : Nat := (m + m / 65536) &&& 63
def zbc (m : Nat) : Nat := zb5 (zb4 (zb3 (zb2 (zb1 m))))
def zpc (m : Nat) : Nat := m % 2 + m / 2 % 2 + m / 4 % 2 + m / 8 % 2 + m / 16 % 2 + m / 32 % 2 + m / 64 % 2 + m / 128 % 2 + m / 256 % 2 + m / 512 % 2 + m / 1024 % 2 + m / 2048 % 2 + m / 4096 % 2 + m / 8192 % 2
theorem zbc_all : ∀ (x y : Fin 128), Nat.beq (zbc (128 * x.val + y.val)) (zpc (128 * x.val + y.val)) = true := by decide +kernel
theorem zcn_pc (m : Nat) : zcn m.testBit 14 = zpc m := by
  have h : ∀ p, (if m.testBit p = true then 1 else 0) = m / 2 ^ p % 2 := by
    intro p
    rw [Nat.testBit_eq_decide_div_mod_eq]
    rcases Nat.mod_two_eq_zero_or_one (m / 2 ^ p) with e | e <;> rw [e] <;> rfl
  simp only [zcn, h, zpc]
  simp
theorem zbc_at {m : Nat} (hm : m < 16384) : zbc m = zcn m.testBit 14 := by
  have h := zbc_all ⟨m / 128, by omega⟩ ⟨m % 128, by omega⟩
  rw [show 128 * (m / 128) + m % 128 = m by omega] at h
  rw [zcn_pc]
  exact Nat.eq_of_beq_eq_true h
/-- the lowest n of a set, as the station takes them -/
theorem zlow {m n : Nat} (hm : m < 16384) : nI m &&& (nI (zhi m n) ^^^ (-1)) = nI (zwf m.testBit n 14).1 := by
  have h1 := zMk_and (zMk_nI hm) (zMk_nI (m := zhi m n) (Nat.lt_of_le_of_lt (zhi_le m n) hm))
  refine zMk_one h1 (zMk_c (zMk_nI (zwf_lt (P := 14))) (fun p hp => ?_))
  rw [zwf_1 14 p, zhi_b m n p]
  constructor
  · rintro ⟨z1, z2, z3⟩
    exact ⟨z2, fun z => by omega⟩
  · rintro ⟨z1, z2⟩
    refine ⟨hp, z1, ?_⟩
    rcases Nat.lt_or_ge (zcn m.testBit p) n with z3 | z3
    · exact z3
    · exact absurd ⟨z1, z3⟩ z2
/-- a person has the skills -/
theorem skill_iff (x y : Int32) : x &&& (y ^^^ (-1)) = 0 ↔ y &&& x = x := by
  constructor
  · intro h
    refine b_ext (fun i hi => ?_)
    have h2 := congrArg (fun z => bt z i) h
    simp only [b_and, b_xor, b_m1 i hi, b_0] at h2
    rw [b_and]
    cases hb : bt x i <;> cases hc : bt y i <;> rw [hb, hc] at h2 <;> simp at h2 ⊢
  · intro h
    refine b_ext (fun i hi => ?_)
    have h2 := congrArg (fun z => bt z i) h
    simp only [b_and] at h2
    rw [b_and, b_xor, b_m1 i hi, b_0]
    cases hb : bt x i <;> cases hc : bt y i <;> rw [hb, hc] at h2 <;> simp at h2 ⊢
/-- one bit, as the reference asks for it -/
theorem bit_iff (x : Int32) {p : Nat} (hp : p < 32) : (x >>> (nI p &&& 31)) &&& 1 = 0 ↔ bt x p = false := by
  have h0 : bt ((x >>> (nI p &&& 31)) &&& 1) 0 = bt x p := by
    rw [b_and, b_sshr p hp x (by omega), if_pos (by omega), bt_one (by omega)]
    simp
  constructor
  · intro h
    rw [h, b_0] at h0
    exact h0.symm
  · intro h
    refine b_ext (fun i hi => ?_)
    rw [b_0]
    by_cases e : i = 0
    · rw [e, h0]
      exact h
    · rw [b_and, bt_one hi, decide_eq_false e]
      simp
