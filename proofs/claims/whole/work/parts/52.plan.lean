/-! THE PLAN: what is planned -/
def zlk (nd o : Int32) : Int32 := if 0 < nd - o then nd - o else 0
theorem zlk_i {nd o : Int32} (h1 : -1000 ≤ nd.toInt ∧ nd.toInt ≤ 10000) (h2 : 0 ≤ o.toInt ∧ o.toInt ≤ 4000) : (zlk nd o).toInt = max 0 (nd.toInt - o.toInt) := by
  have e : (nd - o).toInt = nd.toInt - o.toInt := i32_sub (by omega)
  have z : (0 : Int32).toInt = 0 := rfl
  unfold zlk
  split
  · next h => rw [fa_lt] at h; omega
  · next h => rw [fa_lt] at h; omega
/-- the engines of st that bf doesn't have -/
def zdf (st bf : Nat) : Nat := st ^^^ (st &&& bf)
theorem zdf_b (st bf p : Nat) : (zdf st bf).testBit p = (st.testBit p && !bf.testBit p) := by
  unfold zdf
  rw [Nat.testBit_xor, Nat.testBit_and]
  cases st.testBit p <;> cases bf.testBit p <;> rfl
theorem zdf_le (st bf : Nat) : zdf st bf ≤ st := by
  refine Nat.le_of_testBit (fun i h => ?_)
  rw [zdf_b, Bool.and_eq_true] at h
  exact h.1
theorem zdf_i {st bf : Nat} : nI st &&& (nI bf ^^^ (-1)) = nI (zdf st bf) := by
  refine b_ext (fun i hi => ?_)
  rw [b_and, b_xor, b_m1 i hi, bt_nI hi, bt_nI hi, bt_nI hi, zdf_b]
  cases st.testBit i <;> cases bf.testBit i <;> rfl
theorem bit01 {st e : Nat} (hs : st < 2 ^ 31) (he : e < 32) : (nI st >>> (nI e &&& 31)) &&& 1 = (if st.testBit e = true then 1 else 0) := by
  rw [pk_shrN hs _ e (s_l e he)]
  show nI (st / 2 ^ e) &&& nI 1 = _
  rw [nx_and, Nat.and_one_is_mod, Nat.testBit_eq_decide_div_mod_eq]
  rcases Nat.mod_two_eq_zero_or_one (st / 2 ^ e) with h | h <;> rw [h] <;> rfl
/-- the least, and the first that has it -/
def zbs (P : Nat → Bool) (f : Nat → Int) : Nat → Int × Nat
  | 0 => (1000000, 0)
  | k + 1 => if P k = true ∧ f k < (zbs P f k).1 then (f k, k) else zbs P f k
theorem zbs_p (P : Nat → Bool) (f : Nat → Int) : ∀ K, (zbs P f K = (1000000, 0) ∧ ∀ b, b < K → P b = true → 1000000 ≤ f b) ∨ ((zbs P f K).2 < K ∧ P (zbs P f K).2 = true ∧ (zbs P f K).1 = f (zbs P f K).2 ∧ (zbs P f K).1 < 1000000 ∧ (∀ b, b < K → P b = true → (zbs P f K).1 ≤ f b) ∧ ∀ b, b < (zbs P f K).2 → P b = true → (zbs P f K).1 < f b)
  | 0 => Or.inl ⟨rfl, fun b hb => absurd hb (Nat.not_lt_zero b)⟩
  | K + 1 => by
    have ih := zbs_p P f K
    have e : zbs P f (K + 1) = if P K = true ∧ f K < (zbs P f K).1 then (f K, K) else zbs P f K := rfl
    rw [e]
    by_cases h : P K = true ∧ f K < (zbs P f K).1
    · rw [if_pos h]
      right
      refine ⟨Nat.lt_succ_self K, h.1, rfl, ?_, fun b hb hP => ?_, fun b hb hP => ?_⟩
      · show f K < 1000000
        rcases ih with z | z
        · rw [z.1] at h
          exact h.2
        · have := z.2.2.2.1
          omega
      · show f K ≤ f b
        rcases Nat.lt_or_ge b K with c | c
        · rcases ih with z | z
          · have z1 := z.2 b c hP
            rw [z.1] at h
            have z2 : f K < 1000000 := h.2
            omega
          · have z1 := z.2.2.2.2.1 b c hP
            omega
        · rw [show b = K by omega]
          exact Int.le_refl _
      · show f K < f b
        have hb' : b < K := hb
        rcases ih with z | z
        · have z1 := z.2 b hb' hP
          rw [z.1] at h
          have z2 : f K < 1000000 := h.2
          omega
        · have z1 := z.2.2.2.2.1 b hb' hP
          omega
    · rw [if_neg h]
      rcases ih with z | z
      · left
        refine ⟨z.1, fun b hb hP => ?_⟩
        rcases Nat.lt_or_ge b K with c | c
        · exact z.2 b c hP
        · rw [show b = K by omega] at hP ⊢
          rw [z.1] at h
          rcases Int.lt_or_le (f K) 1000000 with c2 | c2
          · exact absurd ⟨hP, c2⟩ h
          · exact c2
      · right
        refine ⟨by omega, z.2.1, z.2.2.1, z.2.2.2.1, fun b hb hP => ?_, z.2.2.2.2.2⟩
        rcases Nat.lt_or_ge b K with c | c
        · exact z.2.2.2.2.1 b c hP
        · rw [show b = K by omega] at hP ⊢
          rcases Int.lt_or_le (f K) (zbs P f K).1 with c2 | c2
          · exact absurd ⟨hP, c2⟩ h
          · exact c2
def zPm (L : Nat → Nat → Int32) (K i : Nat) : Nat → Bool := fun st => decide (L i st = L i (K - 1))
def zFu (L : Nat → Nat → Int32) (S B : Nat → Int32) (K n : Nat) : Nat → Nat → Int
  | 0, _ => 0
  | k + 1, bf => (zbs (zPm L K (n - (k + 1))) (fun st => (B st).toInt + zFu L S B K n k st + (S (zdf st bf)).toInt) K).1
def zfv (L : Nat → Nat → Int32) (S B : Nat → Int32) (K n i bf : Nat) : Nat → Int := fun st => (B st).toInt + zFu L S B K n (n - (i + 1)) st + (S (zdf st bf)).toInt
def zCh (L : Nat → Nat → Int32) (S B : Nat → Int32) (K n i bf : Nat) : Nat := (zbs (zPm L K i) (zfv L S B K n i bf) K).2
theorem zFu_s {L : Nat → Nat → Int32} {S B : Nat → Int32} {K n i bf : Nat} (hi : i < n) : zFu L S B K n (n - i) bf = (zbs (zPm L K i) (zfv L S B K n i bf) K).1 := by
  have e : n - i = (n - (i + 1)) + 1 := by omega
  rw [e]
  show (zbs (zPm L K (n - (n - (i + 1) + 1))) (fun st => (B st).toInt + zFu L S B K n (n - (i + 1)) st + (S (zdf st bf)).toInt) K).1 = _
  rw [show n - (n - (i + 1) + 1) = i by omega]
  rfl
def zPD (L : Nat → Nat → Int32) (S B : Nat → Int32) (K n : Nat) : Prop := 0 < K ∧ K ≤ 16 ∧ n ≤ 100 ∧ (∀ st, st < K → (0 ≤ (B st).toInt ∧ (B st).toInt ≤ 4000) ∧ (0 ≤ (S st).toInt ∧ (S st).toInt ≤ 4000)) ∧ ∀ i st, i < n → st < K → (0 ≤ (L i st).toInt ∧ (L i st).toInt ≤ 10000) ∧ (L i (K - 1)).toInt ≤ (L i st).toInt
theorem zFu_b {L : Nat → Nat → Int32} {S B : Nat → Int32} {K n : Nat} (h : zPD L S B K n) : ∀ k, k ≤ n → ∀ st, st < K → 0 ≤ zFu L S B K n k st ∧ zFu L S B K n k st ≤ 8000 * (k : Int)
  | 0, _, st, _ => ⟨Int.le_refl _, Int.le_refl _⟩
  | k + 1, hk, st, hst => by
    have ih := zFu_b h k (by omega)
    obtain ⟨h1, h2, h3, h4, h5⟩ := h
    have z := zbs_p (zPm L K (n - (k + 1))) (fun x => (B x).toInt + zFu L S B K n k x + (S (zdf x st)).toInt) K
    have hf : ∀ b, b < K → 0 ≤ (B b).toInt + zFu L S B K n k b + (S (zdf b st)).toInt ∧ (B b).toInt + zFu L S B K n k b + (S (zdf b st)).toInt ≤ 8000 * ((k + 1 : Nat) : Int) := by
      intro b hb
      have z1 := (h4 b hb).1
      have z2 := (h4 (zdf b st) (Nat.lt_of_le_of_lt (zdf_le b st) hb)).2
      have z3 := ih b hb
      omega
    have hlast : zPm L K (n - (k + 1)) (K - 1) = true := decide_eq_true rfl
    show 0 ≤ (zbs (zPm L K (n - (k + 1))) (fun x => (B x).toInt + zFu L S B K n k x + (S (zdf x st)).toInt) K).1 ∧ (zbs (zPm L K (n - (k + 1))) (fun x => (B x).toInt + zFu L S B K n k x + (S (zdf x st)).toInt) K).1 ≤ 8000 * ((k + 1 : Nat) : Int)
    have zl := hf (K - 1) (by omega)
    rcases z with z | z
    · exfalso
      have z1 := z.2 (K - 1) (by omega) hlast
      omega
    · have z1 := z.2.2.2.2.1 (K - 1) (by omega) hlast
      have z2 := hf _ z.1
      rw [z.2.2.1] at z1 ⊢
      omega
theorem zfv_b {L : Nat → Nat → Int32} {S B : Nat → Int32} {K n i bf b : Nat} (h : zPD L S B K n) (hb : b < K) : 0 ≤ zfv L S B K n i bf b ∧ zfv L S B K n i bf b ≤ 900000 := by
  have z3 := zFu_b h (n - (i + 1)) (by omega) b hb
  obtain ⟨h1, h2, h3, h4, h5⟩ := h
  have z1 := (h4 b hb).1
  have z2 := (h4 (zdf b bf) (Nat.lt_of_le_of_lt (zdf_le b bf) hb)).2
  unfold zfv
  omega
theorem zCh_p {L : Nat → Nat → Int32} {S B : Nat → Int32} {K n i bf : Nat} (h : zPD L S B K n) (hi : i < n) : zCh L S B K n i bf < K ∧ L i (zCh L S B K n i bf) = L i (K - 1) ∧ zfv L S B K n i bf (zCh L S B K n i bf) = zFu L S B K n (n - i) bf ∧ (∀ b, b < K → L i b = L i (K - 1) → zFu L S B K n (n - i) bf ≤ zfv L S B K n i bf b) ∧ ∀ b, b < zCh L S B K n i bf → L i b = L i (K - 1) → zFu L S B K n (n - i) bf < zfv L S B K n i bf b := by
  have z := zbs_p (zPm L K i) (zfv L S B K n i bf) K
  rw [zFu_s hi]
  rcases z with z | z
  · exfalso
    have z1 := z.2 (K - 1) (by have := h.1; omega) (decide_eq_true rfl)
    have z2 := zfv_b (i := i) (bf := bf) h (show K - 1 < K by have := h.1; omega)
    omega
  · refine ⟨z.1, of_decide_eq_true z.2.1, z.2.2.1.symm, fun b hb hL => z.2.2.2.2.1 b hb (decide_eq_true hL), fun b hb hL => z.2.2.2.2.2 b hb (decide_eq_true hL)⟩
/-- the sums of the least lacks -/
def zLm (L : Nat → Nat → Int32) (K n : Nat) : Nat → Int
  | 0 => 0
  | k + 1 => (L (n - (k + 1)) (K - 1)).toInt + zLm L K n k
theorem zLm_s {L : Nat → Nat → Int32} {K n i : Nat} (hi : i < n) : zLm L K n (n - i) = (L i (K - 1)).toInt + zLm L K n (n - (i + 1)) := by
  have e : n - i = (n - (i + 1)) + 1 := by omega
  rw [e]
  show (L (n - (n - (i + 1) + 1)) (K - 1)).toInt + zLm L K n (n - (i + 1)) = _
  rw [show n - (n - (i + 1) + 1) = i by omega]
theorem zLm_b {L : Nat → Nat → Int32} {S B : Nat → Int32} {K n : Nat} (h : zPD L S B K n) : ∀ k, k ≤ n → 0 ≤ zLm L K n k ∧ zLm L K n k ≤ 10000 * (k : Int)
  | 0, _ => ⟨Int.le_refl _, Int.le_refl _⟩
  | k + 1, hk => by
    have ih := zLm_b h k (by omega)
    obtain ⟨h1, h2, h3, h4, h5⟩ := h
    have z := (h5 (n - (k + 1)) (K - 1) (by omega) (by omega)).1
    show 0 ≤ (L (n - (k + 1)) (K - 1)).toInt + zLm L K n k ∧ (L (n - (k + 1)) (K - 1)).toInt + zLm L K n k ≤ 10000 * ((k + 1 : Nat) : Int)
    omega
/-- which engines run, hour by hour -/
def zWz (L : Nat → Nat → Int32) (S B : Nat → Int32) (K n on : Nat) : Nat → Nat
  | 0 => on
  | i + 1 => zCh L S B K n i (zWz L S B K n on i)
theorem zWz_lt {L : Nat → Nat → Int32} {S B : Nat → Int32} {K n on : Nat} (h : zPD L S B K n) (hon : on < K) : ∀ i, i ≤ n → zWz L S B K n on i < K
  | 0, _ => hon
  | i + 1, hi => (zCh_p h (by omega)).1
/-- the reference's choice among b < k, as it goes -/
def zRf (L1 : Nat → Int32) (f : Nat → Int) (La : Int) (k : Nat) (lack fuel : Int) : Prop := (k = 0 ∧ lack = -1) ∨ ∃ b0, b0 < k ∧ lack = (L1 b0).toInt + La ∧ fuel = f b0 ∧ ∀ b, b < k → (L1 b0).toInt ≤ (L1 b).toInt ∧ ((L1 b).toInt = (L1 b0).toInt → f b0 ≤ f b)
theorem zRf_end {L : Nat → Nat → Int32} {S B : Nat → Int32} {K n i bf : Nat} {La lack fuel : Int} (h : zPD L S B K n) (hi : i < n) (hr : zRf (L i) (zfv L S B K n i bf) La K lack fuel) : lack = (L i (K - 1)).toInt + La ∧ fuel = zFu L S B K n (n - i) bf := by
  have hz := zCh_p (bf := bf) h hi
  rcases hr with ⟨h1, -⟩ | ⟨b0, h1, h2, h3, h4⟩
  · exfalso
    have := h.1
    omega
  · have e1 := h4 (K - 1) (by omega)
    have e2 := (h.2.2.2.2 i b0 hi h1).2
    have e3 : L i b0 = L i (K - 1) := by rw [fa_eq]; omega
    refine ⟨by rw [h2, e3], ?_⟩
    have e4 := hz.2.2.2.1 b0 h1 e3
    have e5 := (h4 _ hz.1).2 (by rw [hz.2.1, e3])
    rw [h3]
    omega
