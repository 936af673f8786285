/-! THE HOURS GO BY -/
theorem zfin_u {mS mB : Nat → Int32} {m : Nat} {v : Int32} (hm : ¬ mS m = mB m) : ∀ n, zfin (upd mS m v) mB n = zfin mS mB n + (if m < n ∧ v = mB m then 1 else 0)
  | 0 => by
    rw [if_neg (by omega)]
    rfl
  | n + 1 => by
    have ih := zfin_u (v := v) hm n
    show zfin (upd mS m v) mB n + (if upd mS m v n = mB n then 1 else 0) = zfin mS mB n + (if mS n = mB n then 1 else 0) + _
    rw [ih, upd_at]
    by_cases e : n = m
    · subst e
      rw [if_pos rfl, if_neg hm, if_neg (by omega)]
      by_cases e2 : v = mB n
      · rw [if_pos e2, if_pos ⟨by omega, e2⟩]
      · rw [if_neg e2, if_neg (fun h => e2 h.2)]
    · rw [if_neg e]
      by_cases e2 : m < n ∧ v = mB m
      · have e3 : m < n + 1 ∧ v = mB m := ⟨by omega, e2.2⟩
        simp only [if_pos e2, if_pos e3]
        omega
      · have e3 : ¬ (m < n + 1 ∧ v = mB m) := fun h => e2 ⟨by omega, h.2⟩
        simp only [if_neg e2, if_neg e3]
        omega
def zIR (mB : Nat → Int32) (M k : Nat) (q : zR) (G : Nat) (gM gH : Nat → Int32) : Prop :=
  (∀ m, m < M → (q.2.2.2.1 m).toInt < (k : Int)) ∧ (∀ m, M ≤ m → m < 100 → q.2.1 m = 0) ∧ (∀ h, h < 2400 → 0 ≤ (q.2.2.2.2 h).toInt ∧ (q.2.2.2.2 h).toInt ≤ (M : Int) ∧ (k ≤ h → q.2.2.2.2 h = 0)) ∧ G ≤ k + zfin q.2.1 mB M ∧
  (∀ g, g < G → (0 ≤ (gM g).toInt ∧ (gM g).toInt < (M : Int)) ∧ 0 ≤ (gH g).toInt ∧ (gH g).toInt < (k : Int)) ∧
  ∀ m h, m < M → h < k → ((∃ g, g < G ∧ gM g = nI m ∧ gH g = nI h) ↔ (q.2.2.2.2 h = nI (m + 1) ∨ q.2.2.2.1 m = nI h))
/-- within the hour k -/
def zIJ (mB : Nat → Int32) (M k : Nat) (l : Int32) (q : zR) (G : Nat) (gM gH : Nat → Int32) : Prop :=
  (∀ m, m < M → (q.2.2.2.1 m).toInt ≤ (k : Int)) ∧ (∀ m, M ≤ m → m < 100 → q.2.1 m = 0) ∧ (∀ h, h < 2400 → 0 ≤ (q.2.2.2.2 h).toInt ∧ (q.2.2.2.2 h).toInt ≤ (M : Int) ∧ (k < h → q.2.2.2.2 h = 0)) ∧ ((q.2.2.2.2 k = 0 ∧ G ≤ k + zfin q.2.1 mB M) ∨ (l.toInt ≤ 0 ∧ G ≤ k + zfin q.2.1 mB M + 1)) ∧
  (∀ g, g < G → (0 ≤ (gM g).toInt ∧ (gM g).toInt < (M : Int)) ∧ 0 ≤ (gH g).toInt ∧ (gH g).toInt ≤ (k : Int)) ∧
  ∀ m h, m < M → h ≤ k → ((∃ g, g < G ∧ gM g = nI m ∧ gH g = nI h) ↔ (q.2.2.2.2 h = nI (m + 1) ∨ q.2.2.2.1 m = nI h))
theorem zIJ_0 {mB : Nat → Int32} {M k : Nat} {l : Int32} {q : zR} {G : Nat} {gM gH : Nat → Int32} (hM : M ≤ 100) (hk : k < 2400) (h : zIR mB M k q G gM gH) : zIJ mB M k l q G gM gH := by
  obtain ⟨h1, h2, h3, h4, h5, h6⟩ := h
  refine ⟨fun m hm => by have := h1 m hm; omega, h2, fun h hh => ⟨(h3 h hh).1, (h3 h hh).2.1, fun z => (h3 h hh).2.2 (by omega)⟩, Or.inl ⟨(h3 k hk).2.2 (by omega), h4⟩, fun g hg => ⟨(h5 g hg).1, (h5 g hg).2.1, by have := (h5 g hg).2.2; omega⟩, fun m h hm hh => ?_⟩
  rcases Nat.lt_or_ge h k with c1 | c1
  · exact h6 m h hm c1
  · have e : h = k := by omega
    subst e
    constructor
    · rintro ⟨g, z1, z2, z3⟩
      exfalso
      have z4 := (h5 g z1).2.2
      rw [z3, nI_toInt (by omega)] at z4
      omega
    · rintro (z | z)
      · exfalso
        rw [(h3 h hk).2.2 (by omega)] at z
        exact nI_ne0 (n := m + 1) (by omega) (by omega) z.symm
      · exfalso
        have z4 := h1 m hm
        rw [z, nI_toInt (by omega)] at z4
        omega
theorem zIJ_s {mB mR : Nat → Int32} {M k m : Nat} {l : Int32} {q : zR} {G : Nat} {gM gH : Nat → Int32} (hM : M ≤ 100) (hk : k < 2400) (hB : zRB mB M l q) (hl : 0 < l.toInt) (hn : zNx mB mR q.2.1 M m) (h : zIJ mB M k l q G gM gH) : zIJ mB M k (l - zits mB q.2.1 m l) (zsn mB k m l q) (G + 1) (upd gM G (nI m)) (upd gH G (nI k)) := by
  obtain ⟨h1, h2, h3, h4, h5, h6⟩ := h
  obtain ⟨se, mS, mF, mL, un⟩ := q
  have hm := hn.1
  have hu := hn.2.1
  have hbm := hB.2 m hm
  have pz := zits_p (mS := mS) hB.1 hbm.1 hbm.2.1
  have hL : mL m = -1 := hbm.2.2 hu
  have hne : ¬ mS m = mB m := fun z => by
    have hu' : (mS m).toInt < (mB m).toInt := hu
    rw [z] at hu'
    omega
  have h4' : un k = 0 ∧ G ≤ k + zfin mS mB M := by
    rcases h4 with z | z
    · exact z
    · exfalso
      have := z.1
      omega
  have zf := zfin_u (v := mS m + zits mB mS m l) hne M
  have lg : ∀ m' h, m' < M → h ≤ k → ((∃ g, g < G + 1 ∧ upd gM G (nI m) g = nI m' ∧ upd gH G (nI k) g = nI h) ↔ ((∃ g, g < G ∧ gM g = nI m' ∧ gH g = nI h) ∨ (m' = m ∧ h = k))) := by
    intro m' h hm' hh
    constructor
    · rintro ⟨g, z1, z2, z3⟩
      rw [upd_at] at z2 z3
      by_cases e : g = G
      · rw [if_pos e] at z2 z3
        right
        exact ⟨((nI_eq (by omega) (by omega)).mp z2).symm, ((nI_eq (by omega) (by omega)).mp z3).symm⟩
      · rw [if_neg e] at z2 z3
        exact Or.inl ⟨g, by omega, z2, z3⟩
    · rintro (⟨g, z1, z2, z3⟩ | ⟨z1, z2⟩)
      · refine ⟨g, by omega, ?_, ?_⟩
        · rw [upd_at, if_neg (by omega)]; exact z2
        · rw [upd_at, if_neg (by omega)]; exact z3
      · refine ⟨G, by omega, ?_, ?_⟩
        · rw [upd_at, if_pos rfl, z1]
        · rw [upd_at, if_pos rfl, z2]
  have lb : ∀ g, g < G + 1 → (0 ≤ (upd gM G (nI m) g).toInt ∧ (upd gM G (nI m) g).toInt < (M : Int)) ∧ 0 ≤ (upd gH G (nI k) g).toInt ∧ (upd gH G (nI k) g).toInt ≤ (k : Int) := by
    intro g hg
    rw [upd_at, upd_at]
    by_cases e : g = G
    · rw [if_pos e, if_pos e, nI_toInt (by omega), nI_toInt (by omega)]
      omega
    · rw [if_neg e, if_neg e]
      exact h5 g (by omega)
  have ms : ∀ m', M ≤ m' → m' < 100 → upd mS m (mS m + zits mB mS m l) m' = 0 := by
    intro m' z1 z2
    rw [upd_at, if_neg (by omega)]
    exact h2 m' z1 z2
  by_cases fin : mS m + zits mB mS m l = mB m
  · rw [if_pos ⟨hm, fin⟩] at zf
    have ez : zsn mB k m l (se, mS, mF, mL, un) = (se + zits mB mS m l, upd mS m (mS m + zits mB mS m l), (if mS m = 0 then upd mF m (nI k) else mF), upd mL m (nI k), un) := by
      unfold zsn
      dsimp only
      rw [if_pos fin, if_pos fin]
    rw [ez]
    refine ⟨fun m' hm' => ?_, ms, h3, Or.inl ⟨h4'.1, ?_⟩, lb, fun m' h hm' hh => ?_⟩
    · show (upd mL m (nI k) m').toInt ≤ (k : Int)
      rw [upd_at]
      split
      · rw [nI_toInt (by omega)]
        exact Int.le_refl _
      · exact h1 m' hm'
    · show G + 1 ≤ k + zfin (upd mS m (mS m + zits mB mS m l)) mB M
      have := h4'.2
      omega
    · rw [lg m' h hm' hh]
      show _ ↔ (un h = nI (m' + 1) ∨ upd mL m (nI k) m' = nI h)
      rw [h6 m' h hm' hh, upd_at]
      by_cases e : m' = m
      · subst e
        rw [if_pos rfl]
        constructor
        · rintro ((z | z) | z)
          · exact Or.inl z
          · exfalso
            have z' : mL m' = nI h := z
            rw [hL] at z'
            have := congrArg Int32.toInt z'
            rw [nI_toInt (by omega)] at this
            have e1 : (-1 : Int32).toInt = -1 := rfl
            omega
          · right
            rw [z.2]
        · rintro (z | z)
          · exact Or.inl (Or.inl z)
          · right
            exact ⟨rfl, ((nI_eq (by omega) (by omega)).mp z).symm⟩
      · rw [if_neg e]
        constructor
        · rintro (z | z)
          · exact z
          · exact absurd z.1 e
        · exact Or.inl
  · rw [if_neg (fun z => fin z.2)] at zf
    have ez : zsn mB k m l (se, mS, mF, mL, un) = (se + zits mB mS m l, upd mS m (mS m + zits mB mS m l), (if mS m = 0 then upd mF m (nI k) else mF), mL, upd un k (nI (m + 1))) := by
      unfold zsn
      dsimp only
      rw [if_neg fin, if_neg fin]
    rw [ez]
    have hl0 : (l - zits mB mS m l).toInt ≤ 0 := by
      rcases pz.2.2.2.2.1 with z | z
      · omega
      · exact absurd z fin
    refine ⟨h1, ms, fun h hh => ?_, Or.inr ⟨hl0, ?_⟩, lb, fun m' h hm' hh => ?_⟩
    · show 0 ≤ (upd un k (nI (m + 1)) h).toInt ∧ (upd un k (nI (m + 1)) h).toInt ≤ (M : Int) ∧ (k < h → upd un k (nI (m + 1)) h = 0)
      rw [upd_at]
      by_cases e : h = k
      · rw [if_pos e, nI_toInt (by omega)]
        exact ⟨by omega, by omega, fun z => by omega⟩
      · rw [if_neg e]
        exact h3 h hh
    · show G + 1 ≤ k + zfin (upd mS m (mS m + zits mB mS m l)) mB M + 1
      have := h4'.2
      omega
    · rw [lg m' h hm' hh]
      show _ ↔ (upd un k (nI (m + 1)) h = nI (m' + 1) ∨ mL m' = nI h)
      rw [h6 m' h hm' hh, upd_at]
      by_cases e : h = k
      · subst e
        rw [if_pos rfl]
        constructor
        · rintro ((z | z) | z)
          · exfalso
            have z' : un h = nI (m' + 1) := z
            rw [h4'.1] at z'
            exact nI_ne0 (n := m' + 1) (by omega) (by omega) z'.symm
          · exact Or.inr z
          · left
            rw [z.1]
        · rintro (z | z)
          · right
            have := (nI_eq (by omega) (by omega)).mp z
            exact ⟨by omega, rfl⟩
          · exact Or.inl (Or.inr z)
      · rw [if_neg e]
        constructor
        · rintro (z | z)
          · exact z
          · exact absurd z.2 e
        · exact Or.inl
theorem zIJ_tr {mB mR : Nat → Int32} {M k : Nat} (hM : M ≤ 100) (hk : k < 2400) : ∀ {tr : List Nat} {l l' : Int32} {q q' : zR} {G : Nat} {gM gH : Nat → Int32}, zTr mB mR M k tr l q l' q' → zRB mB M l q → zIJ mB M k l q G gM gH → zIJ mB M k l' q' (G + tr.length) (zlg gM G tr) (zlh gH G k tr)
  | [], l, l', q, q', G, gM, gH, h, hb, hj => by
    obtain ⟨rfl, rfl⟩ := h
    exact hj
  | m :: tr, l, l', q, q', G, gM, gH, h, hb, hj => by
    have := zIJ_tr hM hk h.2.2 (zRB_s (mR := mR) (k := k) hb h.2.1.1 h.2.1.2.1) (zIJ_s hM hk hb h.1 h.2.1 hj)
    rw [show G + (m :: tr).length = G + 1 + tr.length by simp; omega]
    exact this
theorem zIR_s {mB : Nat → Int32} {M k : Nat} {l : Int32} {q : zR} {G : Nat} {gM gH : Nat → Int32} (h : zIJ mB M k l q G gM gH) : zIR mB M (k + 1) q G gM gH := by
  obtain ⟨h1, h2, h3, h4, h5, h6⟩ := h
  refine ⟨fun m hm => by have := h1 m hm; omega, h2, fun h hh => ⟨(h3 h hh).1, (h3 h hh).2.1, fun z => (h3 h hh).2.2 (by omega)⟩, by omega, fun g hg => ⟨(h5 g hg).1, (h5 g hg).2.1, by have := (h5 g hg).2.2; omega⟩, fun m h hm hh => h6 m h hm (by omega)⟩
theorem zIR_hs {mB mR : Nat → Int32} {M : Nat} {rm : Nat → Int32} (hM : M ≤ 100) (hr : ∀ k, 0 ≤ (rm k).toInt ∧ (rm k).toInt ≤ 1000) : ∀ {ts : List (List Nat)} {k : Nat} {q q' : zR} {l : Int32} {G : Nat} {gM gH : Nat → Int32}, k + ts.length ≤ 2400 → zHs mB mR M rm ts k q q' → zRB mB M l q → zIR mB M k q G gM gH → zIR mB M (k + ts.length) q' (zLn G ts) (zLM gM G ts) (zLH gH G k ts)
  | [], k, q, q', l, G, gM, gH, hk, h, hb, hi => by
    have e : q' = q := h
    subst e
    exact hi
  | t :: ts, k, q, q', l, G, gM, gH, hk, h, hb, hi => by
    obtain ⟨l3, q3, h3, h4, h5⟩ := h
    have hk' : k + (ts.length + 1) ≤ 2400 := hk
    have b1 := zRB_l hb (hr k)
    have j1 := zIJ_tr hM (by omega) h3 b1 (zIJ_0 (l := rm k) hM (by omega) hi)
    have := zIR_hs hM hr (k := k + 1) (by omega) h5 (zRB_tr h3 b1) (zIR_s j1)
    rw [show k + (t :: ts).length = k + 1 + ts.length by simp; omega]
    exact this

set_option maxRecDepth 100000 in
theorem x_go {d : Nat} {s : Nat → Int32} {a : Nat → Nat → Int32} {w : Bool} {Z : zH} {M k : Nat} {x : Int32} {Q : zQ} (hn : s 0 = nI k) (hk : k < 2400) (hM : s 20 = nI M) (hM2 : M ≤ 100) (hR : ∀ m, m < M → 0 ≤ (a 27 m).toInt ∧ (a 27 m).toInt ≤ 3) (hB : ∀ l : Int32, (0 ≤ l.toInt ∧ l.toInt ≤ 1000) → zRB (a 26) M l (s 22, a 28, a 29, a 30, a 31)) (hb : 1 ≤ (s 19).toInt ∧ (s 19).toInt ≤ 1000) (h0 : ¬ ((1 ≤ x.toInt ∧ x.toInt ≤ 200) ∧ (k : Int) + x.toInt < 2400) → Q (some (.int (-1))) (HX (va_up s 2 (zcode (-1))) a w ++ Z)) (h1 : ∀ (ts : List (List Nat)) (s' : Nat → Int32) (a' : Nat → Nat → Int32), (1 ≤ x.toInt ∧ x.toInt ≤ 200) ∧ (k : Int) + x.toInt < 2400 → (ts.length : Int) = x.toInt → zSm [22] s s' → zSm [28, 29, 30, 31] a a' → zHs (a 26) (a 27) M (fun k => if (s 17).toInt ≤ ((k % 24 : Nat) : Int) ∧ ((k % 24 : Nat) : Int) ≤ (s 18).toInt then s 19 else 0) ts k (s 22, a 28, a 29, a 30, a 31) (s' 22, a' 28, a' 29, a' 30, a' 31) → Q (some (.int (nI (k + ts.length)))) (HX (va_up (va_up s' 0 (nI (k + ts.length))) 2 (zcode (nI (k + ts.length)))) a' w ++ Z)) : zG (d + 4) 99 [.ref 0, .int x] (HX s a w ++ Z) Q := by
  refine g_99 (Nat.le_of_ble_eq_true rfl) ?_
  intro X0 hX0
  have hr : ∀ k, 0 ≤ ((fun k => if (s 17).toInt ≤ ((k % 24 : Nat) : Int) ∧ ((k % 24 : Nat) : Int) ≤ (s 18).toInt then s 19 else 0) k).toInt ∧ ((fun k => if (s 17).toInt ≤ ((k % 24 : Nat) : Int) ∧ ((k % 24 : Nat) : Int) ≤ (s 18).toInt then s 19 else 0) k).toInt ≤ 1000 := by
    intro k
    dsimp only
    split
    · omega
    · exact ⟨by decide, by decide⟩
  have loop : ((1 ≤ x.toInt ∧ x.toInt ≤ 200) ∧ (k : Int) + x.toInt < 2400) → ∀ (n : Nat) (ts : List (List Nat)) (s' : Nat → Int32) (a' : Nat → Nat → Int32), (ts.length : Int) + n = x.toInt → zSm [22] s s' → zSm [28, 29, 30, 31] a a' → zHs (a 26) (a 27) M (fun k => if (s 17).toInt ≤ ((k % 24 : Nat) : Int) ∧ ((k % 24 : Nat) : Int) ≤ (s 18).toInt then s 19 else 0) ts k (s 22, a 28, a 29, a 30, a 31) (s' 22, a' 28, a' 29, a' 30, a' 31) → X0 41 [some (.ref 0), some (.int x), some (.int (nI (k + ts.length + n))), some (.int (nI (k + ts.length)))] [] (HX s' a' w ++ Z) := by
    intro hx n
    induction n with
    | zero =>
      intro ts s' a' z1 q1 q2 q3
      iterate 3 refine hX0 _ _ _ _ ?_
      refine And.intro (fun c1 => ?_) (fun c1 => ?_)
      · iterate 3 refine hX0 _ _ _ _ ?_
        refine zcast (X := X0) xs_0 ?_
        iterate 4 refine hX0 _ _ _ _ ?_
        refine r_answered ?_
        refine hX0 _ _ _ _ ?_
        exact h1 ts s' a' hx (by omega) q1 q2 q3
      · exact absurd (Int32.le_refl _) c1
    | succ n ih =>
      intro ts s' a' z1 q1 q2 q3
      iterate 3 refine hX0 _ _ _ _ ?_
      refine And.intro (fun c1 => ?_) (fun c1 => ?_)
      · exfalso
        rw [fa_le, nI_toInt (by omega), nI_toInt (by omega)] at c1
        omega
      · iterate 4 refine hX0 _ _ _ _ ?_
        have e26 : a' 26 = a 26 := q2 26 (by decide)
        have e27 : a' 27 = a 27 := q2 27 (by decide)
        have e17 : s' 17 = s 17 := q1 17 (by decide)
        have e18 : s' 18 = s 18 := q1 18 (by decide)
        have e19 : s' 19 = s 19 := q1 19 (by decide)
        refine x_passHour (M := M) (k := k + ts.length) (by rw [q1 20 (by decide)]; exact hM) hM2 (by omega) (by rw [e27]; exact hR) (by intro l hl; rw [e26]; exact zRB_hs hr q3 (hB l hl)) (by rw [e19]; exact hb) (fun tr l2 s2 a2 p1 p2 p3 p4 => ?_)
        rw [e17, e18, e19, e26, e27] at p3
        rw [e26] at p4
        iterate 2 refine hX0 _ _ _ _ ?_
        have kk := ih (ts ++ [tr]) s2 a2 (by simp; omega) (zSm_trans q1 p1) (zSm_trans q2 p2) (zHs_snoc q3 p3 p4)
        rw [show k + (ts ++ [tr]).length + n = k + ts.length + (n + 1) by simp; omega, show k + (ts ++ [tr]).length = k + ts.length + 1 by simp; omega] at kk
        rw [nI_1]
        exact kk
  by_cases hx : 1 ≤ x.toInt ∧ x.toInt ≤ 200
  · have hxc := cl_int x (by omega)
    have ex := nI_cl x (by omega)
    have hadd : s 0 + x = nI (k + x.toNatClampNeg) := by
      rw [hn]
      exact (congrArg (fun z => nI k + z) ex).trans (nI_add _ _)
    iterate 4 refine hX0 _ _ _ _ ?_
    refine r_within 1 200 rfl rfl (fun c1 => ?_) (fun c1 => absurd hx c1)
    refine hX0 _ _ _ _ ?_
    refine And.intro (fun c => absurd c (by decide)) (fun _ => ?_)
    iterate 5 refine hX0 _ _ _ _ ?_
    rw [hadd]
    refine hX0 _ _ _ _ ?_
    have e24 : (2400 : Int32).toInt = 2400 := rfl
    refine And.intro (fun c2 => ?_) (fun c2 => ?_)
    · rw [fa_lt, nI_toInt (by omega)] at c2
      iterate 5 refine hX0 _ _ _ _ ?_
      rw [hadd]
      iterate 3 refine hX0 _ _ _ _ ?_
      rw [hn]
      have kk := loop ⟨hx, by omega⟩ x.toNatClampNeg [] s a (by simp; omega) zSm_refl zSm_refl rfl
      exact kk
    · rw [fa_lt, nI_toInt (by omega)] at c2
      iterate 3 refine hX0 _ _ _ _ ?_
      refine r_answered ?_
      refine hX0 _ _ _ _ ?_
      exact h0 (fun z => by omega)
  · iterate 4 refine hX0 _ _ _ _ ?_
    refine r_within 1 200 rfl rfl (fun c1 => absurd c1 hx) (fun c1 => ?_)
    refine hX0 _ _ _ _ ?_
    refine And.intro (fun _ => ?_) (fun c => absurd c (by decide))
    iterate 3 refine hX0 _ _ _ _ ?_
    refine r_answered ?_
    refine hX0 _ _ _ _ ?_
    exact h0 (fun z => hx z.1)

set_option maxRecDepth 100000 in
theorem y_go {d : Nat} {s : Nat → Int32} {a : Nat → Nat → Int32} {w : Bool} {t : Nat → Int32} {b : Nat → Nat → Int32} {u : Nat → Int64} {c : Nat → Nat → Int64} {M k G : Nat} {x : Int32} {ts : List (List Nat)} {q q' : zR} {Q : zQ} (hn : t 2 = nI k) (hM : t 29 = nI M) (hM2 : M ≤ 100) (hx : 1 ≤ x.toInt ∧ x.toInt ≤ 200) (hx2 : (k : Int) + x.toInt < 2400) (hl : (ts.length : Int) = x.toInt) (hG : t 30 = nI G) (hG2 : zLn G ts ≤ 2600) (hr : ∀ k, 0 ≤ ((fun k => if (t 26).toInt ≤ ((k % 24 : Nat) : Int) ∧ ((k % 24 : Nat) : Int) ≤ (t 27).toInt then t 28 else 0) k).toInt ∧ ((fun k => if (t 26).toInt ≤ ((k % 24 : Nat) : Int) ∧ ((k % 24 : Nat) : Int) ≤ (t 27).toInt then t 28 else 0) k).toInt ≤ 1000) (hB : ∀ l : Int32, (0 ≤ l.toInt ∧ l.toInt ≤ 1000) → zRB (b 36) M l q) (e1 : t 32 = q.1) (e2 : b 38 = q.2.1) (e3 : b 39 = q.2.2.1) (e4 : b 40 = q.2.2.2.1) (ht : zHs (b 36) (b 37) M (fun k => if (t 26).toInt ≤ ((k % 24 : Nat) : Int) ∧ ((k % 24 : Nat) : Int) ≤ (t 27).toInt then t 28 else 0) ts k q q') (h1 : ∀ (t' : Nat → Int32) (b' : Nat → Nat → Int32), zSm [0, 2, 30, 32] t t' → zSm [38, 39, 40, 41, 42] b b' → t' 30 = nI (zLn G ts) → t' 32 = q'.1 → b' 38 = q'.2.1 → b' 39 = q'.2.2.1 → b' 40 = q'.2.2.2.1 → t' 2 = nI (k + ts.length) → b' 41 = zLM (b 41) G ts → b' 42 = zLH (b 42) G k ts → Q (some (.int (nI (k + ts.length)))) (HX s a w ++ HM (va_up t' 1 (zcode (nI (k + ts.length)))) b' u c)) : zG (d + 3) 152 [.ref 56, .int x] (HX s a w ++ HM t b u c) Q := by
  refine g_152 (Nat.le_of_ble_eq_true rfl) ?_
  intro X0 hX0
  have hxc := cl_int x (by omega)
  have ex := nI_cl x (by omega)
  generalize hN : ts.length = n at *
  have loop : ∀ (ts1 : List (List Nat)) (i G1 : Nat) (q : zR) (t' : Nat → Int32) (b' : Nat → Nat → Int32), i + ts1.length = n → zLn G1 ts1 = zLn G ts → zSm [0, 2, 30, 32] t t' → zSm [38, 39, 40, 41, 42] b b' → t' 30 = nI G1 → t' 32 = q.1 → b' 38 = q.2.1 → b' 39 = q.2.2.1 → b' 40 = q.2.2.2.1 → t' 2 = nI (k + i) → (∀ l : Int32, (0 ≤ l.toInt ∧ l.toInt ≤ 1000) → zRB (b 36) M l q) → zHs (b 36) (b 37) M (fun k => if (t 26).toInt ≤ ((k % 24 : Nat) : Int) ∧ ((k % 24 : Nat) : Int) ≤ (t 27).toInt then t 28 else 0) ts1 (k + i) q q' → zLM (b' 41) G1 ts1 = zLM (b 41) G ts → zLH (b' 42) G1 (k + i) ts1 = zLH (b 42) G k ts → X0 37 [some (.ref 56), some (.int x), some (.int (nI i))] [] (HX s a w ++ HM t' b' u c) := by
    intro ts1
    induction ts1 with
    | nil =>
      intro i G1 q t' b' z1 z2 r1 r2 r3 r4 r5 r6 r7 z3 z4 z5 z6 z7
      have z1' : i = n := z1
      subst z1'
      have ez : q' = q := z5
      subst ez
      iterate 3 refine hX0 _ _ _ _ ?_
      refine And.intro (fun c1 => ?_) (fun c1 => ?_)
      · iterate 4 refine hX0 _ _ _ _ ?_
        refine r_told ?_
        refine hX0 _ _ _ _ ?_
        rw [z3]
        exact h1 t' b' r1 r2 (by rw [r3]; exact congrArg nI z2) r4 r5 r6 r7 z3 z6 z7
      · exfalso
        rw [fa_le, nI_toInt (by omega)] at c1
        omega
    | cons tr ts1 ih =>
      intro i G1 q t' b' z1 z2 r1 r2 r3 r4 r5 r6 r7 z3 z4 z5 z6 z7
      have z1' : i + (ts1.length + 1) = n := z1
      obtain ⟨l3, q3, h3, h4, h5⟩ := z5
      have hle : G1 + tr.length ≤ zLn G ts := by
        rw [← z2]
        exact zLn_le ts1 (G1 + tr.length)
      iterate 3 refine hX0 _ _ _ _ ?_
      refine And.intro (fun c1 => ?_) (fun c1 => ?_)
      · exfalso
        rw [fa_le, nI_toInt (by omega)] at c1
        omega
      · iterate 2 refine hX0 _ _ _ _ ?_
        have e26 : t' 26 = t 26 := r1 26 (by decide)
        have e27 : t' 27 = t 27 := r1 27 (by decide)
        have e28 : t' 28 = t 28 := r1 28 (by decide)
        have e36 : b' 36 = b 36 := r2 36 (by decide)
        have e37 : b' 37 = b 37 := r2 37 (by decide)
        refine y_goHour (M := M) (k := k + i) (G := G1) (tr := tr) (l' := l3) (q := q) (q' := q3) (by rw [r1 29 (by decide)]; exact hM) hM2 (by omega) z3 r3 (by omega) (by rw [e26, e27, e28, e36]; exact z4 _ (hr (k + i))) r4 r5 r6 r7 (by rw [e26, e27, e28, e36, e37]; exact h3) (by rw [e36]; exact h4) (fun t2 b2 p1 p2 p3 p4 p5 p6 p7 p8 p9 p10 => ?_)
        iterate 2 refine hX0 _ _ _ _ ?_
        rw [nI_1]
        exact ih (i + 1) (G1 + tr.length) q3 t2 b2 (by omega) z2 (zSm_trans r1 (zSm_more p1 (by decide))) (zSm_trans r2 p2) p4 p5 p6 p7 p8 p3 (fun l hl => zRB_l (zRB_tr h3 (z4 _ (hr (k + i)))) hl) h5 (by rw [p9]; exact z6) (by rw [p10]; exact z7)
  have hadd : t 2 + x = nI (k + x.toNatClampNeg) := by
    rw [hn]
    exact (congrArg (fun z => nI k + z) ex).trans (nI_add _ _)
  iterate 3 refine hX0 _ _ _ _ ?_
  refine zcast (X := X0) yt_0 ?_
  iterate 5 refine hX0 _ _ _ _ ?_
  refine r_in 1 200 rfl rfl (fun c1 => ?_) (fun c1 => absurd hx c1)
  refine hX0 _ _ _ _ ?_
  refine And.intro (fun c => absurd c (by decide)) (fun _ => ?_)
  iterate 6 refine hX0 _ _ _ _ ?_
  have e24 : (2399 : Int32).toInt = 2399 := rfl
  refine And.intro (fun c2 => ?_) (fun c2 => ?_)
  · iterate 2 refine hX0 _ _ _ _ ?_
    have kk := loop ts 0 G q (va_up t 0 0) b (by omega) rfl (zSm_up (by decide) zSm_refl) zSm_refl hG e1 e2 e3 e4 hn hB ht rfl rfl
    rw [nI_0] at kk
    exact kk
  · exfalso
    have c3 : ¬ t 2 + x ≤ 2399 := c2
    rw [hadd, fa_le, nI_toInt (by omega)] at c3
    omega

set_option maxRecDepth 100000 in
theorem y_goNo {d : Nat} {s : Nat → Int32} {a : Nat → Nat → Int32} {w : Bool} {t : Nat → Int32} {b : Nat → Nat → Int32} {u : Nat → Int64} {c : Nat → Nat → Int64} {k : Nat} {x : Int32} {Q : zQ} (hn : t 2 = nI k) (hk : k < 2400) (hx : ¬ ((1 ≤ x.toInt ∧ x.toInt ≤ 200) ∧ (k : Int) + x.toInt < 2400)) (h0 : Q (some (.int (-1))) (HX s a w ++ HM (va_up (va_up t 0 0) 1 (zcode (-1))) b u c)) : zG (d + 3) 152 [.ref 56, .int x] (HX s a w ++ HM t b u c) Q := by
  refine g_152 (Nat.le_of_ble_eq_true rfl) ?_
  intro X0 hX0
  iterate 3 refine hX0 _ _ _ _ ?_
  refine zcast (X := X0) yt_0 ?_
  iterate 5 refine hX0 _ _ _ _ ?_
  refine r_in 1 200 rfl rfl (fun c1 => ?_) (fun c1 => ?_)
  · refine hX0 _ _ _ _ ?_
    refine And.intro (fun c => absurd c (by decide)) (fun _ => ?_)
    iterate 6 refine hX0 _ _ _ _ ?_
    have e24 : (2399 : Int32).toInt = 2399 := rfl
    refine And.intro (fun c2 => ?_) (fun c2 => ?_)
    · exfalso
      have c3 : t 2 + x ≤ 2399 := c2
      rw [hn, fa_le, i32_add (by rw [nI_toInt (by omega)]; omega), nI_toInt (by omega)] at c3
      exact hx ⟨c1, by omega⟩
    · iterate 3 refine hX0 _ _ _ _ ?_
      refine r_told ?_
      refine hX0 _ _ _ _ ?_
      exact h0
  · refine hX0 _ _ _ _ ?_
    refine And.intro (fun _ => ?_) (fun c => absurd c (by decide))
    iterate 3 refine hX0 _ _ _ _ ?_
    refine r_told ?_
    refine hX0 _ _ _ _ ?_
    exact h0

theorem L_go (x : Int32) : zLaw 99 152 [.int x] := by
  intro s a w t b u c hI
  obtain ⟨i1, i2, i3, i4, i5, i6, i7, i8, i9, i10⟩ := hI
  have keep : Inv (va_up s 2 (zcode (-1))) a w (va_up (va_up t 0 0) 1 (zcode (-1))) b u := ⟨⟨i1.1, i1.2.1, rfl, i1.2.2.2⟩, i2, i3, i4, i5, i6, i7, i8, i9, i10⟩
  obtain ⟨⟨e1, e2, e3, e4, e5, e6⟩, ⟨f1, f2, f3, f4, f5, f6, f7⟩, g1, g2, g3, g4, g5, g6, g7, g8, G, gG, gL, gM, gR⟩ := i10
  have hnow := i1.2.2.2
  have hkc := cl_int (s 0) hnow.1
  have hn := nI_cl (s 0) hnow.1
  have hMc := cl_int (s 20) g3.1
  have hM := nI_cl (s 20) g3.1
  generalize (s 0).toNatClampNeg = k at *
  generalize hMe : (s 20).toNatClampNeg = M at *
  have hB : ∀ l : Int32, (0 ≤ l.toInt ∧ l.toInt ≤ 1000) → zRB (a 26) M l (s 22, a 28, a 29, a 30, a 31) := fun l hl => ⟨hl, fun m hm => ⟨(g6 m (by omega)).1, (g6 m (by omega)).2.2.1, (g6 m (by omega)).2.2.2.1⟩⟩
  have hR : ∀ m, m < M → 0 ≤ (a 27 m).toInt ∧ (a 27 m).toInt ≤ 3 := fun m hm => (g6 m (by omega)).2.1
  refine x_go (d := 8) hn (by omega) hM (by omega) hR hB g2 (fun c1 => ?_) (fun ts s' a' c1 hl q1 q2 q3 => ?_)
  · refine y_goNo (d := 9) (k := k) (by rw [← i1.1]; exact hn) (by omega) c1 ?_
    exact ⟨_, rfl, rfl, _, _, _, _, _, _, _, rfl, keep⟩
  · have hr : ∀ k : Nat, 0 ≤ ((fun k => if (s 17).toInt ≤ ((k % 24 : Nat) : Int) ∧ ((k % 24 : Nat) : Int) ≤ (s 18).toInt then s 19 else 0) k : Int32).toInt ∧ ((fun k => if (s 17).toInt ≤ ((k % 24 : Nat) : Int) ∧ ((k % 24 : Nat) : Int) ≤ (s 18).toInt then s 19 else 0) k : Int32).toInt ≤ 1000 := by
      intro k
      dsimp only
      split
      · omega
      · exact ⟨by decide, by decide⟩
    have hIR0 : zIR (a 26) M k (s 22, a 28, a 29, a 30, a 31) G (b 41) (b 42) := ⟨fun m hm => by have := (g6 m (by omega)).2.2.2.2; show (a 30 m).toInt < _; omega, fun m z1 z2 => g7 m (by omega) z2, fun h hh => by have := g8 h hh; exact ⟨this.1, by show (a 31 h).toInt ≤ _; omega, fun z => this.2.2 (by omega)⟩, by show G ≤ k + zfin (a 28) (a 26) M; omega, fun g hg => by have := gM g hg; omega, fun m h hm hh => gR m h (by omega) (by omega)⟩
    have hIR := zIR_hs (l := 0) (by omega) hr (by omega) q3 (hB 0 ⟨by decide, by decide⟩) hIR0
    have hRB := zRB_hs (l := 0) hr q3 (hB 0 ⟨by decide, by decide⟩)
    have zfl := zfin_le (a' 28) (a 26) M
    obtain ⟨j1, j2, j3, j4, j5, j6⟩ := hIR
    have j4' : zLn G ts ≤ k + ts.length + zfin (a' 28) (a 26) M := j4
    have er : (fun k : Nat => if (s 17).toInt ≤ ((k % 24 : Nat) : Int) ∧ ((k % 24 : Nat) : Int) ≤ (s 18).toInt then s 19 else 0) = (fun k : Nat => if (t 26).toInt ≤ ((k % 24 : Nat) : Int) ∧ ((k % 24 : Nat) : Int) ≤ (t 27).toInt then t 28 else 0) := by rw [e1, e2, e3]
    rw [er] at hr q3
    refine y_go (d := 9) (M := M) (k := k) (G := G) (ts := ts) (q := (s 22, a 28, a 29, a 30, a 31)) (q' := (s' 22, a' 28, a' 29, a' 30, a' 31)) ((by rw [← i1.1]; exact hn) : t 2 = nI k) (by rw [← e4]; exact hM) (by omega) c1.1 c1.2 hl gG (by omega) hr (by rw [← f1]; exact hB) e6.symm f3.symm f4.symm f5.symm (by rw [← f1, ← f2]; exact q3) (fun t' b' p1 p2 p3 p4 p5 p6 p7 p8 p9 p10 => ?_)
    have ek : (nI (k + ts.length)).toInt = ((k + ts.length : Nat) : Int) := nI_toInt (by omega)
    have S : ∀ i, i ∉ [22] → s' i = s i := q1
    have A : ∀ i, i ∉ [28, 29, 30, 31] → a' i = a i := q2
    have T : ∀ i, i ∉ [0, 2, 30, 32] → t' i = t i := p1
    have B : ∀ i, i ∉ [38, 39, 40, 41, 42] → b' i = b i := p2
    refine ⟨_, rfl, rfl, _, _, _, _, _, _, _, rfl, ⟨?_, ?_, ?_, ?_, ?_, ?_, ?_, ?_, ?_, ?_⟩⟩
    · show IStat (nI (k + ts.length)) (s' 1) (zcode (nI (k + ts.length))) (t' 2) (t' 19) (zcode (nI (k + ts.length)))
      rw [S 1 (by decide), T 19 (by decide), p8]
      exact ⟨rfl, i1.2.1, rfl, by omega, by omega⟩
    · show ISky (a' 0) (b' 0) (b' 1) (b' 2)
      rw [A 0 (by decide), B 0 (by decide), B 1 (by decide), B 2 (by decide)]
      exact i2
    · show IPow (s' 6) (t' 7) (s' 5) (t' 8) (a' 4) (b' 12) (a' 5) (b' 13) (a' 1) (a' 2) (a' 3) (b' 9) (b' 10) (b' 11)
      rw [S 6 (by decide), S 5 (by decide), T 7 (by decide), T 8 (by decide), A 4 (by decide), A 5 (by decide), A 1 (by decide), A 2 (by decide), A 3 (by decide), B 12 (by decide), B 13 (by decide), B 9 (by decide), B 10 (by decide), B 11 (by decide)]
      exact i3
    · show IPlan (s' 3) (s' 4) (a' 9) (a' 10) (t' 9) (u 0) (b' 14) (b' 15)
      rw [S 3 (by decide), S 4 (by decide), T 9 (by decide), A 9 (by decide), A 10 (by decide), B 14 (by decide), B 15 (by decide)]
      exact i4
    · show IStore (s' 7) (s' 8) (t' 10) (a' 11) (a' 12) (b' 17) (b' 18)
      rw [S 7 (by decide), S 8 (by decide), T 10 (by decide), A 11 (by decide), A 12 (by decide), B 17 (by decide), B 18 (by decide)]
      exact i5
    · show ICrew (s' 9) (s' 10) (s' 11) (s' 12) (t' 11) (t' 12) (t' 13) (t' 14) (a' 13) (a' 14) (a' 15) (a' 16) (a' 17) (a' 18) (a' 19) (a' 20) (a' 21) (a' 22) (b' 19) (b' 20) (b' 21) (b' 22) (b' 23) (b' 24) (b' 25) (b' 26) (b' 27) (b' 28)
      rw [S 9 (by decide), S 10 (by decide), S 11 (by decide), S 12 (by decide), T 11 (by decide), T 12 (by decide), T 13 (by decide), T 14 (by decide), A 13 (by decide), A 14 (by decide), A 15 (by decide), A 16 (by decide), A 17 (by decide), A 18 (by decide), A 19 (by decide), A 20 (by decide), A 21 (by decide), A 22 (by decide), B 19 (by decide), B 20 (by decide), B 21 (by decide), B 22 (by decide), B 23 (by decide), B 24 (by decide), B 25 (by decide), B 26 (by decide), B 27 (by decide), B 28 (by decide)]
      exact i6
    · show ITape (s' 13) (t' 15) (a' 23) (b' 29)
      rw [S 13 (by decide), T 15 (by decide), A 23 (by decide), B 29 (by decide)]
      exact i7
    · intro hw
      show IBook (s' 23) (s' 24) (s' 25) (s' 26) (s' 27) (a' 34) (a' 35) (a' 36) (a' 37) (a' 38) (a' 39) (t' 3) (t' 4) (t' 5) (t' 6) (b' 3) (b' 4) (b' 5) (b' 6) (b' 7) (b' 8)
      rw [S 23 (by decide), S 24 (by decide), S 25 (by decide), S 26 (by decide), S 27 (by decide), A 34 (by decide), A 35 (by decide), A 36 (by decide), A 37 (by decide), A 38 (by decide), A 39 (by decide), T 3 (by decide), T 4 (by decide), T 5 (by decide), T 6 (by decide), B 3 (by decide), B 4 (by decide), B 5 (by decide), B 6 (by decide), B 7 (by decide), B 8 (by decide)]
      exact i8 hw
    · intro hw
      show IBook (s' 28) (s' 29) (s' 30) (s' 31) (s' 32) (a' 40) (a' 41) (a' 42) (a' 43) (a' 44) (a' 45) (t' 3) (t' 4) (t' 5) (t' 6) (b' 3) (b' 4) (b' 5) (b' 6) (b' 7) (b' 8)
      rw [S 28 (by decide), S 29 (by decide), S 30 (by decide), S 31 (by decide), S 32 (by decide), A 40 (by decide), A 41 (by decide), A 42 (by decide), A 43 (by decide), A 44 (by decide), A 45 (by decide), T 3 (by decide), T 4 (by decide), T 5 (by decide), T 6 (by decide), B 3 (by decide), B 4 (by decide), B 5 (by decide), B 6 (by decide), B 7 (by decide), B 8 (by decide)]
      exact i9 hw
    · show IRadio (nI (k + ts.length)) (s' 17) (s' 18) (s' 19) (s' 20) (s' 21) (s' 22) (t' 26) (t' 27) (t' 28) (t' 29) (t' 31) (t' 32) (t' 30) (a' 26) (a' 27) (a' 28) (a' 29) (a' 30) (a' 31) (a' 32) (a' 33) (b' 36) (b' 37) (b' 38) (b' 39) (b' 40) (b' 43) (b' 44) (b' 41) (b' 42)
      rw [S 17 (by decide), S 18 (by decide), S 19 (by decide), S 20 (by decide), S 21 (by decide), T 26 (by decide), T 27 (by decide), T 28 (by decide), T 29 (by decide), T 31 (by decide), A 26 (by decide), A 27 (by decide), A 32 (by decide), A 33 (by decide), B 36 (by decide), B 37 (by decide), B 43 (by decide), B 44 (by decide), p3, p4, p5, p6, p7, p9, p10]
      refine ⟨⟨e1, e2, e3, e4, e5, rfl⟩, ⟨f1, f2, rfl, rfl, rfl, f6, f7⟩, g1, g2, g3, g4, g5, fun m hm => ?_, fun m hm h100 => j2 m (by omega) h100, fun h hh => ?_, zLn G ts, rfl, ?_, fun g hg => ?_, fun m h hm hh => ?_⟩
      · have hm' := g6 m hm
        have hb' := hRB.2 m (by omega)
        have hj' := j1 m (by omega)
        exact ⟨hm'.1, hm'.2.1, hb'.2.1, hb'.2.2, by rw [ek]; exact hj'⟩
      · have := j3 h hh
        exact ⟨this.1, by rw [← hMc]; exact this.2.1, fun z => this.2.2 (by omega)⟩
      · rw [hMe]
        omega
      · have := j5 g hg
        rw [ek, ← hMc]
        exact this
      · exact j6 m h (by omega) (by omega)
