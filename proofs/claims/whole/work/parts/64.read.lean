/-! RULES: what a tape says -/
abbrev zTst : Type := Int32 × Int32 × Int32 × Int32
/-- rules, rest, bound, tests, ifs (where its tests end, the ration) -/
abbrev zS : Type := Nat × Int32 × Int32 × List zTst × List (Nat × Int32)
def zSu (v : Int32) : Prop := v = -13 ∨ v = -8 ∨ v = -14
def zRg (v : Int32) (m : Int) : Prop := 0 ≤ v.toInt ∧ v.toInt ≤ m
/-- a test stands at token k: it ends ahead of k1 -/
def zT1 (T : Nat → Int32) (k : Nat) (su ab nu : Int32) (k1 : Nat) : Prop := zSu (T k) ∧ su = T k ∧ ((T (k + 1) = -4 ∧ ab = 0) ∨ (T (k + 1) = -5 ∧ ab = 1)) ∧ ((T (k + 2) = -6 ∧ zRg (T (k + 3)) 1000 ∧ nu = -(T (k + 3)) ∧ k1 = k + 4) ∨ (¬ T (k + 2) = -6 ∧ zRg (T (k + 2)) 1000 ∧ nu = T (k + 2) ∧ k1 = k + 3))
/-- no test stands at token k: it can't go on at kf -/
def zT0 (T : Nat → Int32) (k kf : Nat) : Prop := (¬ zSu (T k) ∧ kf = k) ∨ (zSu (T k) ∧ ¬ (T (k + 1) = -4 ∨ T (k + 1) = -5) ∧ kf = k + 1) ∨ (zSu (T k) ∧ (T (k + 1) = -4 ∨ T (k + 1) = -5) ∧ T (k + 2) = -6 ∧ ¬ zRg (T (k + 3)) 1000 ∧ kf = k + 3) ∨ (zSu (T k) ∧ (T (k + 1) = -4 ∨ T (k + 1) = -5) ∧ ¬ T (k + 2) = -6 ∧ ¬ zRg (T (k + 2)) 1000 ∧ kf = k + 2)
/-- tests joined by "and", "or" -/
def zVt (T : Nat → Int32) : List zTst → Nat → Int32 → Nat → Bool → Nat → Prop
  | [], k, _, room, ok, k' => ok = false ∧ ((room = 0 ∧ k' = k) ∨ (0 < room ∧ zT0 T k k'))
  | x :: tl, k, o, room, ok, k' => 0 < room ∧ ∃ k1, zT1 T k x.1 x.2.1 x.2.2.1 k1 ∧ x.2.2.2 = o ∧ ((T k1 = -11 ∧ zVt T tl (k1 + 1) 1 (room - 1) ok k') ∨ (T k1 = -12 ∧ zVt T tl (k1 + 1) 0 (room - 1) ok k') ∨ (¬ T k1 = -11 ∧ ¬ T k1 = -12 ∧ tl = [] ∧ ok = true ∧ k' = k1))
/-- a rule at token k -/
def zVu (T : Nat → Int32) (k : Nat) (S S' : zS) (ok : Bool) (k' : Nat) : Prop :=
  (¬ (T k = -7 ∨ T k = -8 ∨ T k = -9) ∧ ok = false ∧ k' = k) ∨
  ((T k = -7 ∨ T k = -8) ∧ ¬ zRg (T (k + 1)) 1000 ∧ ok = false ∧ k' = k + 1) ∨
  (T k = -7 ∧ zRg (T (k + 1)) 1000 ∧ ok = true ∧ k' = k + 2 ∧ S' = (S.1 + 1, T (k + 1), S.2.2.1, S.2.2.2.1, S.2.2.2.2)) ∨
  (T k = -8 ∧ zRg (T (k + 1)) 1000 ∧ ok = true ∧ k' = k + 2 ∧ S' = (S.1 + 1, S.2.1, -(T (k + 1)), S.2.2.2.1, S.2.2.2.2)) ∨
  (T k = -9 ∧ ∃ tl : List zTst, (zVt T tl (k + 1) 0 (60 - S.2.2.2.1.length) false k' ∧ ok = false) ∨ ∃ k2, zVt T tl (k + 1) 0 (60 - S.2.2.2.1.length) true k2 ∧ ((¬ T k2 = -10 ∧ ok = false ∧ k' = k2) ∨ (T k2 = -10 ∧ ¬ zRg (T (k2 + 1)) 100 ∧ ok = false ∧ k' = k2 + 1) ∨ (T k2 = -10 ∧ zRg (T (k2 + 1)) 100 ∧ ok = true ∧ k' = k2 + 2 ∧ S' = (S.1 + 1, S.2.1, S.2.2.1, S.2.2.2.1 ++ tl, S.2.2.2.2 ++ [(S.2.2.2.1.length + tl.length, T (k2 + 1))]))))
/-- rules one behind the other, m of them at most -/
def zVl (T : Nat → Int32) : Nat → Nat → zS → Bool → Nat → zS → Prop
  | 0, k, _, ok, k', _ => ok = false ∧ k' = k
  | m + 1, k, S, ok, k', S' => (ok = false ∧ zVu T k S S false k') ∨ ∃ (k1 : Nat) (S1 : zS), zVu T k S S1 true k1 ∧ ((T k1 = -1 ∧ ok = true ∧ k' = k1 ∧ S' = S1) ∨ (¬ T k1 = -1 ∧ ¬ T k1 = -3 ∧ ok = false ∧ k' = k1) ∨ (T k1 = -3 ∧ zVl T m (k1 + 1) S1 ok k' S'))
/-- there is no token behind the last -/
theorem zTt_lt {tk : Nat → Int32} {N k : Nat} {v : Int32} (h : zTt tk N k = v) (hv : ¬ v = -1) : k < N := by
  unfold zTt at h
  split at h
  · assumption
  · exact absurd h.symm hv
theorem zTt_rg {tk : Nat → Int32} {N k : Nat} {m : Int} (h : zRg (zTt tk N k) m) : k < N := by
  unfold zTt at h
  split at h
  · assumption
  · exfalso
    have h1 := h.1
    have h2 : (-1 : Int32).toInt = -1 := rfl
    omega
theorem zTt_su {tk : Nat → Int32} {N k : Nat} (h : zSu (zTt tk N k)) : k < N := by
  rcases h with h | h | h <;> exact zTt_lt h (by decide)

/-- a book of the station -/
def zBk (ru te ifs re bo : Int32) (ts ta tn tf ie ir : Nat → Int32) (S : zS) : Prop := ru = nI S.1 ∧ te = nI S.2.2.2.1.length ∧ ifs = nI S.2.2.2.2.length ∧ re = S.2.1 ∧ bo = S.2.2.1 ∧ (∀ j x, S.2.2.2.1[j]? = some x → ts j = x.1 ∧ ta j = x.2.1 ∧ tn j = x.2.2.1 ∧ tf j = x.2.2.2) ∧ (∀ k y, S.2.2.2.2[k]? = some y → ie k = nI y.1 ∧ ir k = y.2)
theorem snoc_at {α : Type} {l : List α} {x y : α} {j : Nat} (h : (l ++ [x])[j]? = some y) : (j < l.length ∧ l[j]? = some y) ∨ (j = l.length ∧ y = x) := by
  rcases Nat.lt_or_ge j l.length with c | c
  · rw [List.getElem?_append_left c] at h
    exact Or.inl ⟨c, h⟩
  · rw [List.getElem?_append_right c] at h
    rcases Nat.lt_or_ge (j - l.length) 1 with c2 | c2
    · have e : j - l.length = 0 := by omega
      rw [e] at h
      exact Or.inr ⟨by omega, (Option.some.inj h).symm⟩
    · rw [List.getElem?_eq_none (by simpa using c2)] at h
      cases h
theorem zBk_t {ru te ifs re bo : Int32} {ts ta tn tf ie ir : Nat → Int32} {S : zS} {su ab nu od : Int32} (h : zBk ru te ifs re bo ts ta tn tf ie ir S) : zBk ru (nI (S.2.2.2.1.length + 1)) ifs re bo (upd ts S.2.2.2.1.length su) (upd ta S.2.2.2.1.length ab) (upd tn S.2.2.2.1.length nu) (upd tf S.2.2.2.1.length od) ie ir (S.1, S.2.1, S.2.2.1, S.2.2.2.1 ++ [(su, ab, nu, od)], S.2.2.2.2) := by
  obtain ⟨h1, h2, h3, h4, h5, h6, h7⟩ := h
  refine ⟨h1, by simp, h3, h4, h5, fun j x hx => ?_, h7⟩
  rcases snoc_at hx with ⟨c, e⟩ | ⟨c, e⟩
  · simp only [upd_at, if_neg (show ¬ j = S.2.2.2.1.length by omega)]
    exact h6 j x e
  · subst c
    subst e
    exact ⟨if_pos rfl, if_pos rfl, if_pos rfl, if_pos rfl⟩
theorem zBk_i {ru te ifs re bo : Int32} {ts ta tn tf ie ir : Nat → Int32} {S : zS} {ra : Int32} (h : zBk ru te ifs re bo ts ta tn tf ie ir S) : zBk (nI (S.1 + 1)) te (nI (S.2.2.2.2.length + 1)) re bo ts ta tn tf (upd ie S.2.2.2.2.length (nI S.2.2.2.1.length)) (upd ir S.2.2.2.2.length ra) (S.1 + 1, S.2.1, S.2.2.1, S.2.2.2.1, S.2.2.2.2 ++ [(S.2.2.2.1.length, ra)]) := by
  obtain ⟨h1, h2, h3, h4, h5, h6, h7⟩ := h
  refine ⟨rfl, h2, by simp, h4, h5, h6, fun j x hx => ?_⟩
  rcases snoc_at hx with ⟨c, e⟩ | ⟨c, e⟩
  · simp only [upd_at, if_neg (show ¬ j = S.2.2.2.2.length by omega)]
    exact h7 j x e
  · subst c
    subst e
    exact ⟨if_pos rfl, if_pos rfl⟩

set_option maxRecDepth 100000 in
theorem x_addTestA {d : Nat} {s : Nat → Int32} {a : Nat → Nat → Int32} {w : Bool} {Z : zH} {M : Nat} {su ab nu od : Int32} {Q : zQ} (hM : s 24 = nI M) (hM2 : M < 60) (hab : ab = 0 ∨ ab = 1) (hod : od = 0 ∨ od = 1) (h0 : ∀ (s' : Nat → Int32) (a' : Nat → Nat → Int32), zSm [24] s s' → zSm [34, 35, 36, 37] a a' → s' 24 = nI (M + 1) → a' 34 = upd (a 34) M su → a' 35 = upd (a 35) M ab → a' 36 = upd (a 36) M nu → a' 37 = upd (a 37) M od → Q none (HX s' a' w ++ Z)) : zG (d + 1) 46 [.ref 42, .int su, .int ab, .int nu, .int od] (HX s a w ++ Z) Q := by
  refine g_46 (Nat.le_of_ble_eq_true rfl) ?_
  intro X0 hX0
  have hcM : (nI M).toNatClampNeg = M := nI_clamp (by omega)
  iterate 5 refine hX0 _ _ _ _ ?_
  rw [hM]
  refine hX0 _ _ _ _ ?_
  refine And.intro (by exact vp_in_nI (by omega) (by omega)) ?_
  refine zcast (X := X0) xa_34 ?_
  rw [hcM]
  iterate 5 refine hX0 _ _ _ _ ?_
  rw [hM]
  refine hX0 _ _ _ _ ?_
  refine And.intro (by exact vp_in_nI (by omega) (by omega)) ?_
  refine zcast (X := X0) xa_35 ?_
  rw [hcM, if_pos rfl, nar_b hab]
  iterate 5 refine hX0 _ _ _ _ ?_
  rw [hM]
  refine hX0 _ _ _ _ ?_
  refine And.intro (by exact vp_in_nI (by omega) (by omega)) ?_
  refine zcast (X := X0) xa_36 ?_
  rw [hcM]
  iterate 5 refine hX0 _ _ _ _ ?_
  rw [hM]
  refine hX0 _ _ _ _ ?_
  refine And.intro (by exact vp_in_nI (by omega) (by omega)) ?_
  refine zcast (X := X0) xa_37 ?_
  rw [hcM, if_pos rfl, nar_b hod]
  iterate 6 refine hX0 _ _ _ _ ?_
  rw [hM, nI_1]
  refine zcast (X := X0) xs_24 ?_
  refine hX0 _ _ _ _ ?_
  exact h0 _ _ (zSm_up (by decide) zSm_refl) (by repeat (first | exact zSm_refl | refine zSm_up (by decide) ?_)) rfl rfl rfl rfl rfl

set_option maxRecDepth 100000 in
theorem x_readTestA {d : Nat} {s : Nat → Int32} {a : Nat → Nat → Int32} {w : Bool} {Z : zH} {N k M : Nat} {od : Int32} {Q : zQ} (hN : s 14 = nI N) (hN4 : N ≤ 400) (hk : s 16 = nI k) (hkN : k ≤ N) (hM : s 24 = nI M) (hM2 : M < 60) (hod : od = 0 ∨ od = 1) (h0 : ∀ (kf : Nat) (s' : Nat → Int32), zT0 (zTt (a 24) N) k kf → kf ≤ N → zSm [16] s s' → s' 16 = nI kf → Q (some (.int 0)) (HX s' a w ++ Z)) (h1 : ∀ (su ab nu : Int32) (k1 : Nat) (s' : Nat → Int32) (a' : Nat → Nat → Int32), zT1 (zTt (a 24) N) k su ab nu k1 → k1 ≤ N → zSm [16, 24] s s' → zSm [34, 35, 36, 37] a a' → s' 16 = nI k1 → s' 24 = nI (M + 1) → a' 34 = upd (a 34) M su → a' 35 = upd (a 35) M ab → a' 36 = upd (a 36) M nu → a' 37 = upd (a 37) M od → Q (some (.int 1)) (HX s' a' w ++ Z)) : zG (d + 2) 59 [.ref 30, .ref 42, .int od] (HX s a w ++ Z) Q := by
  refine g_59 (Nat.le_of_ble_eq_true rfl) ?_
  intro X0 hX0
  have tok : ∀ (s1 : Nat → Int32) (j : Nat) (K : zQ), zSm [16] s s1 → s1 16 = nI j → j ≤ N + 3 → K (some (.int ((zTt (a 24) N) j))) (HX s1 a w ++ Z) → zG (d + 1) 58 [.ref 30] (HX s1 a w ++ Z) K := fun s1 j K q1 q2 q3 q4 => x_token (N := N) (k := j) (by rw [q1 14 (by decide)]; exact hN) hN4 q2 (by omega) q4
  obtain ⟨T, hT⟩ : ∃ z, z = (zTt (a 24) N) := ⟨_, rfl⟩
  rw [← hT] at tok h0 h1
  have lt1 : ∀ j v, T j = v → ¬ v = -1 → j < N := fun j v h1 h2 => by rw [hT] at h1; exact zTt_lt h1 h2
  have at98 : ∀ (s1 : Nat → Int32) (j : Nat) (ab mi : Int32), zSu (T k) → ((T (k + 1) = -4 ∧ ab = 0) ∨ (T (k + 1) = -5 ∧ ab = 1)) → ((T (k + 2) = -6 ∧ mi = 1 ∧ j = k + 3) ∨ (¬ T (k + 2) = -6 ∧ mi = 0 ∧ j = k + 2)) → j ≤ N → zSm [16] s s1 → s1 16 = nI j → X0 98 [some (.ref 30), some (.ref 42), some (.int od), some (.int (T k)), some (.int (T (k + 1))), some (.int mi), none] [] (HX s1 a w ++ Z) := by
    intro s1 j ab mi y1 y2 y3 y4 q1 q2
    iterate 2 refine hX0 _ _ _ _ ?_
    refine tok s1 j _ q1 q2 (by omega) ?_
    iterate 5 refine hX0 _ _ _ _ ?_
    refine r_within 0 1000 rfl rfl (fun c1 => ?_) (fun c1 => ?_)
    · have hj : j < N := by
        have : zRg (zTt (a 24) N j) 1000 := by rw [hT] at c1; exact c1
        exact zTt_rg this
      refine hX0 _ _ _ _ ?_
      refine And.intro (fun _ => ?_) (fun c => absurd c (by decide))
      iterate 6 refine hX0 _ _ _ _ ?_
      rw [q2, nI_1]
      refine zcast (X := X0) xs_16 ?_
      have add : ∀ nu : Int32, nu = (if mi = 0 then T j else -(T j)) → ∀ o4 o5 o6 : Option Value, X0 156 [some (.ref 30), some (.ref 42), some (.int od), some (.int (T k)), o4, o5, o6] [.int od, .int nu, .int ab, .int (T k), .ref 42] (HX (va_up s1 16 (nI (j + 1))) a w ++ Z) := by
        intro nu hnu o4 o5 o6
        refine hX0 _ _ _ _ ?_
        refine x_addTestA (M := M) (by show s1 24 = nI M; rw [q1 24 (by decide)]; exact hM) hM2 (by rcases y2 with z | z; exact Or.inl z.2; exact Or.inr z.2) hod (fun s2 a2 p1 p2 p3 p4 p5 p6 p7 => ?_)
        iterate 2 refine hX0 _ _ _ _ ?_
        refine And.intro (Or.inr rfl) ?_
        refine h1 (T k) ab nu (j + 1) s2 a2 ⟨y1, rfl, y2, ?_⟩ (by omega) (zSm_trans (zSm_up (by decide) (zSm_more q1 (by decide))) (zSm_more p1 (by decide))) p2 (by rw [p1 16 (by decide)]; rfl) p3 p4 p5 p6 p7
        rcases y3 with ⟨z1, z2, z3⟩ | ⟨z1, z2, z3⟩
        · subst z3
          rw [z2] at hnu
          exact Or.inl ⟨z1, c1, hnu, rfl⟩
        · subst z3
          rw [z2] at hnu
          exact Or.inr ⟨z1, c1, hnu, rfl⟩
      iterate 4 refine hX0 _ _ _ _ ?_
      have mid : ∀ sg : Int32, X0 142 [some (.ref 30), some (.ref 42), some (.int od), some (.int (T k)), some (.int sg), some (.int mi), some (.int (T j))] [.int ab, .int (T k), .ref 42] (HX (va_up s1 16 (nI (j + 1))) a w ++ Z) := by
        intro sg
        iterate 2 refine hX0 _ _ _ _ ?_
        refine And.intro (fun c3 => ?_) (fun c3 => ?_)
        · iterate 2 refine hX0 _ _ _ _ ?_
          exact add _ (by rw [if_pos c3]) _ _ _
        · iterate 4 refine hX0 _ _ _ _ ?_
          exact add _ (by rw [if_neg c3]) _ _ _
      refine hX0 _ _ _ _ ?_
      refine And.intro (fun c2 => ?_) (fun c2 => ?_)
      · rcases y2 with z | z
        · refine hX0 _ _ _ _ ?_
          have m := mid (T (k + 1))
          rw [z.2] at m
          exact m
        · exact absurd z.1 c2
      · rcases y2 with z | z
        · rw [z.1] at c2
          exact absurd c2 (by decide)
        · iterate 2 refine hX0 _ _ _ _ ?_
          have m := mid (T (k + 1))
          rw [z.2] at m
          exact m
    · refine hX0 _ _ _ _ ?_
      refine And.intro (fun c => absurd c (by decide)) (fun _ => ?_)
      iterate 2 refine hX0 _ _ _ _ ?_
      refine And.intro (Or.inl rfl) ?_
      have y2' : T (k + 1) = -4 ∨ T (k + 1) = -5 := by
        rcases y2 with z | z
        · exact Or.inl z.1
        · exact Or.inr z.1
      refine h0 j s1 ?_ y4 q1 q2
      rcases y3 with ⟨z1, z2, z3⟩ | ⟨z1, z2, z3⟩
      · subst z3
        exact Or.inr (Or.inr (Or.inl ⟨y1, y2', z1, c1, rfl⟩))
      · subst z3
        exact Or.inr (Or.inr (Or.inr ⟨y1, y2', z1, c1, rfl⟩))
  have at57 : ∀ (s1 : Nat → Int32), zSu (T k) → (T (k + 1) = -4 ∨ T (k + 1) = -5) → k + 1 ≤ N → zSm [16] s s1 → s1 16 = nI (k + 1) → X0 57 [some (.ref 30), some (.ref 42), some (.int od), some (.int (T k)), some (.int (T (k + 1))), none, none] [] (HX s1 a w ++ Z) := by
    intro s1 y1 y2 y4 q1 q2
    have hab : ∃ ab : Int32, (T (k + 1) = -4 ∧ ab = 0) ∨ (T (k + 1) = -5 ∧ ab = 1) := by
      rcases y2 with z | z
      · exact ⟨0, Or.inl ⟨z, rfl⟩⟩
      · exact ⟨1, Or.inr ⟨z, rfl⟩⟩
    obtain ⟨ab, hab⟩ := hab
    have hk1 : k + 1 < N := by
      rcases y2 with z | z
      · exact lt1 _ _ z (by decide)
      · exact lt1 _ _ z (by decide)
    iterate 6 refine hX0 _ _ _ _ ?_
    rw [q2, nI_1]
    refine zcast (X := X0) xs_16 ?_
    iterate 2 refine hX0 _ _ _ _ ?_
    refine tok _ (k + 2) _ (zSm_up (by decide) q1) rfl (by omega) ?_
    iterate 2 refine hX0 _ _ _ _ ?_
    refine And.intro (fun c1 => ?_) (fun c1 => ?_)
    · iterate 4 refine hX0 _ _ _ _ ?_
      refine And.intro (fun _ => ?_) (fun c => absurd rfl c)
      exact at98 _ (k + 2) ab 0 y1 hab (Or.inr ⟨c1, rfl, rfl⟩) (by omega) (zSm_up (by decide) q1) rfl
    · have hk2 : k + 2 < N := lt1 _ _ c1 (by decide)
      iterate 5 refine hX0 _ _ _ _ ?_
      refine And.intro (fun c => absurd c (by decide)) (fun _ => ?_)
      iterate 6 refine hX0 _ _ _ _ ?_
      have e16 : va_up s1 16 (nI (k + 1 + 1)) 16 = nI (k + 2) := rfl
      rw [e16, nI_1]
      refine zcast (X := X0) xs_16 ?_
      exact at98 _ (k + 3) ab 1 y1 hab (Or.inl ⟨c1, rfl, rfl⟩) (by omega) (zSm_up (by decide) (zSm_up (by decide) q1)) rfl
  have at25 : zSu (T k) → X0 25 [some (.ref 30), some (.ref 42), some (.int od), some (.int (T k)), none, none, none] [] (HX s a w ++ Z) := by
    intro y1
    have hk0 : k < N := by rw [hT] at y1; exact zTt_su y1
    iterate 6 refine hX0 _ _ _ _ ?_
    rw [hk, nI_1]
    refine zcast (X := X0) xs_16 ?_
    iterate 2 refine hX0 _ _ _ _ ?_
    refine tok _ (k + 1) _ (zSm_up (by decide) zSm_refl) rfl (by omega) ?_
    iterate 4 refine hX0 _ _ _ _ ?_
    refine And.intro (fun c1 => ?_) (fun c1 => ?_)
    · exact at57 _ y1 (Or.inl c1) (by omega) (zSm_up (by decide) zSm_refl) rfl
    · iterate 3 refine hX0 _ _ _ _ ?_
      refine And.intro (fun c2 => ?_) (fun c2 => ?_)
      · exact at57 _ y1 (Or.inr c2) (by omega) (zSm_up (by decide) zSm_refl) rfl
      · iterate 2 refine hX0 _ _ _ _ ?_
        refine And.intro (Or.inl rfl) ?_
        exact h0 (k + 1) _ (Or.inr (Or.inl ⟨y1, fun z => by rcases z with z | z; exact c1 z; exact c2 z, rfl⟩)) (by omega) (zSm_up (by decide) zSm_refl) rfl
  iterate 2 refine hX0 _ _ _ _ ?_
  refine tok s k _ zSm_refl hk (by omega) ?_
  iterate 4 refine hX0 _ _ _ _ ?_
  refine And.intro (fun c1 => at25 (Or.inl c1)) (fun c1 => ?_)
  iterate 3 refine hX0 _ _ _ _ ?_
  refine And.intro (fun c2 => at25 (Or.inr (Or.inl c2))) (fun c2 => ?_)
  iterate 3 refine hX0 _ _ _ _ ?_
  refine And.intro (fun c3 => at25 (Or.inr (Or.inr c3))) (fun c3 => ?_)
  iterate 2 refine hX0 _ _ _ _ ?_
  refine And.intro (Or.inl rfl) ?_
  exact h0 k s (Or.inl ⟨fun z => by rcases z with z | z | z; exact c1 z; exact c2 z; exact c3 z, rfl⟩) hkN zSm_refl hk

set_option maxRecDepth 100000 in
theorem x_addTestB {d : Nat} {s : Nat → Int32} {a : Nat → Nat → Int32} {w : Bool} {Z : zH} {M : Nat} {su ab nu od : Int32} {Q : zQ} (hM : s 29 = nI M) (hM2 : M < 60) (hab : ab = 0 ∨ ab = 1) (hod : od = 0 ∨ od = 1) (h0 : ∀ (s' : Nat → Int32) (a' : Nat → Nat → Int32), zSm [29] s s' → zSm [40, 41, 42, 43] a a' → s' 29 = nI (M + 1) → a' 40 = upd (a 40) M su → a' 41 = upd (a 41) M ab → a' 42 = upd (a 42) M nu → a' 43 = upd (a 43) M od → Q none (HX s' a' w ++ Z)) : zG (d + 1) 46 [.ref 49, .int su, .int ab, .int nu, .int od] (HX s a w ++ Z) Q := by
  refine g_46 (Nat.le_of_ble_eq_true rfl) ?_
  intro X0 hX0
  have hcM : (nI M).toNatClampNeg = M := nI_clamp (by omega)
  iterate 5 refine hX0 _ _ _ _ ?_
  rw [hM]
  refine hX0 _ _ _ _ ?_
  refine And.intro (by exact vp_in_nI (by omega) (by omega)) ?_
  refine zcast (X := X0) xa_40 ?_
  rw [hcM]
  iterate 5 refine hX0 _ _ _ _ ?_
  rw [hM]
  refine hX0 _ _ _ _ ?_
  refine And.intro (by exact vp_in_nI (by omega) (by omega)) ?_
  refine zcast (X := X0) xa_41 ?_
  rw [hcM, if_pos rfl, nar_b hab]
  iterate 5 refine hX0 _ _ _ _ ?_
  rw [hM]
  refine hX0 _ _ _ _ ?_
  refine And.intro (by exact vp_in_nI (by omega) (by omega)) ?_
  refine zcast (X := X0) xa_42 ?_
  rw [hcM]
  iterate 5 refine hX0 _ _ _ _ ?_
  rw [hM]
  refine hX0 _ _ _ _ ?_
  refine And.intro (by exact vp_in_nI (by omega) (by omega)) ?_
  refine zcast (X := X0) xa_43 ?_
  rw [hcM, if_pos rfl, nar_b hod]
  iterate 6 refine hX0 _ _ _ _ ?_
  rw [hM, nI_1]
  refine zcast (X := X0) xs_29 ?_
  refine hX0 _ _ _ _ ?_
  exact h0 _ _ (zSm_up (by decide) zSm_refl) (by repeat (first | exact zSm_refl | refine zSm_up (by decide) ?_)) rfl rfl rfl rfl rfl

set_option maxRecDepth 100000 in
theorem x_readTestB {d : Nat} {s : Nat → Int32} {a : Nat → Nat → Int32} {w : Bool} {Z : zH} {N k M : Nat} {od : Int32} {Q : zQ} (hN : s 14 = nI N) (hN4 : N ≤ 400) (hk : s 16 = nI k) (hkN : k ≤ N) (hM : s 29 = nI M) (hM2 : M < 60) (hod : od = 0 ∨ od = 1) (h0 : ∀ (kf : Nat) (s' : Nat → Int32), zT0 (zTt (a 24) N) k kf → kf ≤ N → zSm [16] s s' → s' 16 = nI kf → Q (some (.int 0)) (HX s' a w ++ Z)) (h1 : ∀ (su ab nu : Int32) (k1 : Nat) (s' : Nat → Int32) (a' : Nat → Nat → Int32), zT1 (zTt (a 24) N) k su ab nu k1 → k1 ≤ N → zSm [16, 29] s s' → zSm [40, 41, 42, 43] a a' → s' 16 = nI k1 → s' 29 = nI (M + 1) → a' 40 = upd (a 40) M su → a' 41 = upd (a 41) M ab → a' 42 = upd (a 42) M nu → a' 43 = upd (a 43) M od → Q (some (.int 1)) (HX s' a' w ++ Z)) : zG (d + 2) 59 [.ref 30, .ref 49, .int od] (HX s a w ++ Z) Q := by
  refine g_59 (Nat.le_of_ble_eq_true rfl) ?_
  intro X0 hX0
  have tok : ∀ (s1 : Nat → Int32) (j : Nat) (K : zQ), zSm [16] s s1 → s1 16 = nI j → j ≤ N + 3 → K (some (.int ((zTt (a 24) N) j))) (HX s1 a w ++ Z) → zG (d + 1) 58 [.ref 30] (HX s1 a w ++ Z) K := fun s1 j K q1 q2 q3 q4 => x_token (N := N) (k := j) (by rw [q1 14 (by decide)]; exact hN) hN4 q2 (by omega) q4
  obtain ⟨T, hT⟩ : ∃ z, z = (zTt (a 24) N) := ⟨_, rfl⟩
  rw [← hT] at tok h0 h1
  have lt1 : ∀ j v, T j = v → ¬ v = -1 → j < N := fun j v h1 h2 => by rw [hT] at h1; exact zTt_lt h1 h2
  have at98 : ∀ (s1 : Nat → Int32) (j : Nat) (ab mi : Int32), zSu (T k) → ((T (k + 1) = -4 ∧ ab = 0) ∨ (T (k + 1) = -5 ∧ ab = 1)) → ((T (k + 2) = -6 ∧ mi = 1 ∧ j = k + 3) ∨ (¬ T (k + 2) = -6 ∧ mi = 0 ∧ j = k + 2)) → j ≤ N → zSm [16] s s1 → s1 16 = nI j → X0 98 [some (.ref 30), some (.ref 49), some (.int od), some (.int (T k)), some (.int (T (k + 1))), some (.int mi), none] [] (HX s1 a w ++ Z) := by
    intro s1 j ab mi y1 y2 y3 y4 q1 q2
    iterate 2 refine hX0 _ _ _ _ ?_
    refine tok s1 j _ q1 q2 (by omega) ?_
    iterate 5 refine hX0 _ _ _ _ ?_
    refine r_within 0 1000 rfl rfl (fun c1 => ?_) (fun c1 => ?_)
    · have hj : j < N := by
        have : zRg (zTt (a 24) N j) 1000 := by rw [hT] at c1; exact c1
        exact zTt_rg this
      refine hX0 _ _ _ _ ?_
      refine And.intro (fun _ => ?_) (fun c => absurd c (by decide))
      iterate 6 refine hX0 _ _ _ _ ?_
      rw [q2, nI_1]
      refine zcast (X := X0) xs_16 ?_
      have add : ∀ nu : Int32, nu = (if mi = 0 then T j else -(T j)) → ∀ o4 o5 o6 : Option Value, X0 156 [some (.ref 30), some (.ref 49), some (.int od), some (.int (T k)), o4, o5, o6] [.int od, .int nu, .int ab, .int (T k), .ref 49] (HX (va_up s1 16 (nI (j + 1))) a w ++ Z) := by
        intro nu hnu o4 o5 o6
        refine hX0 _ _ _ _ ?_
        refine x_addTestB (M := M) (by show s1 29 = nI M; rw [q1 29 (by decide)]; exact hM) hM2 (by rcases y2 with z | z; exact Or.inl z.2; exact Or.inr z.2) hod (fun s2 a2 p1 p2 p3 p4 p5 p6 p7 => ?_)
        iterate 2 refine hX0 _ _ _ _ ?_
        refine And.intro (Or.inr rfl) ?_
        refine h1 (T k) ab nu (j + 1) s2 a2 ⟨y1, rfl, y2, ?_⟩ (by omega) (zSm_trans (zSm_up (by decide) (zSm_more q1 (by decide))) (zSm_more p1 (by decide))) p2 (by rw [p1 16 (by decide)]; rfl) p3 p4 p5 p6 p7
        rcases y3 with ⟨z1, z2, z3⟩ | ⟨z1, z2, z3⟩
        · subst z3
          rw [z2] at hnu
          exact Or.inl ⟨z1, c1, hnu, rfl⟩
        · subst z3
          rw [z2] at hnu
          exact Or.inr ⟨z1, c1, hnu, rfl⟩
      iterate 4 refine hX0 _ _ _ _ ?_
      have mid : ∀ sg : Int32, X0 142 [some (.ref 30), some (.ref 49), some (.int od), some (.int (T k)), some (.int sg), some (.int mi), some (.int (T j))] [.int ab, .int (T k), .ref 49] (HX (va_up s1 16 (nI (j + 1))) a w ++ Z) := by
        intro sg
        iterate 2 refine hX0 _ _ _ _ ?_
        refine And.intro (fun c3 => ?_) (fun c3 => ?_)
        · iterate 2 refine hX0 _ _ _ _ ?_
          exact add _ (by rw [if_pos c3]) _ _ _
        · iterate 4 refine hX0 _ _ _ _ ?_
          exact add _ (by rw [if_neg c3]) _ _ _
      refine hX0 _ _ _ _ ?_
      refine And.intro (fun c2 => ?_) (fun c2 => ?_)
      · rcases y2 with z | z
        · refine hX0 _ _ _ _ ?_
          have m := mid (T (k + 1))
          rw [z.2] at m
          exact m
        · exact absurd z.1 c2
      · rcases y2 with z | z
        · rw [z.1] at c2
          exact absurd c2 (by decide)
        · iterate 2 refine hX0 _ _ _ _ ?_
          have m := mid (T (k + 1))
          rw [z.2] at m
          exact m
    · refine hX0 _ _ _ _ ?_
      refine And.intro (fun c => absurd c (by decide)) (fun _ => ?_)
      iterate 2 refine hX0 _ _ _ _ ?_
      refine And.intro (Or.inl rfl) ?_
      have y2' : T (k + 1) = -4 ∨ T (k + 1) = -5 := by
        rcases y2 with z | z
        · exact Or.inl z.1
        · exact Or.inr z.1
      refine h0 j s1 ?_ y4 q1 q2
      rcases y3 with ⟨z1, z2, z3⟩ | ⟨z1, z2, z3⟩
      · subst z3
        exact Or.inr (Or.inr (Or.inl ⟨y1, y2', z1, c1, rfl⟩))
      · subst z3
        exact Or.inr (Or.inr (Or.inr ⟨y1, y2', z1, c1, rfl⟩))
  have at57 : ∀ (s1 : Nat → Int32), zSu (T k) → (T (k + 1) = -4 ∨ T (k + 1) = -5) → k + 1 ≤ N → zSm [16] s s1 → s1 16 = nI (k + 1) → X0 57 [some (.ref 30), some (.ref 49), some (.int od), some (.int (T k)), some (.int (T (k + 1))), none, none] [] (HX s1 a w ++ Z) := by
    intro s1 y1 y2 y4 q1 q2
    have hab : ∃ ab : Int32, (T (k + 1) = -4 ∧ ab = 0) ∨ (T (k + 1) = -5 ∧ ab = 1) := by
      rcases y2 with z | z
      · exact ⟨0, Or.inl ⟨z, rfl⟩⟩
      · exact ⟨1, Or.inr ⟨z, rfl⟩⟩
    obtain ⟨ab, hab⟩ := hab
    have hk1 : k + 1 < N := by
      rcases y2 with z | z
      · exact lt1 _ _ z (by decide)
      · exact lt1 _ _ z (by decide)
    iterate 6 refine hX0 _ _ _ _ ?_
    rw [q2, nI_1]
    refine zcast (X := X0) xs_16 ?_
    iterate 2 refine hX0 _ _ _ _ ?_
    refine tok _ (k + 2) _ (zSm_up (by decide) q1) rfl (by omega) ?_
    iterate 2 refine hX0 _ _ _ _ ?_
    refine And.intro (fun c1 => ?_) (fun c1 => ?_)
    · iterate 4 refine hX0 _ _ _ _ ?_
      refine And.intro (fun _ => ?_) (fun c => absurd rfl c)
      exact at98 _ (k + 2) ab 0 y1 hab (Or.inr ⟨c1, rfl, rfl⟩) (by omega) (zSm_up (by decide) q1) rfl
    · have hk2 : k + 2 < N := lt1 _ _ c1 (by decide)
      iterate 5 refine hX0 _ _ _ _ ?_
      refine And.intro (fun c => absurd c (by decide)) (fun _ => ?_)
      iterate 6 refine hX0 _ _ _ _ ?_
      have e16 : va_up s1 16 (nI (k + 1 + 1)) 16 = nI (k + 2) := rfl
      rw [e16, nI_1]
      refine zcast (X := X0) xs_16 ?_
      exact at98 _ (k + 3) ab 1 y1 hab (Or.inl ⟨c1, rfl, rfl⟩) (by omega) (zSm_up (by decide) (zSm_up (by decide) q1)) rfl
  have at25 : zSu (T k) → X0 25 [some (.ref 30), some (.ref 49), some (.int od), some (.int (T k)), none, none, none] [] (HX s a w ++ Z) := by
    intro y1
    have hk0 : k < N := by rw [hT] at y1; exact zTt_su y1
    iterate 6 refine hX0 _ _ _ _ ?_
    rw [hk, nI_1]
    refine zcast (X := X0) xs_16 ?_
    iterate 2 refine hX0 _ _ _ _ ?_
    refine tok _ (k + 1) _ (zSm_up (by decide) zSm_refl) rfl (by omega) ?_
    iterate 4 refine hX0 _ _ _ _ ?_
    refine And.intro (fun c1 => ?_) (fun c1 => ?_)
    · exact at57 _ y1 (Or.inl c1) (by omega) (zSm_up (by decide) zSm_refl) rfl
    · iterate 3 refine hX0 _ _ _ _ ?_
      refine And.intro (fun c2 => ?_) (fun c2 => ?_)
      · exact at57 _ y1 (Or.inr c2) (by omega) (zSm_up (by decide) zSm_refl) rfl
      · iterate 2 refine hX0 _ _ _ _ ?_
        refine And.intro (Or.inl rfl) ?_
        exact h0 (k + 1) _ (Or.inr (Or.inl ⟨y1, fun z => by rcases z with z | z; exact c1 z; exact c2 z, rfl⟩)) (by omega) (zSm_up (by decide) zSm_refl) rfl
  iterate 2 refine hX0 _ _ _ _ ?_
  refine tok s k _ zSm_refl hk (by omega) ?_
  iterate 4 refine hX0 _ _ _ _ ?_
  refine And.intro (fun c1 => at25 (Or.inl c1)) (fun c1 => ?_)
  iterate 3 refine hX0 _ _ _ _ ?_
  refine And.intro (fun c2 => at25 (Or.inr (Or.inl c2))) (fun c2 => ?_)
  iterate 3 refine hX0 _ _ _ _ ?_
  refine And.intro (fun c3 => at25 (Or.inr (Or.inr c3))) (fun c3 => ?_)
  iterate 2 refine hX0 _ _ _ _ ?_
  refine And.intro (Or.inl rfl) ?_
  exact h0 k s (Or.inl ⟨fun z => by rcases z with z | z | z; exact c1 z; exact c2 z; exact c3 z, rfl⟩) hkN zSm_refl hk
