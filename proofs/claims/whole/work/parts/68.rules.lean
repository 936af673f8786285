/-! A TEST READ BY THE REFERENCE -/
def zwhat (su : Int32) : Int32 := if su = -13 then 0 else if su = -8 then 1 else 2
def zless (ab : Int32) : Int32 := if ab = 0 then 1 else 0
theorem zT1_one {T : Nat → Int32} {k : Nat} {su ab nu su' ab' nu' : Int32} {k1 k1' : Nat} (h : zT1 T k su ab nu k1) (h' : zT1 T k su' ab' nu' k1') : su = su' ∧ ab = ab' ∧ nu = nu' ∧ k1 = k1' := by
  obtain ⟨-, h2, h3, h4⟩ := h
  obtain ⟨-, g2, g3, g4⟩ := h'
  refine ⟨by rw [h2, g2], ?_, ?_⟩
  · rcases h3 with ⟨x, y⟩ | ⟨x, y⟩ <;> rcases g3 with ⟨x', y'⟩ | ⟨x', y'⟩
    · rw [y, y']
    · rw [x] at x'; exact absurd x' (by decide)
    · rw [x] at x'; exact absurd x' (by decide)
    · rw [y, y']
  · rcases h4 with ⟨x, y, z, e⟩ | ⟨x, y, z, e⟩ <;> rcases g4 with ⟨x', y', z', e'⟩ | ⟨x', y', z', e'⟩
    · exact ⟨by rw [z, z'], by rw [e, e']⟩
    · exact absurd x x'
    · exact absurd x' x
    · exact ⟨by rw [z, z'], by rw [e, e']⟩
theorem zT10 {T : Nat → Int32} {k : Nat} {su ab nu : Int32} {k1 kf : Nat} (h : zT1 T k su ab nu k1) (h' : zT0 T k kf) : False := by
  obtain ⟨h1, h2, h3, h4⟩ := h
  have h3' : T (k + 1) = -4 ∨ T (k + 1) = -5 := by
    rcases h3 with z | z
    · exact Or.inl z.1
    · exact Or.inr z.1
  rcases h' with z | z | z | z
  · exact z.1 h1
  · exact z.2.1 h3'
  · rcases h4 with y | y
    · exact z.2.2.2.1 y.2.1
    · exact y.1 z.2.2.1
  · rcases h4 with y | y
    · exact z.2.2.1 y.1
    · exact z.2.2.2.1 y.2.1
theorem zT0_one {T : Nat → Int32} {k kf kf' : Nat} (h : zT0 T k kf) (h' : zT0 T k kf') : kf = kf' := by
  rcases h with z | z | z | z <;> rcases h' with y | y | y | y
  · rw [z.2, y.2]
  · exact absurd y.1 z.1
  · exact absurd y.1 z.1
  · exact absurd y.1 z.1
  · exact absurd z.1 y.1
  · rw [z.2.2, y.2.2]
  · exact absurd y.2.1 z.2.1
  · exact absurd y.2.1 z.2.1
  · exact absurd z.1 y.1
  · exact absurd z.2.1 y.2.1
  · rw [z.2.2.2.2, y.2.2.2.2]
  · exact absurd z.2.2.1 y.2.2.1
  · exact absurd z.1 y.1
  · exact absurd z.2.1 y.2.1
  · exact absurd y.2.2.1 z.2.2.1
  · rw [z.2.2.2.2, y.2.2.2.2]

set_option maxRecDepth 100000 in
theorem y_rtD116 {d : Nat} {s : Nat → Int32} {a : Nat → Nat → Int32} {w : Bool} {t : Nat → Int32} {b : Nat → Nat → Int32} {u : Nat → Int64} {c : Nat → Nat → Int64} {od : Int32} {Q : zQ} {X0 : zX} (hX0 : ∀ pc L S h, zstep kX9_readTest (zG (d + 4)) Q X0 pc L S h → X0 pc L S h) (hb : t 20 = 1) (h0 : Q none (HX s a w ++ HM t b u c)) (wh le : Int32) (o4 o5 : Option Value) : X0 116 [some (.ref 56), some (.int od), some (.int wh), some (.int le), o4, o5] [] (HX s a w ++ HM t b u c) := by
  iterate 3 refine hX0 _ _ _ _ ?_
  rw [hb]
  refine And.intro (fun _ => ?_) (fun c => absurd c (by decide))
  iterate 4 refine hX0 _ _ _ _ ?_
  refine And.intro (fun _ => ?_) (fun c => absurd rfl c)
  iterate 3 refine hX0 _ _ _ _ ?_
  refine y_numBad hb (fun v => ?_)
  iterate 4 refine hX0 _ _ _ _ ?_
  rw [hb]
  refine And.intro (fun c => absurd c (by decide)) (fun _ => ?_)
  refine hX0 _ _ _ _ ?_
  exact h0
set_option maxRecDepth 100000 in
theorem y_rtD87 {d : Nat} {s : Nat → Int32} {a : Nat → Nat → Int32} {w : Bool} {t : Nat → Int32} {b : Nat → Nat → Int32} {u : Nat → Int64} {c : Nat → Nat → Int64} {od : Int32} {Q : zQ} {X0 : zX} (hX0 : ∀ pc L S h, zstep kX9_readTest (zG (d + 4)) Q X0 pc L S h → X0 pc L S h) (hb : t 20 = 1) (h0 : Q none (HX s a w ++ HM t b u c)) (wh : Int32) (o3 o4 o5 : Option Value) : X0 87 [some (.ref 56), some (.int od), some (.int wh), o3, o4, o5] [] (HX s a w ++ HM t b u c) := by
  have m : ∀ (le x : Int32), X0 113 [some (.ref 56), some (.int od), some (.int wh), some (.int le), o4, o5] [.int x, .ref 56] (HX s a w ++ HM t b u c) := by
    intro le x
    refine hX0 _ _ _ _ ?_
    refine y_mustBad (d := d + 1) hb ?_
    exact y_rtD116 hX0 hb h0 wh le o4 o5
  iterate 3 refine hX0 _ _ _ _ ?_
  refine y_sign (d := d + 3) (A := 60) rfl (fun c1 => ?_) (fun c1 => ?_)
  · iterate 4 refine hX0 _ _ _ _ ?_
    refine And.intro (fun _ => ?_) (fun c => absurd c (by decide))
    iterate 2 refine hX0 _ _ _ _ ?_
    exact m 1 1
  · iterate 4 refine hX0 _ _ _ _ ?_
    refine And.intro (fun c => absurd rfl c) (fun _ => ?_)
    iterate 3 refine hX0 _ _ _ _ ?_
    refine y_sign (d := d + 3) (A := 62) rfl (fun c2 => ?_) (fun c2 => ?_)
    · refine hX0 _ _ _ _ ?_
      refine And.intro (fun c => absurd c (by decide)) (fun _ => ?_)
      iterate 2 refine hX0 _ _ _ _ ?_
      exact m 0 1
    · refine hX0 _ _ _ _ ?_
      refine And.intro (fun _ => ?_) (fun c => absurd c (by decide))
      refine hX0 _ _ _ _ ?_
      exact m 0 0
set_option maxRecDepth 100000 in
theorem y_rtBad {d : Nat} {s : Nat → Int32} {a : Nat → Nat → Int32} {w : Bool} {t : Nat → Int32} {b : Nat → Nat → Int32} {u : Nat → Int64} {c : Nat → Nat → Int64} {od : Int32} {Q : zQ} (hb : t 20 = 1) (h0 : Q none (HX s a w ++ HM t b u c)) : zG (d + 5) 143 [.ref 56, .int od] (HX s a w ++ HM t b u c) Q := by
  refine g_143 (Nat.le_of_ble_eq_true rfl) ?_
  intro X0 hX0
  have m : ∀ (wh x : Int32), X0 84 [some (.ref 56), some (.int od), some (.int wh), none, none, none] [.int x, .ref 56] (HX s a w ++ HM t b u c) := by
    intro wh x
    refine hX0 _ _ _ _ ?_
    refine y_mustBad (d := d + 1) hb ?_
    exact y_rtD87 hX0 hb h0 wh none none none
  have at64 : ∀ wh : Int32, X0 64 [some (.ref 56), some (.int od), none, none, none, none] [.int wh] (HX s a w ++ HM t b u c) := by
    intro wh
    iterate 4 refine hX0 _ _ _ _ ?_
    refine And.intro (fun c1 => ?_) (fun c1 => ?_)
    · refine hX0 _ _ _ _ ?_
      exact m wh 0
    · iterate 4 refine hX0 _ _ _ _ ?_
      refine And.intro (fun c2 => ?_) (fun c2 => ?_)
      · refine hX0 _ _ _ _ ?_
        exact m wh 0
      · iterate 2 refine hX0 _ _ _ _ ?_
        exact m wh 1
  iterate 8 refine hX0 _ _ _ _ ?_
  refine y_word6 (d := d + 3) (fun c1 => ?_) (fun c1 => ?_)
  · refine hX0 _ _ _ _ ?_
    refine And.intro (fun c => absurd c (by decide)) (fun _ => ?_)
    iterate 2 refine hX0 _ _ _ _ ?_
    exact at64 0
  · refine hX0 _ _ _ _ ?_
    refine And.intro (fun _ => ?_) (fun c => absurd c (by decide))
    iterate 8 refine hX0 _ _ _ _ ?_
    refine y_word1 (d := d + 3) (fun c2 => ?_) (fun c2 => ?_)
    · refine hX0 _ _ _ _ ?_
      refine And.intro (fun c => absurd c (by decide)) (fun _ => ?_)
      iterate 2 refine hX0 _ _ _ _ ?_
      exact at64 1
    · refine hX0 _ _ _ _ ?_
      refine And.intro (fun _ => ?_) (fun c => absurd c (by decide))
      iterate 8 refine hX0 _ _ _ _ ?_
      refine y_word7 (d := d + 3) (fun c3 => ?_) (fun c3 => ?_)
      · refine hX0 _ _ _ _ ?_
        refine And.intro (fun c => absurd c (by decide)) (fun _ => ?_)
        iterate 2 refine hX0 _ _ _ _ ?_
        exact at64 2
      · refine hX0 _ _ _ _ ?_
        refine And.intro (fun _ => ?_) (fun c => absurd c (by decide))
        refine hX0 _ _ _ _ ?_
        exact at64 (-1)
set_option maxRecDepth 100000 in
theorem y_rt {d : Nat} {s : Nat → Int32} {a : Nat → Nat → Int32} {w : Bool} {t : Nat → Int32} {b : Nat → Nat → Int32} {u : Nat → Int64} {c : Nat → Nat → Int64} {f : Nat → Int32} {n N k : Nat} {st en : Nat → Nat} {tk pl : Nat → Int32} {M : Nat} {od : Int32} {Q : zQ} (ht : zTp f (b 29)) (hn : t 15 = nI n) (hn4 : n ≤ 400) (hs : zSpl f (b 29) n N st en tk pl) (hat : zAk st en (zTt tk N) n N t u k) (hb : t 20 = 0) (hkN : k ≤ N) (hM : t 25 = nI M) (hM2 : M ≤ 60) (hod : od = 0 ∨ od = 1)
  (h0 : ∀ (kf : Nat) (t' : Nat → Int32) (u' : Nat → Int64), ((M = 60 ∧ kf = k) ∨ (M < 60 ∧ zT0 (zTt tk N) k kf)) → zSm [16, 17, 18, 19, 20] t t' → zSm [1] u u' → t' 20 = 1 → t' 19 = nI (if kf < N then st kf else n) → Q none (HX s a w ++ HM t' b u' c))
  (h1 : ∀ (su ab nu : Int32) (k1 : Nat) (t' : Nat → Int32) (u' : Nat → Int64) (b' : Nat → Nat → Int32), M < 60 → zT1 (zTt tk N) k su ab nu k1 → k1 ≤ N → zSm [16, 17, 18, 25] t t' → zSm [1] u u' → zSm [32, 33, 34, 35] b b' → zAk st en (zTt tk N) n N t' u' k1 → t' 25 = nI (M + 1) → b' 32 = upd (b 32) M (zwhat su) → b' 33 = upd (b 33) M (zless ab) → b' 34 = upd (b 34) M nu → b' 35 = upd (b 35) M od → Q none (HX s a w ++ HM t' b' u' c)) : zG (d + 5) 143 [.ref 56, .int od] (HX s a w ++ HM t b u c) Q := by
  refine g_143 (Nat.le_of_ble_eq_true rfl) ?_
  intro X0 hX0
  obtain ⟨T, hT⟩ : ∃ z, z = zTt tk N := ⟨_, rfl⟩
  have lt1 : ∀ j v, T j = v → ¬ v = -1 → j < N := fun j v h1 h2 => by rw [hT] at h1; exact zTt_lt h1 h2
  have h60 : (60 : Int32) = nI 60 := rfl
  -- the number is read, and all goes into the rows
  have at98 : ∀ (t1 : Nat → Int32) (u1 : Nat → Int64) (j : Nat) (wh le ab mi : Int32), M < 60 → zSu (T k) → wh = zwhat (T k) → le = zless ab → (ab = 0 ∨ ab = 1) → ((T (k + 1) = -4 ∧ ab = 0) ∨ (T (k + 1) = -5 ∧ ab = 1)) → ((T (k + 2) = -6 ∧ mi = 1 ∧ j = k + 3) ∨ (¬ T (k + 2) = -6 ∧ mi = 0 ∧ j = k + 2)) → j ≤ N → zSm [16, 17, 18] t t1 → zSm [1] u u1 → zAk st en (zTt tk N) n N t1 u1 j → X0 148 [some (.ref 56), some (.int od), some (.int wh), some (.int le), some (.int mi), none] [] (HX s a w ++ HM t1 b u1 c) := by
    intro t1 u1 j wh le ab mi hM3 y1 ywh yle yab y2 y3 y4 q1 q2 q3
    have b20 : t1 20 = 0 := by rw [q1 20 (by decide)]; exact hb
    have b25 : t1 25 = nI M := by rw [q1 25 (by decide)]; exact hM
    have hcM : (nI M).toNatClampNeg = M := nI_clamp (by omega)
    have hle : le = 0 ∨ le = 1 := by
      rw [yle]
      rcases yab with z | z <;> rw [z]
      · exact Or.inr rfl
      · exact Or.inl rfl
    have y2' : T (k + 1) = -4 ∨ T (k + 1) = -5 := by
      rcases y2 with z | z
      · exact Or.inl z.1
      · exact Or.inr z.1
    iterate 3 refine hX0 _ _ _ _ ?_
    refine y_num (d := d) (k := j) (m := 1000) rfl (by decide) ht (by rw [q1 15 (by decide)]; exact hn) hn4 hs q3 b20 (fun t2 u2 z1 z2 p1 p2 p3 => ?_) (fun v z1 => ?_)
    · rw [← hT] at z1 ⊢
      have b20' : t2 20 = 0 := by rw [p1 20 (by decide)]; exact b20
      have b25' : t2 25 = nI M := by rw [p1 25 (by decide)]; exact b25
      iterate 4 refine hX0 _ _ _ _ ?_
      rw [b20']
      refine And.intro (fun _ => ?_) (fun c => absurd rfl c)
      iterate 5 refine hX0 _ _ _ _ ?_
      rw [b25']
      refine hX0 _ _ _ _ ?_
      refine And.intro (by exact vp_in_nI (by omega) (by omega)) ?_
      refine zcast (X := X0) yb_32 ?_
      rw [hcM]
      iterate 5 refine hX0 _ _ _ _ ?_
      rw [b25']
      refine hX0 _ _ _ _ ?_
      refine And.intro (by exact vp_in_nI (by omega) (by omega)) ?_
      refine zcast (X := X0) yb_33 ?_
      rw [hcM, if_pos rfl, nar_b hle]
      have put : ∀ nu : Int32, nu = (if mi = 0 then T j else -(T j)) → X0 206 [some (.ref 56), some (.int od), some (.int wh), some (.int le), some (.int mi), some (.int (T j))] [.int nu, .int (nI M), .ref 93] (HX s a w ++ HM t2 (va_up (va_up b 32 (upd (b 32) M wh)) 33 (upd (b 33) M le)) u2 c) := by
        intro nu hnu
        refine hX0 _ _ _ _ ?_
        refine And.intro (by exact vp_in_nI (by omega) (by omega)) ?_
        refine zcast (X := X0) yb_34 ?_
        rw [hcM]
        iterate 5 refine hX0 _ _ _ _ ?_
        rw [b25']
        refine hX0 _ _ _ _ ?_
        refine And.intro (by exact vp_in_nI (by omega) (by omega)) ?_
        refine zcast (X := X0) yb_35 ?_
        rw [hcM, if_pos rfl, nar_b hod]
        iterate 6 refine hX0 _ _ _ _ ?_
        rw [b25', nI_1]
        refine zcast (X := X0) yt_25 ?_
        refine hX0 _ _ _ _ ?_
        refine h1 (T k) ab nu (j + 1) _ u2 _ hM3 ?_ (by omega) (zSm_up (by decide) (zSm_trans (zSm_more q1 (by decide)) (zSm_more p1 (by decide)))) (zSm_trans q2 p2) (by repeat (first | exact zSm_refl | refine zSm_up (by decide) ?_)) p3 rfl (by rw [← ywh]; rfl) (by rw [← yle]; rfl) rfl rfl
        rw [← hT]
        refine ⟨y1, rfl, y2, ?_⟩
        rcases y3 with ⟨x1, x2, x3⟩ | ⟨x1, x2, x3⟩
        · subst x3
          rw [x2] at hnu
          exact Or.inl ⟨x1, z1, hnu, rfl⟩
        · subst x3
          rw [x2] at hnu
          exact Or.inr ⟨x1, z1, hnu, rfl⟩
      iterate 5 refine hX0 _ _ _ _ ?_
      rw [b25']
      refine hX0 _ _ _ _ ?_
      refine And.intro (fun c3 => ?_) (fun c3 => ?_)
      · refine hX0 _ _ _ _ ?_
        exact put _ (by rw [if_pos c3])
      · iterate 3 refine hX0 _ _ _ _ ?_
        exact put _ (by rw [if_neg c3])
    · rw [← hT] at z1
      iterate 4 refine hX0 _ _ _ _ ?_
      refine And.intro (fun c => absurd (show (1 : Int32) = 0 from c) (by decide)) (fun _ => ?_)
      refine hX0 _ _ _ _ ?_
      refine h0 j _ u1 (Or.inr ⟨hM3, ?_⟩) (zSm_up (by decide) (zSm_up (by decide) (zSm_more q1 (by decide)))) q2 rfl (by show t1 16 = _; exact q3.1)
      rw [← hT]
      rcases y3 with ⟨x1, x2, x3⟩ | ⟨x1, x2, x3⟩
      · subst x3
        exact Or.inr (Or.inr (Or.inl ⟨y1, y2', x1, z1, rfl⟩))
      · subst x3
        exact Or.inr (Or.inr (Or.inr ⟨y1, y2', x1, z1, rfl⟩))
  have at116 : ∀ (t1 : Nat → Int32) (u1 : Nat → Int64) (wh le ab : Int32), M < 60 → zSu (T k) → wh = zwhat (T k) → le = zless ab → (ab = 0 ∨ ab = 1) → ((T (k + 1) = -4 ∧ ab = 0) ∨ (T (k + 1) = -5 ∧ ab = 1)) → k + 2 ≤ N → zSm [16, 17, 18] t t1 → zSm [1] u u1 → zAk st en (zTt tk N) n N t1 u1 (k + 2) → X0 116 [some (.ref 56), some (.int od), some (.int wh), some (.int le), none, none] [] (HX s a w ++ HM t1 b u1 c) := by
    intro t1 u1 wh le ab hM3 y1 ywh yle yab y2 y4 q1 q2 q3
    have b20 : t1 20 = 0 := by rw [q1 20 (by decide)]; exact hb
    have hz := q3.2.2.2.2.1.2.2.2
    rw [← hT] at hz
    iterate 3 refine hX0 _ _ _ _ ?_
    rw [b20]
    refine And.intro (fun c => absurd rfl c) (fun _ => ?_)
    iterate 3 refine hX0 _ _ _ _ ?_
    refine y_sign (d := d + 3) (A := 45) rfl (fun c1 => ?_) (fun c1 => ?_)
    · have c1' := hz.mp c1
      have hk2 := lt1 _ _ c1' (by decide)
      refine hX0 _ _ _ _ ?_
      refine And.intro (fun c => absurd c (by decide)) (fun _ => ?_)
      iterate 5 refine hX0 _ _ _ _ ?_
      refine And.intro (fun c => absurd c (by decide)) (fun _ => ?_)
      iterate 2 refine hX0 _ _ _ _ ?_
      refine y_nx (d := d + 2) (k := k + 3) ht (by rw [q1 15 (by decide)]; exact hn) hn4 hs (by omega) (by rw [q3.2.1, if_pos hk2]; rfl) (fun t2 u2 p1 p2 p3 => ?_)
      exact at98 t2 u2 (k + 3) wh le ab 1 hM3 y1 ywh yle yab y2 (Or.inl ⟨c1', rfl, rfl⟩) (by omega) (zSm_trans q1 p1) (zSm_trans q2 p2) p3
    · refine hX0 _ _ _ _ ?_
      refine And.intro (fun _ => ?_) (fun c => absurd c (by decide))
      iterate 4 refine hX0 _ _ _ _ ?_
      refine And.intro (fun _ => ?_) (fun c => absurd rfl c)
      exact at98 t1 u1 (k + 2) wh le ab 0 hM3 y1 ywh yle yab y2 (Or.inr ⟨fun z => c1 (hz.mpr z), rfl, rfl⟩) y4 q1 q2 q3
  have at87 : ∀ (t1 : Nat → Int32) (u1 : Nat → Int64) (wh : Int32), M < 60 → zSu (T k) → wh = zwhat (T k) → k + 1 ≤ N → zSm [16, 17, 18] t t1 → zSm [1] u u1 → zAk st en (zTt tk N) n N t1 u1 (k + 1) → X0 87 [some (.ref 56), some (.int od), some (.int wh), none, none, none] [] (HX s a w ++ HM t1 b u1 c) := by
    intro t1 u1 wh hM3 y1 ywh y4 q1 q2 q3
    have b20 : t1 20 = 0 := by rw [q1 20 (by decide)]; exact hb
    have b15 : t1 15 = nI n := by rw [q1 15 (by decide)]; exact hn
    have hl := q3.2.2.2.2.1.2.1
    have hm := q3.2.2.2.2.1.2.2.1
    rw [← hT] at hl hm
    have go : ∀ (le ab : Int32), le = zless ab → (ab = 0 ∨ ab = 1) → ((T (k + 1) = -4 ∧ ab = 0) ∨ (T (k + 1) = -5 ∧ ab = 1)) → X0 113 [some (.ref 56), some (.int od), some (.int wh), some (.int le), none, none] [.int 1, .ref 56] (HX s a w ++ HM t1 b u1 c) := by
      intro le ab yle yab y2
      have hk1 : k + 1 < N := by
        rcases y2 with z | z
        · exact lt1 _ _ z.1 (by decide)
        · exact lt1 _ _ z.1 (by decide)
      refine hX0 _ _ _ _ ?_
      refine y_mustOk (d := d + 1) (k := k + 1) ht b15 hn4 hs hk1 q3.2.1 b20 (fun t2 u2 p1 p2 p3 => ?_)
      exact at116 t2 u2 wh le ab hM3 y1 ywh yle yab y2 (by omega) (zSm_trans q1 p1) (zSm_trans q2 p2) p3
    iterate 3 refine hX0 _ _ _ _ ?_
    refine y_sign (d := d + 3) (A := 60) rfl (fun c1 => ?_) (fun c1 => ?_)
    · iterate 4 refine hX0 _ _ _ _ ?_
      refine And.intro (fun _ => ?_) (fun c => absurd c (by decide))
      iterate 2 refine hX0 _ _ _ _ ?_
      exact go 1 0 rfl (Or.inl rfl) (Or.inl ⟨hl.mp c1, rfl⟩)
    · iterate 4 refine hX0 _ _ _ _ ?_
      refine And.intro (fun c => absurd rfl c) (fun _ => ?_)
      iterate 3 refine hX0 _ _ _ _ ?_
      refine y_sign (d := d + 3) (A := 62) rfl (fun c2 => ?_) (fun c2 => ?_)
      · refine hX0 _ _ _ _ ?_
        refine And.intro (fun c => absurd c (by decide)) (fun _ => ?_)
        iterate 2 refine hX0 _ _ _ _ ?_
        exact go 0 1 rfl (Or.inr rfl) (Or.inr ⟨hm.mp c2, rfl⟩)
      · refine hX0 _ _ _ _ ?_
        refine And.intro (fun _ => ?_) (fun c => absurd c (by decide))
        iterate 2 refine hX0 _ _ _ _ ?_
        refine y_mustNo (d := d + 1) b20 ?_
        refine y_rtD116 hX0 rfl ?_ wh 0 none none
        refine h0 (k + 1) _ u1 (Or.inr ⟨hM3, ?_⟩) (zSm_up (by decide) (zSm_up (by decide) (zSm_more q1 (by decide)))) q2 rfl (by show t1 16 = _; exact q3.1)
        rw [← hT]
        exact Or.inr (Or.inl ⟨y1, fun z => by rcases z with z | z; exact c1 (hl.mpr z); exact c2 (hm.mpr z), rfl⟩)
  have at64 : ∀ wh : Int32, wh = zwhat (T k) → zSu (T k) → (0 ≤ wh.toInt) → X0 64 [some (.ref 56), some (.int od), none, none, none, none] [.int wh] (HX s a w ++ HM t b u c) := by
    intro wh ywh y1 y0
    have hz0 : (0 : Int32).toInt = 0 := rfl
    have hk0 : k < N := by rw [hT] at y1; exact zTt_su y1
    iterate 4 refine hX0 _ _ _ _ ?_
    refine And.intro (fun c1 => ?_) (fun c1 => ?_)
    · exfalso
      rw [fa_lt] at c1
      omega
    · iterate 3 refine hX0 _ _ _ _ ?_
      rw [hM]
      refine hX0 _ _ _ _ ?_
      rw [h60]
      refine And.intro (fun c2 => ?_) (fun c2 => ?_)
      · rw [nI_leI (by omega) (by omega)] at c2
        iterate 2 refine hX0 _ _ _ _ ?_
        refine y_mustNo (d := d + 1) hb ?_
        refine y_rtD87 hX0 rfl ?_ wh none none none
        exact h0 k _ u (Or.inl ⟨by omega, rfl⟩) (zSm_up (by decide) (zSm_up (by decide) zSm_refl)) zSm_refl rfl (by show t 16 = _; exact hat.1)
      · rw [nI_leI (by omega) (by omega)] at c2
        iterate 3 refine hX0 _ _ _ _ ?_
        refine y_mustOk (d := d + 1) (k := k) ht hn hn4 hs hk0 hat.2.1 hb (fun t2 u2 p1 p2 p3 => ?_)
        exact at87 t2 u2 wh (by omega) y1 ywh (by omega) p1 p2 p3
  have hz := hat.2.2.2.1
  rw [← hT] at hz
  iterate 8 refine hX0 _ _ _ _ ?_
  refine y_word6 (d := d + 3) (fun c1 => ?_) (fun c1 => ?_)
  · have e := hz.2.2.2.2.2.2.1.mp c1
    refine hX0 _ _ _ _ ?_
    refine And.intro (fun c => absurd c (by decide)) (fun _ => ?_)
    iterate 2 refine hX0 _ _ _ _ ?_
    exact at64 0 (by rw [e]; rfl) (Or.inl e) (by decide)
  · refine hX0 _ _ _ _ ?_
    refine And.intro (fun _ => ?_) (fun c => absurd c (by decide))
    iterate 8 refine hX0 _ _ _ _ ?_
    refine y_word1 (d := d + 3) (fun c2 => ?_) (fun c2 => ?_)
    · have e := hz.2.1.mp c2
      refine hX0 _ _ _ _ ?_
      refine And.intro (fun c => absurd c (by decide)) (fun _ => ?_)
      iterate 2 refine hX0 _ _ _ _ ?_
      exact at64 1 (by rw [e]; rfl) (Or.inr (Or.inl e)) (by decide)
    · refine hX0 _ _ _ _ ?_
      refine And.intro (fun _ => ?_) (fun c => absurd c (by decide))
      iterate 8 refine hX0 _ _ _ _ ?_
      refine y_word7 (d := d + 3) (fun c3 => ?_) (fun c3 => ?_)
      · have e := hz.2.2.2.2.2.2.2.mp c3
        refine hX0 _ _ _ _ ?_
        refine And.intro (fun c => absurd c (by decide)) (fun _ => ?_)
        iterate 2 refine hX0 _ _ _ _ ?_
        exact at64 2 (by rw [e]; rfl) (Or.inr (Or.inr e)) (by decide)
      · refine hX0 _ _ _ _ ?_
        refine And.intro (fun _ => ?_) (fun c => absurd c (by decide))
        iterate 5 refine hX0 _ _ _ _ ?_
        refine And.intro (fun _ => ?_) (fun c => absurd (show (-1 : Int32) < 0 by decide) c)
        iterate 2 refine hX0 _ _ _ _ ?_
        refine y_mustNo (d := d + 1) hb ?_
        refine y_rtD87 hX0 rfl ?_ (-1) none none none
        have nsu : ¬ zSu (zTt tk N k) := by
          rw [← hT]
          rintro (z | z | z)
          · exact c1 (hz.2.2.2.2.2.2.1.mpr z)
          · exact c2 (hz.2.1.mpr z)
          · exact c3 (hz.2.2.2.2.2.2.2.mpr z)
        refine h0 k _ u ?_ (zSm_up (by decide) (zSm_up (by decide) zSm_refl)) zSm_refl rfl (by show t 16 = _; exact hat.1)
        rcases Nat.lt_or_ge M 60 with z | z
        · exact Or.inr ⟨z, Or.inl ⟨nsu, rfl⟩⟩
        · exact Or.inl ⟨by omega, rfl⟩
