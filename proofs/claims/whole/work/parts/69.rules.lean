/-! A RULE READ BY THE REFERENCE -/
/-- what was read, in the reference -/
def zBm (ru re bo ifs te : Int32) (nf nr nw nl nv no : Nat → Int32) (S : zS) : Prop := ru = nI S.1 ∧ re = S.2.1 ∧ bo = S.2.2.1 ∧ ifs = nI S.2.2.2.2.length ∧ te = nI S.2.2.2.1.length ∧ (∀ j x, S.2.2.2.1[j]? = some x → nw j = zwhat x.1 ∧ nl j = zless x.2.1 ∧ nv j = x.2.2.1 ∧ no j = x.2.2.2) ∧ (∀ k y, S.2.2.2.2[k]? = some y → nf (k + 1) = nI y.1 ∧ nr k = y.2) ∧ (0 < S.2.2.2.2.length → nf 0 = 0)
/-- the ends of the ifs go up; the last is the number of tests -/
def zSI (S : zS) : Prop := (S.2.2.2.2 = [] → S.2.2.2.1 = []) ∧ (∀ y, S.2.2.2.2[S.2.2.2.2.length - 1]? = some y → y.1 = S.2.2.2.1.length)
theorem zBm_t {ru re bo ifs te : Int32} {nf nr nw nl nv no : Nat → Int32} {S : zS} {su ab nu od : Int32} (h : zBm ru re bo ifs te nf nr nw nl nv no S) : zBm ru re bo ifs (nI (S.2.2.2.1.length + 1)) nf nr (upd nw S.2.2.2.1.length (zwhat su)) (upd nl S.2.2.2.1.length (zless ab)) (upd nv S.2.2.2.1.length nu) (upd no S.2.2.2.1.length od) (S.1, S.2.1, S.2.2.1, S.2.2.2.1 ++ [(su, ab, nu, od)], S.2.2.2.2) := by
  obtain ⟨h1, h2, h3, h4, h5, h6, h7, h8⟩ := h
  refine ⟨h1, h2, h3, h4, by simp, fun j x hx => ?_, h7, h8⟩
  rcases snoc_at hx with ⟨c, e⟩ | ⟨c, e⟩
  · simp only [upd_at, if_neg (show ¬ j = S.2.2.2.1.length by omega)]
    exact h6 j x e
  · subst c
    subst e
    exact ⟨if_pos rfl, if_pos rfl, if_pos rfl, if_pos rfl⟩

set_option maxRecDepth 100000 in
theorem y_rlD {d : Nat} {s : Nat → Int32} {a : Nat → Nat → Int32} {w : Bool} {t : Nat → Int32} {b : Nat → Nat → Int32} {u : Nat → Int64} {c : Nat → Nat → Int64} {Q : zQ} {X0 : zX} (hX0 : ∀ pc L S h, zstep kX9_readRule (zG (d + 5)) Q X0 pc L S h → X0 pc L S h) (hb : t 20 = 1) (h0 : ∀ x : Int32, Q none (HX s a w ++ HM (va_up t 21 x) b u c)) (o1 o2 o3 o4 : Option Value) : X0 283 [some (.ref 56), o1, o2, o3, o4] [] (HX s a w ++ HM t b u c) := by
  iterate 6 refine hX0 _ _ _ _ ?_
  rw [hb]
  refine And.intro (fun c => absurd c (by decide)) (fun _ => ?_)
  iterate 4 refine hX0 _ _ _ _ ?_
  refine zcast (X := X0) yt_21 ?_
  refine hX0 _ _ _ _ ?_
  exact h0 _
set_option maxRecDepth 100000 in
theorem y_rlD213 {d : Nat} {s : Nat → Int32} {a : Nat → Nat → Int32} {w : Bool} {t : Nat → Int32} {b : Nat → Nat → Int32} {u : Nat → Int64} {c : Nat → Nat → Int64} {Q : zQ} {X0 : zX} (hX0 : ∀ pc L S h, zstep kX9_readRule (zG (d + 5)) Q X0 pc L S h → X0 pc L S h) (hb : t 20 = 1) (h0 : ∀ x : Int32, Q none (HX s a w ++ HM (va_up t 21 x) b u c)) (o1 o2 o3 : Option Value) : X0 213 [some (.ref 56), o1, o2, o3, none] [] (HX s a w ++ HM t b u c) := by
  have m : ∀ x : Int32, X0 230 [some (.ref 56), o1, o2, o3, none] [.int x, .ref 56] (HX s a w ++ HM t b u c) := by
    intro x
    refine hX0 _ _ _ _ ?_
    refine y_mustBad (d := d + 2) hb ?_
    iterate 3 refine hX0 _ _ _ _ ?_
    refine y_numBad (d := d + 1) hb (fun v => ?_)
    iterate 4 refine hX0 _ _ _ _ ?_
    rw [hb]
    refine And.intro (fun _ => ?_) (fun c => absurd c (by decide))
    exact y_rlD hX0 hb h0 o1 o2 (zo o3) (some (.int v))
  iterate 9 refine hX0 _ _ _ _ ?_
  refine y_word3 (d := d + 4) (fun c1 => ?_) (fun c1 => ?_)
  · exact m 1
  · exact m 0
set_option maxRecDepth 100000 in
theorem y_rlD161 {d : Nat} {s : Nat → Int32} {a : Nat → Nat → Int32} {w : Bool} {t : Nat → Int32} {b : Nat → Nat → Int32} {u : Nat → Int64} {c : Nat → Nat → Int64} {Q : zQ} {X0 : zX} (hX0 : ∀ pc L S h, zstep kX9_readRule (zG (d + 5)) Q X0 pc L S h → X0 pc L S h) (hb : t 20 = 1) (h0 : ∀ x : Int32, Q none (HX s a w ++ HM (va_up t 21 x) b u c)) (o1 o2 : Option Value) (v3 : Int32) : X0 161 [some (.ref 56), o1, o2, some (.int v3), none] [] (HX s a w ++ HM t b u c) := by
  iterate 3 refine hX0 _ _ _ _ ?_
  rw [hb]
  refine And.intro (fun _ => ?_) (fun c => absurd c (by decide))
  exact y_rlD213 hX0 hb h0 o1 o2 (some (.int v3))
set_option maxRecDepth 100000 in
theorem y_rlD71 {d : Nat} {s : Nat → Int32} {a : Nat → Nat → Int32} {w : Bool} {t : Nat → Int32} {b : Nat → Nat → Int32} {u : Nat → Int64} {c : Nat → Nat → Int64} {Q : zQ} {X0 : zX} (hX0 : ∀ pc L S h, zstep kX9_readRule (zG (d + 5)) Q X0 pc L S h → X0 pc L S h) (hb : t 20 = 1) (h0 : ∀ t' : Nat → Int32, zSm [21, 22, 23] t t' → Q none (HX s a w ++ HM t' b u c)) (v1 v2 : Int32) : X0 71 [some (.ref 56), some (.int v1), some (.int v2), none, none] [] (HX s a w ++ HM t b u c) := by
  have e : ∀ (t1 : Nat → Int32) (o3 o4 : Option Value), zSm [21, 22, 23] t t1 → X0 283 [some (.ref 56), some (.int v1), some (.int v2), o3, o4] [] (HX s a w ++ HM t1 b u c) := by
    intro t1 o3 o4 q
    exact y_rlD hX0 (by rw [q 20 (by decide)]; exact hb) (fun x => h0 _ (zSm_up (by decide) q)) _ _ o3 o4
  have m117 : ∀ (t1 : Nat → Int32) (o3 : Option Value) (x : Int32), zSm [21, 22, 23] t t1 → X0 117 [some (.ref 56), some (.int v1), some (.int v2), o3, none] [.int x, .ref 56] (HX s a w ++ HM t1 b u c) := by
    intro t1 o3 x q
    refine hX0 _ _ _ _ ?_
    refine zcast (X := X0) yt_23 ?_
    refine hX0 _ _ _ _ ?_
    exact e _ _ _ (zSm_up (by decide) q)
  have m100 : ∀ (v x : Int32), X0 100 [some (.ref 56), some (.int v1), some (.int v2), some (.int v), none] [.int x, .ref 56] (HX s a w ++ HM t b u c) := by
    intro v x
    refine hX0 _ _ _ _ ?_
    refine zcast (X := X0) yt_22 ?_
    iterate 3 refine hX0 _ _ _ _ ?_
    refine And.intro (fun _ => ?_) (fun _ => ?_)
    · iterate 2 refine hX0 _ _ _ _ ?_
      exact m117 _ _ _ (zSm_up (by decide) zSm_refl)
    · iterate 3 refine hX0 _ _ _ _ ?_
      exact m117 _ _ _ (zSm_up (by decide) zSm_refl)
  have m79 : X0 79 [some (.ref 56), some (.int v1), some (.int v2), none, none] [] (HX s a w ++ HM t b u c) := by
    iterate 3 refine hX0 _ _ _ _ ?_
    refine y_numBad (d := d + 1) hb (fun v => ?_)
    iterate 4 refine hX0 _ _ _ _ ?_
    refine And.intro (fun _ => ?_) (fun _ => ?_)
    · iterate 2 refine hX0 _ _ _ _ ?_
      exact m100 _ _
    · iterate 2 refine hX0 _ _ _ _ ?_
      exact m100 _ _
  iterate 2 refine hX0 _ _ _ _ ?_
  refine And.intro (fun _ => m79) (fun _ => ?_)
  iterate 2 refine hX0 _ _ _ _ ?_
  refine And.intro (fun _ => ?_) (fun _ => m79)
  iterate 3 refine hX0 _ _ _ _ ?_
  rw [hb]
  refine And.intro (fun _ => e _ _ _ zSm_refl) (fun c => absurd c (by decide))
set_option maxRecDepth 100000 in
theorem y_rl {d : Nat} {s : Nat → Int32} {a : Nat → Nat → Int32} {w : Bool} {t : Nat → Int32} {b : Nat → Nat → Int32} {u : Nat → Int64} {c : Nat → Nat → Int64} {f : Nat → Int32} {n N k : Nat} {st en : Nat → Nat} {tk pl : Nat → Int32} {S S' : zS} {ok : Bool} {k' : Nat} {Q : zQ} (ht : zTp f (b 29)) (hn : t 15 = nI n) (hn4 : n ≤ 400) (hs : zSpl f (b 29) n N st en tk pl) (hat : zAk st en (zTt tk N) n N t u k) (hb : t 20 = 0) (hkN : k ≤ N) (hB : zBm (t 21) (t 22) (t 23) (t 24) (t 25) (b 30) (b 31) (b 32) (b 33) (b 34) (b 35) S) (hSI : zSI S) (hT60 : S.2.2.2.1.length ≤ 60) (hI20 : S.2.2.2.2.length ≤ S.1) (hR20 : S.1 ≤ 20) (hv : (S.1 = 20 ∧ ok = false ∧ k' = k) ∨ (S.1 < 20 ∧ zVu (zTt tk N) k S S' ok k'))
  (h0 : ok = false → ∀ (t' : Nat → Int32) (u' : Nat → Int64) (b' : Nat → Nat → Int32), zSm [16, 17, 18, 19, 20, 21, 22, 23, 24, 25] t t' → zSm [1] u u' → zSm [30, 31, 32, 33, 34, 35] b b' → t' 20 = 1 → t' 19 = nI (if k' < N then st k' else n) → Q none (HX s a w ++ HM t' b' u' c))
  (h1 : ok = true → k' ≤ N → ∀ (t' : Nat → Int32) (u' : Nat → Int64) (b' : Nat → Nat → Int32), zSm [16, 17, 18, 21, 22, 23, 24, 25] t t' → zSm [1] u u' → zSm [30, 31, 32, 33, 34, 35] b b' → zAk st en (zTt tk N) n N t' u' k' → zBm (t' 21) (t' 22) (t' 23) (t' 24) (t' 25) (b' 30) (b' 31) (b' 32) (b' 33) (b' 34) (b' 35) S' → Q none (HX s a w ++ HM t' b' u' c)) : zG (d + 6) 144 [.ref 56] (HX s a w ++ HM t b u c) Q := by
  refine g_144 (Nat.le_of_ble_eq_true rfl) ?_
  intro X0 hX0
  obtain ⟨T, hT⟩ : ∃ z, z = zTt tk N := ⟨_, rfl⟩
  have lt1 : ∀ j v, T j = v → ¬ v = -1 → j < N := fun j v h1 h2 => by rw [hT] at h1; exact zTt_lt h1 h2
  have h20 : (20 : Int32) = nI 20 := rfl
  have hz := hat.2.2.2.1
  rw [← hT] at hz hv
  -- it can't go on
  have dead : ∀ (t1 : Nat → Int32) (u1 : Nat → Int64) (b1 : Nat → Nat → Int32), ok = false → zSm [16, 17, 18, 19, 20, 21, 22, 23, 24, 25] t t1 → zSm [1] u u1 → zSm [30, 31, 32, 33, 34, 35] b b1 → t1 20 = 1 → t1 19 = nI (if k' < N then st k' else n) → ∀ x : Int32, Q none (HX s a w ++ HM (va_up t1 21 x) b1 u1 c) := by
    intro t1 u1 b1 e q1 q2 q3 q4 q5 x
    exact h0 e _ u1 b1 (zSm_up (by decide) q1) q2 q3 q4 q5
  -- it goes on
  have good : ∀ (t1 : Nat → Int32) (u1 : Nat → Int64) (b1 : Nat → Nat → Int32) (R : Nat) (o1 o2 o3 o4 : Option Value), ok = true → k' ≤ N → zSm [16, 17, 18, 21, 22, 23, 24, 25] t t1 → zSm [1] u u1 → zSm [30, 31, 32, 33, 34, 35] b b1 → zAk st en (zTt tk N) n N t1 u1 k' → t1 20 = 0 → t1 21 = nI R → zBm (nI (R + 1)) (t1 22) (t1 23) (t1 24) (t1 25) (b1 30) (b1 31) (b1 32) (b1 33) (b1 34) (b1 35) S' → X0 283 [some (.ref 56), o1, o2, o3, o4] [] (HX s a w ++ HM t1 b1 u1 c) := by
    intro t1 u1 b1 R o1 o2 o3 o4 e e2 q1 q2 q3 q4 q5 q6 q7
    iterate 6 refine hX0 _ _ _ _ ?_
    rw [q5]
    refine And.intro (fun _ => ?_) (fun c => absurd rfl c)
    iterate 3 refine hX0 _ _ _ _ ?_
    rw [q6, nI_1]
    refine zcast (X := X0) yt_21 ?_
    refine hX0 _ _ _ _ ?_
    exact h1 e e2 _ u1 b1 (zSm_up (by decide) q1) q2 q3 q4 q7
  have b21 : t 21 = nI S.1 := hB.1
  have b24 : t 24 = nI S.2.2.2.2.length := hB.2.2.2.1
  have b25 : t 25 = nI S.2.2.2.1.length := hB.2.2.2.2.1
  -- behind the tests
  have at213 : ∀ (tl : List zTst) (k2 : Nat) (t1 : Nat → Int32) (u1 : Nat → Int64) (b1 : Nat → Nat → Int32) (v1 v2 v3 : Int32), S.1 < 20 → ((¬ T k2 = -10 ∧ ok = false ∧ k' = k2) ∨ (T k2 = -10 ∧ ¬ zRg (T (k2 + 1)) 100 ∧ ok = false ∧ k' = k2 + 1) ∨ (T k2 = -10 ∧ zRg (T (k2 + 1)) 100 ∧ ok = true ∧ k' = k2 + 2 ∧ S' = (S.1 + 1, S.2.1, S.2.2.1, S.2.2.2.1 ++ tl, S.2.2.2.2 ++ [(S.2.2.2.1.length + tl.length, T (k2 + 1))]))) → zSm [16, 17, 18, 21, 22, 23, 24, 25] t t1 → zSm [1] u u1 → zSm [30, 31, 32, 33, 34, 35] b b1 → zAk st en (zTt tk N) n N t1 u1 k2 → k2 ≤ N → zBm (t1 21) (t1 22) (t1 23) (t1 24) (t1 25) (b1 30) (b1 31) (b1 32) (b1 33) (b1 34) (b1 35) (S.1, S.2.1, S.2.2.1, S.2.2.2.1 ++ tl, S.2.2.2.2) → (S.2.2.2.2.length = 0 → b1 30 0 = 0) → X0 213 [some (.ref 56), some (.int v1), some (.int v2), some (.int v3), none] [] (HX s a w ++ HM t1 b1 u1 c) := by
    intro tl k2 t1 u1 b1 v1 v2 v3 hR y q1 q2 q3 q4 q5 q6 q7
    have c20 : t1 20 = 0 := by rw [q1 20 (by decide)]; exact hb
    have c15 : t1 15 = nI n := by rw [q1 15 (by decide)]; exact hn
    have hw := q4.2.2.2.1.2.2.2.1
    rw [← hT] at hw
    have c24 : t1 24 = nI S.2.2.2.2.length := q6.2.2.2.1
    have c25 : t1 25 = nI (S.2.2.2.1.length + tl.length) := by
      have := q6.2.2.2.2.1
      rw [List.length_append] at this
      exact this
    have hcI : (nI S.2.2.2.2.length).toNatClampNeg = S.2.2.2.2.length := nI_clamp (by omega)
    have hcI1 : (nI (S.2.2.2.2.length + 1)).toNatClampNeg = S.2.2.2.2.length + 1 := nI_clamp (by omega)
    iterate 9 refine hX0 _ _ _ _ ?_
    refine y_word3 (d := d + 4) (fun c1 => ?_) (fun c1 => ?_)
    · have e10 := hw.mp c1
      have hk2 := lt1 _ _ e10 (by decide)
      refine hX0 _ _ _ _ ?_
      refine y_mustOk (d := d + 2) (k := k2) (f := f) (by rw [q3 29 (by decide)]; exact ht) c15 hn4 (by rw [q3 29 (by decide)]; exact hs) hk2 q4.2.1 c20 (fun t2 u2 p1 p2 p3 => ?_)
      iterate 3 refine hX0 _ _ _ _ ?_
      refine y_num (d := d + 1) (k := k2 + 1) (m := 100) rfl (by decide) (f := f) (by rw [q3 29 (by decide)]; exact ht) (by rw [p1 15 (by decide)]; exact c15) hn4 (by rw [q3 29 (by decide)]; exact hs) p3 (by rw [p1 20 (by decide)]; exact c20) (fun t3 u3 z1 z2 r1 r2 r3 => ?_) (fun v z1 => ?_)
      · rw [← hT] at z1 ⊢
        rcases y with y | y | y
        · exact absurd e10 y.1
        · exact absurd z1 y.2.1
        · obtain ⟨-, -, eok, ek, eS⟩ := y
          have d20 : t3 20 = 0 := by rw [r1 20 (by decide), p1 20 (by decide)]; exact c20
          have d24 : t3 24 = nI S.2.2.2.2.length := by rw [r1 24 (by decide), p1 24 (by decide)]; exact c24
          have d25 : t3 25 = nI (S.2.2.2.1.length + tl.length) := by rw [r1 25 (by decide), p1 25 (by decide)]; exact c25
          iterate 4 refine hX0 _ _ _ _ ?_
          rw [d20]
          refine And.intro (fun c => absurd rfl c) (fun _ => ?_)
          iterate 5 refine hX0 _ _ _ _ ?_
          rw [d24]
          refine hX0 _ _ _ _ ?_
          refine And.intro (by exact vp_in_nI (by omega) (by omega)) ?_
          refine zcast (X := X0) yb_31 ?_
          rw [hcI]
          iterate 6 refine hX0 _ _ _ _ ?_
          rw [d24, nI_1]
          refine zcast (X := X0) yt_24 ?_
          obtain ⟨t4, ht4⟩ : ∃ z, z = va_up t3 24 (nI (S.2.2.2.2.length + 1)) := ⟨_, rfl⟩
          rw [← ht4]
          have e24 : t4 24 = nI (S.2.2.2.2.length + 1) := by rw [ht4]; rfl
          have e25 : t4 25 = nI (S.2.2.2.1.length + tl.length) := by rw [ht4]; exact d25
          iterate 7 refine hX0 _ _ _ _ ?_
          rw [e24, e25]
          refine And.intro (by exact vp_in_nI (by omega) (by omega)) ?_
          refine zcast (X := X0) yb_30 ?_
          rw [hcI1]
          have s1 : zSm [16, 17, 18, 21, 22, 23, 24, 25] t t4 := by
            rw [ht4]
            exact zSm_up (by decide) (zSm_trans q1 (zSm_trans (zSm_more p1 (by decide)) (zSm_more r1 (by decide))))
          refine good t4 u3 _ S.1 _ _ _ _ eok (by omega) s1 (zSm_trans q2 (zSm_trans p2 r2)) (zSm_up (by decide) (zSm_up (by decide) q3)) (by rw [ek]; exact ⟨by rw [ht4]; exact r3.1, by rw [ht4]; exact r3.2.1, by rw [ht4]; exact r3.2.2⟩) (by rw [ht4]; exact d20) (by rw [ht4]; show t3 21 = _; rw [r1 21 (by decide), p1 21 (by decide)]; exact q6.1) ?_
          rw [eS]
          have k22 : t4 22 = t1 22 := by rw [ht4]; show t3 22 = _; rw [r1 22 (by decide), p1 22 (by decide)]
          have k23 : t4 23 = t1 23 := by rw [ht4]; show t3 23 = _; rw [r1 23 (by decide), p1 23 (by decide)]
          rw [k22, k23, e24, e25]
          obtain ⟨g1, g2, g3, g4, g5, g6, g7, g8⟩ := q6
          refine ⟨rfl, g2, g3, by simp, by simp, g6, fun j x hx => ?_, fun _ => ?_⟩
          · rcases snoc_at hx with ⟨c, e⟩ | ⟨c, e⟩
            · have g := g7 j x e
              refine ⟨?_, ?_⟩
              · show upd (b1 30) (S.2.2.2.2.length + 1) _ (j + 1) = _
                rw [upd_at, if_neg (by omega)]
                exact g.1
              · show upd (b1 31) S.2.2.2.2.length _ j = _
                rw [upd_at, if_neg (by omega)]
                exact g.2
            · subst c
              subst e
              exact ⟨if_pos rfl, if_pos rfl⟩
          · show upd (b1 30) (S.2.2.2.2.length + 1) (nI (S.2.2.2.1.length + tl.length)) 0 = 0
            rw [upd_at, if_neg (by omega)]
            rcases Nat.eq_zero_or_pos S.2.2.2.2.length with z | z
            · exact q7 z
            · exact g8 z
      · rw [← hT] at z1
        rcases y with y | y | y
        · exact absurd e10 y.1
        · iterate 4 refine hX0 _ _ _ _ ?_
          refine And.intro (fun _ => ?_) (fun c => absurd (show (1 : Int32) = 0 from c) (by decide))
          refine y_rlD hX0 rfl (dead _ u2 b1 y.2.2.1 (zSm_up (by decide) (zSm_up (by decide) (zSm_more (zSm_trans q1 (zSm_more p1 (by decide))) (by decide)))) (zSm_trans q2 p2) q3 rfl ?_) _ _ _ _
          show t2 16 = _
          rw [y.2.2.2]
          exact p3.1
        · exact absurd y.2.1 z1
    · have ne10 : ¬ T k2 = -10 := fun z => c1 (hw.mpr z)
      rcases y with y | y | y
      · refine hX0 _ _ _ _ ?_
        refine y_mustNo (d := d + 2) c20 ?_
        iterate 3 refine hX0 _ _ _ _ ?_
        refine y_numBad (d := d + 1) rfl (fun v => ?_)
        iterate 4 refine hX0 _ _ _ _ ?_
        refine And.intro (fun _ => ?_) (fun c => absurd (show (1 : Int32) = 0 from c) (by decide))
        refine y_rlD hX0 rfl (dead _ u1 b1 y.2.1 (zSm_up (by decide) (zSm_up (by decide) (zSm_more q1 (by decide)))) q2 q3 rfl ?_) _ _ _ _
        show t1 16 = _
        rw [y.2.2]
        exact q4.1
      · exact absurd y.1 ne10
      · exact absurd y.1 ne10
  -- the tests
  have main : S.1 < 20 → ∀ (tl' tl0 : List zTst) (k1 room kT : Nat) (od : Int32) (okT : Bool) (t1 : Nat → Int32) (u1 : Nat → Int64) (b1 : Nat → Nat → Int32) (v1 v2 : Int32) (Qc : zQ), zVt T tl' k1 od room okT kT → (od = 0 ∨ od = 1) → S.2.2.2.1.length + tl0.length + room = 60 → (okT = false → ok = false ∧ k' = kT) → (okT = true → ((¬ T kT = -10 ∧ ok = false ∧ k' = kT) ∨ (T kT = -10 ∧ ¬ zRg (T (kT + 1)) 100 ∧ ok = false ∧ k' = kT + 1) ∨ (T kT = -10 ∧ zRg (T (kT + 1)) 100 ∧ ok = true ∧ k' = kT + 2 ∧ S' = (S.1 + 1, S.2.1, S.2.2.1, S.2.2.2.1 ++ (tl0 ++ tl'), S.2.2.2.2 ++ [(S.2.2.2.1.length + (tl0 ++ tl').length, T (kT + 1))])))) → zSm [16, 17, 18, 21, 22, 23, 24, 25] t t1 → zSm [1] u u1 → zSm [30, 31, 32, 33, 34, 35] b b1 → zAk st en (zTt tk N) n N t1 u1 k1 → k1 ≤ N → zBm (t1 21) (t1 22) (t1 23) (t1 24) (t1 25) (b1 30) (b1 31) (b1 32) (b1 33) (b1 34) (b1 35) (S.1, S.2.1, S.2.2.1, S.2.2.2.1 ++ tl0, S.2.2.2.2) → (S.2.2.2.2.length = 0 → b1 30 0 = 0) → (∀ (t2 : Nat → Int32) (u2 : Nat → Int64) (b2 : Nat → Nat → Int32), (∀ v3 : Int32, ((t2 18 = 1 ∧ (u2 1).toInt = 498) ∧ v3 = 1) ∨ (¬ (t2 18 = 1 ∧ (u2 1).toInt = 498) ∧ v3 = 0) → X0 161 [some (.ref 56), some (.int v1), some (.int v2), some (.int v3), none] [] (HX s a w ++ HM t2 b2 u2 c)) → Qc none (HX s a w ++ HM t2 b2 u2 c)) → zG (d + 5) 143 [.ref 56, .int od] (HX s a w ++ HM t1 b1 u1 c) Qc := by
    have w4 : ∀ (t2 : Nat → Int32) (u2 : Nat → Int64) (b2 : Nat → Nat → Int32) (v1 v2 v0 : Int32), (∀ v3 : Int32, ((t2 18 = 1 ∧ (u2 1).toInt = 498) ∧ v3 = 1) ∨ (¬ (t2 18 = 1 ∧ (u2 1).toInt = 498) ∧ v3 = 0) → X0 161 [some (.ref 56), some (.int v1), some (.int v2), some (.int v3), none] [] (HX s a w ++ HM t2 b2 u2 c)) → X0 197 [some (.ref 56), some (.int v1), some (.int v2), some (.int v0), none] [] (HX s a w ++ HM t2 b2 u2 c) := by
      intro t2 u2 b2 v1 v2 v0 hx
      iterate 8 refine hX0 _ _ _ _ ?_
      refine y_word4 (d := d + 4) (fun c1 => ?_) (fun c1 => ?_)
      · iterate 2 refine hX0 _ _ _ _ ?_
        exact hx 1 (Or.inl ⟨c1, rfl⟩)
      · iterate 2 refine hX0 _ _ _ _ ?_
        exact hx 0 (Or.inr ⟨c1, rfl⟩)
    intro hR tl'
    induction tl' with
    | nil =>
      intro tl0 k1 room kT od okT t1 u1 b1 v1 v2 Qc hvt hod hrm f0 f1 q1 q2 q3 q4 q5 q6 q7 hq
      obtain ⟨e1, e2⟩ := hvt
      obtain ⟨e3, e4⟩ := f0 e1
      have c25 := q6.2.2.2.2.1
      rw [List.length_append] at c25
      refine y_rt (d := d) (f := f) (M := S.2.2.2.1.length + tl0.length) (by rw [q3 29 (by decide)]; exact ht) (by rw [q1 15 (by decide)]; exact hn) hn4 (by rw [q3 29 (by decide)]; exact hs) q4 (by rw [q1 20 (by decide)]; exact hb) q5 c25 (by omega) hod (fun kf t2 u2 z p1 p2 p3 p4 => ?_) (fun su ab nu k2 t2 u2 b2 z1 z2 => ?_)
      · refine hq t2 u2 b1 (fun v3 _ => ?_)
        refine y_rlD161 hX0 p3 (dead t2 u2 b1 e3 (zSm_trans (zSm_more q1 (by decide)) (zSm_more p1 (by decide))) (zSm_trans q2 p2) q3 p3 ?_) _ _ v3
        have ekf : kf = kT := by
          rw [← hT] at z
          rcases z with ⟨z1, z2⟩ | ⟨z1, z2⟩ <;> rcases e2 with ⟨y1, y2⟩ | ⟨y1, y2⟩
          · omega
          · omega
          · omega
          · exact zT0_one z2 y2
        rw [e4, ← ekf]
        exact p4
      · exfalso
        rw [← hT] at z2
        rcases e2 with ⟨y1, y2⟩ | ⟨y1, y2⟩
        · omega
        · exact zT10 z2 y2
    | cons x tl ih =>
      intro tl0 k1 room kT od okT t1 u1 b1 v1 v2 Qc hvt hod hrm f0 f1 q1 q2 q3 q4 q5 q6 q7 hq
      obtain ⟨hr0, k2, y1, y2, y3⟩ := hvt
      have c25 := q6.2.2.2.2.1
      rw [List.length_append] at c25
      refine y_rt (d := d) (f := f) (M := S.2.2.2.1.length + tl0.length) (by rw [q3 29 (by decide)]; exact ht) (by rw [q1 15 (by decide)]; exact hn) hn4 (by rw [q3 29 (by decide)]; exact hs) q4 (by rw [q1 20 (by decide)]; exact hb) q5 c25 (by omega) hod (fun kf t2 u2 z p1 p2 p3 p4 => ?_) (fun su ab nu k2' t2 u2 b2 z1 z2 z3 p1 p2 p3 p4 p5 p6 p7 p8 p9 => ?_)
      · exfalso
        rw [← hT] at z
        rcases z with ⟨z1, z2⟩ | ⟨z1, z2⟩
        · omega
        · exact zT10 y1 z2
      · rw [← hT] at z2
        obtain ⟨e1, e2, e3, e4⟩ := zT1_one z2 y1
        subst e4
        have ex : x = (su, ab, nu, od) := by
          obtain ⟨x1, x2, x3, x4⟩ := x
          simp only at e1 e2 e3 y2
          rw [e1, e2, e3, y2]
        have n1 : zSm [16, 17, 18, 21, 22, 23, 24, 25] t t2 := zSm_trans q1 (zSm_more p1 (by decide))
        have n2 : zSm [1] u u2 := zSm_trans q2 p2
        have n3 : zSm [30, 31, 32, 33, 34, 35] b b2 := zSm_trans q3 (zSm_more p3 (by decide))
        have n6 : zBm (t2 21) (t2 22) (t2 23) (t2 24) (t2 25) (b2 30) (b2 31) (b2 32) (b2 33) (b2 34) (b2 35) (S.1, S.2.1, S.2.2.1, S.2.2.2.1 ++ (tl0 ++ [x]), S.2.2.2.2) := by
          have g := zBm_t (su := su) (ab := ab) (nu := nu) (od := od) q6
          simp only [List.length_append] at g
          rw [p1 21 (by decide), p1 22 (by decide), p1 23 (by decide), p1 24 (by decide), p5, p3 30 (by decide), p3 31 (by decide), p6, p7, p8, p9, ex, ← List.append_assoc]
          exact g
        have n7 : S.2.2.2.2.length = 0 → b2 30 0 = 0 := by
          rw [p3 30 (by decide)]
          exact q7
        have c20 : t2 20 = 0 := by rw [n1 20 (by decide)]; exact hb
        have hw := p4.2.2.2.1
        rw [← hT] at hw
        have hl1 : (tl0 ++ [x]).length = tl0.length + 1 := by simp
        have hap : (tl0 ++ [x]) ++ tl = tl0 ++ x :: tl := by simp
        have nxt : ∀ o : Int32, (o = 0 ∨ o = 1) → k2' < N → zVt T tl (k2' + 1) o (room - 1) okT kT → X0 188 [some (.ref 56), some (.int v1), some (.int v2), some (.int o), none] [] (HX s a w ++ HM t2 b2 u2 c) := by
          intro o ho hk y
          iterate 2 refine hX0 _ _ _ _ ?_
          refine y_nx (d := d + 3) (k := k2' + 1) (f := f) (by rw [n3 29 (by decide)]; exact ht) (by rw [n1 15 (by decide)]; exact hn) hn4 (by rw [n3 29 (by decide)]; exact hs) (by omega) (by rw [p4.2.1, if_pos hk]; rfl) (fun t3 u3 r1 r2 r3 => ?_)
          iterate 3 refine hX0 _ _ _ _ ?_
          refine ih (tl0 ++ [x]) (k2' + 1) (room - 1) kT o okT t3 u3 b2 v1 v2 _ y ho (by rw [hl1]; omega) f0 (fun z => by rw [hap]; exact f1 z) (zSm_trans n1 (zSm_more r1 (by decide))) (zSm_trans n2 r2) n3 r3 (by omega) (by rw [r1 21 (by decide), r1 22 (by decide), r1 23 (by decide), r1 24 (by decide), r1 25 (by decide)]; exact n6) n7 (fun t4 u4 b4 hx => ?_)
          exact w4 t4 u4 b4 v1 v2 o hx
        refine hq t2 u2 b2 (fun v3 hv3 => ?_)
        iterate 3 refine hX0 _ _ _ _ ?_
        rw [c20]
        refine And.intro (fun c => absurd rfl c) (fun _ => ?_)
        rcases hv3 with ⟨c1, c2⟩ | ⟨c1, c2⟩
        · have e11 := hw.2.2.2.2.1.mp c1
          rw [c2]
          iterate 2 refine hX0 _ _ _ _ ?_
          refine And.intro (fun _ => ?_) (fun c => absurd c (by decide))
          rcases y3 with y3 | y3 | y3
          · exact nxt 1 (Or.inr rfl) (lt1 _ _ e11 (by decide)) y3.2
          · rw [e11] at y3
            exact absurd y3.1 (by decide)
          · exact absurd e11 y3.1
        · have n11 : ¬ T k2' = -11 := fun z => c1 (hw.2.2.2.2.1.mpr z)
          rw [c2]
          iterate 2 refine hX0 _ _ _ _ ?_
          refine And.intro (fun c => absurd rfl c) (fun _ => ?_)
          iterate 8 refine hX0 _ _ _ _ ?_
          refine y_word5 (d := d + 4) (fun c3 => ?_) (fun c3 => ?_)
          · have e12 := hw.2.2.2.2.2.1.mp c3
            refine hX0 _ _ _ _ ?_
            refine And.intro (fun c => absurd c (by decide)) (fun _ => ?_)
            rcases y3 with y3 | y3 | y3
            · exact absurd y3.1 n11
            · exact nxt 0 (Or.inl rfl) (lt1 _ _ e12 (by decide)) y3.2
            · exact absurd e12 y3.2.1
          · have n12 : ¬ T k2' = -12 := fun z => c3 (hw.2.2.2.2.2.1.mpr z)
            refine hX0 _ _ _ _ ?_
            refine And.intro (fun _ => ?_) (fun c => absurd c (by decide))
            rcases y3 with y3 | y3 | y3
            · exact absurd y3.1 n11
            · exact absurd y3.1 n12
            · obtain ⟨-, -, y4, y5, y6⟩ := y3
              subst y4
              subst y6
              exact at213 (tl0 ++ [x]) kT t2 u2 b2 v1 v2 0 hR (f1 y5) n1 n2 n3 p4 z3 n6 n7
  -- behind the first word
  have at71 : ∀ (t1 : Nat → Int32) (u1 : Nat → Int64) (v1 v2 : Int32), ((v1 = 1 ∧ v2 = 0 ∧ T k = -7) ∨ (v1 = 0 ∧ v2 = 1 ∧ T k = -8) ∨ (v1 = 0 ∧ v2 = 0 ∧ T k = -9)) → S.1 < 20 → k < N → zSm [16, 17, 18] t t1 → zSm [1] u u1 → zAk st en (zTt tk N) n N t1 u1 (k + 1) → X0 71 [some (.ref 56), some (.int v1), some (.int v2), none, none] [] (HX s a w ++ HM t1 b u1 c) := by
    intro t1 u1 v1 v2 y hR hk q1 q2 q4
    have hv' : zVu T k S S' ok k' := by
      rcases hv with z | z
      · omega
      · exact z.2
    have c20 : t1 20 = 0 := by rw [q1 20 (by decide)]; exact hb
    have c21 : t1 21 = nI S.1 := by rw [q1 21 (by decide)]; exact b21
    have c22 : t1 22 = S.2.1 := by rw [q1 22 (by decide)]; exact hB.2.1
    have c23 : t1 23 = S.2.2.1 := by rw [q1 23 (by decide)]; exact hB.2.2.1
    have c24 : t1 24 = nI S.2.2.2.2.length := by rw [q1 24 (by decide)]; exact b24
    have c25 : t1 25 = nI S.2.2.2.1.length := by rw [q1 25 (by decide)]; exact b25
    have hcI : (nI S.2.2.2.2.length).toNatClampNeg = S.2.2.2.2.length := nI_clamp (by omega)
    rcases y with ⟨y1, y2, y3⟩ | ⟨y1, y2, y3⟩ | ⟨y1, y2, y3⟩
    · rw [y1, y2]
      iterate 2 refine hX0 _ _ _ _ ?_
      refine And.intro (fun _ => ?_) (fun c => absurd c (by decide))
      iterate 3 refine hX0 _ _ _ _ ?_
      refine y_num (d := d + 1) (k := k + 1) (m := 1000) rfl (by decide) ht (by rw [q1 15 (by decide)]; exact hn) hn4 hs q4 c20 (fun t2 u2 z1 z2 r1 r2 r3 => ?_) (fun v z1 => ?_)
      · rw [← hT] at z1 ⊢
        iterate 4 refine hX0 _ _ _ _ ?_
        refine And.intro (fun c => absurd c (by decide)) (fun _ => ?_)
        iterate 3 refine hX0 _ _ _ _ ?_
        refine zcast (X := X0) yt_22 ?_
        iterate 3 refine hX0 _ _ _ _ ?_
        refine And.intro (fun _ => ?_) (fun c => absurd rfl c)
        iterate 3 refine hX0 _ _ _ _ ?_
        refine zcast (X := X0) yt_23 ?_
        refine hX0 _ _ _ _ ?_
        rcases hv' with v | v | v | v | v
        · exact absurd (Or.inl y3) v.1
        · exact absurd z1 v.2.1
        · obtain ⟨-, -, v1, v2, v3⟩ := v
          refine good _ u2 b S.1 _ _ _ _ v1 (by omega) (zSm_up (by decide) (zSm_up (by decide) (zSm_trans (zSm_more q1 (by decide)) (zSm_more r1 (by decide))))) (zSm_trans q2 r2) zSm_refl (by rw [v2]; exact r3) (by show t2 20 = 0; rw [r1 20 (by decide)]; exact c20) (by show t2 21 = _; rw [r1 21 (by decide)]; exact c21) ?_
          rw [v3]
          obtain ⟨g1, g2, g3, g4, g5, g6, g7, g8⟩ := hB
          exact ⟨rfl, rfl, by show t2 23 = _; rw [r1 23 (by decide)]; exact c23, by show t2 24 = _; rw [r1 24 (by decide)]; exact c24, by show t2 25 = _; rw [r1 25 (by decide)]; exact c25, g6, g7, g8⟩
        · rw [y3] at v
          exact absurd v.1 (by decide)
        · rw [y3] at v
          exact absurd v.1 (by decide)
      · rw [← hT] at z1
        rcases hv' with v' | v' | v' | v' | v'
        · exact absurd (Or.inl y3) v'.1
        · iterate 4 refine hX0 _ _ _ _ ?_
          refine And.intro (fun c => absurd c (by decide)) (fun _ => ?_)
          iterate 3 refine hX0 _ _ _ _ ?_
          refine zcast (X := X0) yt_22 ?_
          iterate 3 refine hX0 _ _ _ _ ?_
          refine And.intro (fun _ => ?_) (fun c => absurd rfl c)
          iterate 3 refine hX0 _ _ _ _ ?_
          refine zcast (X := X0) yt_23 ?_
          refine hX0 _ _ _ _ ?_
          refine y_rlD hX0 rfl (dead _ u1 b v'.2.2.1 (by repeat (first | exact zSm_more q1 (by decide) | refine zSm_up (by decide) ?_)) q2 zSm_refl rfl ?_) _ _ _ _
          show t1 16 = _
          rw [v'.2.2.2]
          exact q4.1
        · exact absurd v'.2.1 z1
        · exact absurd v'.2.1 z1
        · rw [y3] at v'
          exact absurd v'.1 (by decide)
    · rw [y1, y2]
      iterate 2 refine hX0 _ _ _ _ ?_
      refine And.intro (fun c => absurd rfl c) (fun _ => ?_)
      iterate 2 refine hX0 _ _ _ _ ?_
      refine And.intro (fun c => absurd c (by decide)) (fun _ => ?_)
      iterate 3 refine hX0 _ _ _ _ ?_
      refine y_num (d := d + 1) (k := k + 1) (m := 1000) rfl (by decide) ht (by rw [q1 15 (by decide)]; exact hn) hn4 hs q4 c20 (fun t2 u2 z1 z2 r1 r2 r3 => ?_) (fun v z1 => ?_)
      · rw [← hT] at z1 ⊢
        iterate 4 refine hX0 _ _ _ _ ?_
        refine And.intro (fun _ => ?_) (fun c => absurd rfl c)
        iterate 3 refine hX0 _ _ _ _ ?_
        refine zcast (X := X0) yt_22 ?_
        iterate 3 refine hX0 _ _ _ _ ?_
        refine And.intro (fun c => absurd c (by decide)) (fun _ => ?_)
        iterate 4 refine hX0 _ _ _ _ ?_
        refine zcast (X := X0) yt_23 ?_
        refine hX0 _ _ _ _ ?_
        rcases hv' with v | v | v | v | v
        · exact absurd (Or.inr (Or.inl y3)) v.1
        · exact absurd z1 v.2.1
        · rw [y3] at v
          exact absurd v.1 (by decide)
        · obtain ⟨-, -, v1, v2, v3⟩ := v
          refine good _ u2 b S.1 _ _ _ _ v1 (by omega) (zSm_up (by decide) (zSm_up (by decide) (zSm_trans (zSm_more q1 (by decide)) (zSm_more r1 (by decide))))) (zSm_trans q2 r2) zSm_refl (by rw [v2]; exact r3) (by show t2 20 = 0; rw [r1 20 (by decide)]; exact c20) (by show t2 21 = _; rw [r1 21 (by decide)]; exact c21) ?_
          rw [v3]
          obtain ⟨g1, g2, g3, g4, g5, g6, g7, g8⟩ := hB
          exact ⟨rfl, by show t2 22 = _; rw [r1 22 (by decide)]; exact c22, rfl, by show t2 24 = _; rw [r1 24 (by decide)]; exact c24, by show t2 25 = _; rw [r1 25 (by decide)]; exact c25, g6, g7, g8⟩
        · rw [y3] at v
          exact absurd v.1 (by decide)
      · rw [← hT] at z1
        rcases hv' with v' | v' | v' | v' | v'
        · exact absurd (Or.inr (Or.inl y3)) v'.1
        · iterate 4 refine hX0 _ _ _ _ ?_
          refine And.intro (fun _ => ?_) (fun c => absurd rfl c)
          iterate 3 refine hX0 _ _ _ _ ?_
          refine zcast (X := X0) yt_22 ?_
          iterate 3 refine hX0 _ _ _ _ ?_
          refine And.intro (fun c => absurd c (by decide)) (fun _ => ?_)
          iterate 4 refine hX0 _ _ _ _ ?_
          refine zcast (X := X0) yt_23 ?_
          refine hX0 _ _ _ _ ?_
          refine y_rlD hX0 rfl (dead _ u1 b v'.2.2.1 (by repeat (first | exact zSm_more q1 (by decide) | refine zSm_up (by decide) ?_)) q2 zSm_refl rfl ?_) _ _ _ _
          show t1 16 = _
          rw [v'.2.2.2]
          exact q4.1
        · exact absurd v'.2.1 z1
        · exact absurd v'.2.1 z1
        · rw [y3] at v'
          exact absurd v'.1 (by decide)
    · rw [y1, y2]
      have w4' : ∀ (t2 : Nat → Int32) (u2 : Nat → Int64) (b2 : Nat → Nat → Int32), (∀ v3 : Int32, ((t2 18 = 1 ∧ (u2 1).toInt = 498) ∧ v3 = 1) ∨ (¬ (t2 18 = 1 ∧ (u2 1).toInt = 498) ∧ v3 = 0) → X0 161 [some (.ref 56), some (.int 0), some (.int 0), some (.int v3), none] [] (HX s a w ++ HM t2 b2 u2 c)) → X0 148 [some (.ref 56), some (.int 0), some (.int 0), none, none] [] (HX s a w ++ HM t2 b2 u2 c) := by
        intro t2 u2 b2 hx
        iterate 8 refine hX0 _ _ _ _ ?_
        refine y_word4 (d := d + 4) (fun c1 => ?_) (fun c1 => ?_)
        · refine hX0 _ _ _ _ ?_
          exact hx 1 (Or.inl ⟨c1, rfl⟩)
        · refine hX0 _ _ _ _ ?_
          exact hx 0 (Or.inr ⟨c1, rfl⟩)
      iterate 2 refine hX0 _ _ _ _ ?_
      refine And.intro (fun c => absurd rfl c) (fun _ => ?_)
      iterate 2 refine hX0 _ _ _ _ ?_
      refine And.intro (fun _ => ?_) (fun c => absurd rfl c)
      iterate 3 refine hX0 _ _ _ _ ?_
      rw [c20]
      refine And.intro (fun c => absurd rfl c) (fun _ => ?_)
      iterate 7 refine hX0 _ _ _ _ ?_
      rw [c24, c25]
      refine And.intro (by exact vp_in_nI (by omega) (by omega)) ?_
      refine zcast (X := X0) yb_30 ?_
      rw [hcI]
      have nB : zBm (t1 21) (t1 22) (t1 23) (t1 24) (t1 25) (upd (b 30) S.2.2.2.2.length (nI S.2.2.2.1.length)) (b 31) (b 32) (b 33) (b 34) (b 35) (S.1, S.2.1, S.2.2.1, S.2.2.2.1 ++ [], S.2.2.2.2) := by
        rw [c21, c22, c23, c24, c25, List.append_nil]
        obtain ⟨g1, g2, g3, g4, g5, g6, g7, g8⟩ := hB
        refine ⟨rfl, rfl, rfl, rfl, rfl, g6, fun j x hx => ⟨?_, (g7 j x hx).2⟩, fun z => ?_⟩
        · by_cases c : j + 1 = S.2.2.2.2.length
          · rw [upd_at, if_pos c]
            have e := hSI.2 x (by rw [← c]; exact hx)
            rw [e]
          · rw [upd_at, if_neg c]
            exact (g7 j x hx).1
        · rw [upd_at, if_neg (Nat.ne_of_lt z)]
          exact g8 z
      have nB0 : S.2.2.2.2.length = 0 → upd (b 30) S.2.2.2.2.length (nI S.2.2.2.1.length) 0 = 0 := by
        intro z
        rw [upd_at, if_pos z.symm, hSI.1 (List.eq_nil_of_length_eq_zero z)]
        rfl
      have ms : zSm [30, 31, 32, 33, 34, 35] b (va_up b 30 (upd (b 30) S.2.2.2.2.length (nI S.2.2.2.1.length))) := zSm_up (by decide) zSm_refl
      iterate 3 refine hX0 _ _ _ _ ?_
      rcases hv' with v | v | v | v | v
      · exact absurd (Or.inr (Or.inr y3)) v.1
      · rw [y3] at v
        exact absurd v.1 (by decide)
      · rw [y3] at v
        exact absurd v.1 (by decide)
      · rw [y3] at v
        exact absurd v.1 (by decide)
      · obtain ⟨-, tl, v⟩ := v
        rcases v with ⟨v1, v2⟩ | ⟨k2, v1, v2⟩
        · exact main hR tl [] (k + 1) (60 - S.2.2.2.1.length) k' 0 false t1 u1 _ 0 0 _ v1 (Or.inl rfl) (by show S.2.2.2.1.length + 0 + _ = 60; omega) (fun _ => ⟨v2, rfl⟩) (fun z => by cases z) (zSm_more q1 (by decide)) q2 ms q4 (by omega) nB nB0 w4'
        · exact main hR tl [] (k + 1) (60 - S.2.2.2.1.length) k2 0 true t1 u1 _ 0 0 _ v1 (Or.inl rfl) (by show S.2.2.2.1.length + 0 + _ = 60; omega) (fun z => by cases z) (fun _ => v2) (zSm_more q1 (by decide)) q2 ms q4 (by omega) nB nB0 w4'
  -- it fails at the first word
  have no : ∀ (v1 v2 : Int32), ok = false → k' = k → X0 71 [some (.ref 56), some (.int v1), some (.int v2), none, none] [] (HX s a w ++ HM (va_up (va_up t 20 1) 19 (t 16)) b u c) := by
    intro v1 v2 e1 e2
    refine y_rlD71 hX0 rfl (fun t1 q => ?_) v1 v2
    refine h0 e1 t1 u b (zSm_trans (zSm_up (by decide) (zSm_up (by decide) zSm_refl)) (zSm_more q (by decide))) zSm_refl zSm_refl (by rw [q 20 (by decide)]; rfl) ?_
    rw [q 19 (by decide), e2]
    exact hat.1
  have at54 : ∀ (v1 v2 : Int32), ((v1 = 1 ∧ v2 = 0 ∧ T k = -7) ∨ (v1 = 0 ∧ v2 = 1 ∧ T k = -8) ∨ (v1 = 0 ∧ v2 = 0 ∧ T k = -9)) → X0 54 [some (.ref 56), some (.int v1), some (.int v2), none, none] [.ref 56] (HX s a w ++ HM t b u c) := by
    intro v1 v2 y
    have hk : k < N := by
      rcases y with y | y | y
      · exact lt1 _ _ y.2.2 (by decide)
      · exact lt1 _ _ y.2.2 (by decide)
      · exact lt1 _ _ y.2.2 (by decide)
    iterate 3 refine hX0 _ _ _ _ ?_
    rw [b21]
    refine hX0 _ _ _ _ ?_
    rw [h20]
    refine And.intro (fun c1 => ?_) (fun c1 => ?_)
    · rw [nI_leI (by omega) (by omega)] at c1
      iterate 2 refine hX0 _ _ _ _ ?_
      refine y_mustNo (d := d + 2) hb ?_
      rcases hv with z | z
      · exact no v1 v2 z.2.1 z.2.2
      · omega
    · rw [nI_leI (by omega) (by omega)] at c1
      iterate 3 refine hX0 _ _ _ _ ?_
      refine y_mustOk (d := d + 2) (k := k) ht hn hn4 hs hk hat.2.1 hb (fun t1 u1 p1 p2 p3 => ?_)
      exact at71 t1 u1 v1 v2 y (by omega) hk p1 p2 p3
  iterate 8 refine hX0 _ _ _ _ ?_
  refine y_word0 (d := d + 4) (fun c1 => ?_) (fun c1 => ?_)
  · have e7 := hz.1.mp c1
    iterate 9 refine hX0 _ _ _ _ ?_
    refine y_word1 (d := d + 4) (fun c2 => ?_) (fun c2 => ?_)
    · have e8 := hz.2.1.mp c2
      rw [e7] at e8
      exact absurd e8 (by decide)
    · iterate 4 refine hX0 _ _ _ _ ?_
      refine And.intro (fun _ => ?_) (fun c => absurd c (by decide))
      exact at54 1 0 (Or.inl ⟨rfl, rfl, e7⟩)
  · iterate 9 refine hX0 _ _ _ _ ?_
    refine y_word1 (d := d + 4) (fun c2 => ?_) (fun c2 => ?_)
    · have e8 := hz.2.1.mp c2
      iterate 4 refine hX0 _ _ _ _ ?_
      refine And.intro (fun c => absurd rfl c) (fun _ => ?_)
      iterate 2 refine hX0 _ _ _ _ ?_
      refine And.intro (fun _ => ?_) (fun c => absurd c (by decide))
      exact at54 0 1 (Or.inr (Or.inl ⟨rfl, rfl, e8⟩))
    · iterate 4 refine hX0 _ _ _ _ ?_
      refine And.intro (fun c => absurd rfl c) (fun _ => ?_)
      iterate 2 refine hX0 _ _ _ _ ?_
      refine And.intro (fun c => absurd rfl c) (fun _ => ?_)
      iterate 8 refine hX0 _ _ _ _ ?_
      refine y_word2 (d := d + 4) (fun c3 => ?_) (fun c3 => ?_)
      · have e9 := hz.2.2.1.mp c3
        refine hX0 _ _ _ _ ?_
        refine And.intro (fun c => absurd c (by decide)) (fun _ => ?_)
        exact at54 0 0 (Or.inr (Or.inr ⟨rfl, rfl, e9⟩))
      · refine hX0 _ _ _ _ ?_
        refine And.intro (fun _ => ?_) (fun c => absurd c (by decide))
        iterate 2 refine hX0 _ _ _ _ ?_
        refine y_mustNo (d := d + 2) hb ?_
        rcases hv with z | ⟨z0, z⟩
        · exact no 0 0 z.2.1 z.2.2
        · rcases z with z | z | z | z | z
          · exact no 0 0 z.2.1 z.2.2
          · rcases z.1 with y | y
            · exact absurd (hz.1.mpr y) c1
            · exact absurd (hz.2.1.mpr y) c2
          · exact absurd (hz.1.mpr z.1) c1
          · exact absurd (hz.2.1.mpr z.1) c2
          · exact absurd (hz.2.2.1.mpr z.1) c3
