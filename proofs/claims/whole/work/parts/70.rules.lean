/-! THE RULES READ BY THE REFERENCE -/
theorem ng_i {v : Int32} (h : 0 ≤ v.toInt ∧ v.toInt ≤ 1000) : (-v).toInt = -v.toInt := by
  rw [Int32.toInt_neg]
  exact Int.bmod_eq_of_le (by omega) (by omega)
def zTo (x : zTst) : Prop := zSu x.1 ∧ (x.2.1 = 0 ∨ x.2.1 = 1) ∧ (-1000 ≤ x.2.2.1.toInt ∧ x.2.2.1.toInt ≤ 1000) ∧ (x.2.2.2 = 0 ∨ x.2.2.2 = 1)
theorem zTo_t1 {T : Nat → Int32} {k k1 : Nat} {x : zTst} (h : zT1 T k x.1 x.2.1 x.2.2.1 k1) (ho : x.2.2.2 = 0 ∨ x.2.2.2 = 1) : zTo x := by
  obtain ⟨h1, h2, h3, h4⟩ := h
  refine ⟨by rw [h2]; exact h1, ?_, ?_, ho⟩
  · rcases h3 with z | z
    · exact Or.inl z.2
    · exact Or.inr z.2
  · rcases h4 with ⟨-, y, z, -⟩ | ⟨-, y, z, -⟩
    · have e := ng_i y
      rw [z, e]
      have y1 := y.1
      have y2 := y.2
      constructor <;> omega
    · rw [z]
      have y1 := y.1
      have y2 := y.2
      constructor <;> omega
theorem zVt_ok {T : Nat → Int32} : ∀ (tl : List zTst) (k room k' : Nat) (o : Int32) (ok : Bool), zVt T tl k o room ok k' → (o = 0 ∨ o = 1) → tl.length ≤ room ∧ ∀ x, x ∈ tl → zTo x
  | [], _, _, _, _, _, _, _ => ⟨Nat.zero_le _, fun x hx => by cases hx⟩
  | x :: tl, k, room, k', o, ok, h, ho => by
    obtain ⟨h1, k1, h2, h3, h4⟩ := h
    have g : tl.length ≤ room - 1 ∧ ∀ x, x ∈ tl → zTo x := by
      rcases h4 with h4 | h4 | h4
      · exact zVt_ok tl (k1 + 1) (room - 1) k' 1 ok h4.2 (Or.inr rfl)
      · exact zVt_ok tl (k1 + 1) (room - 1) k' 0 ok h4.2 (Or.inl rfl)
      · rw [h4.2.2.1]
        exact ⟨Nat.zero_le _, fun x hx => by cases hx⟩
    refine ⟨by rw [List.length_cons]; omega, fun y hy => ?_⟩
    rcases List.mem_cons.mp hy with e | e
    · rw [e]
      exact zTo_t1 h2 (by rw [h3]; exact ho)
    · exact g.2 y e
def zGd (S : zS) : Prop := zSI S ∧ (S.2.2.2.1.length ≤ 60 ∧ S.2.2.2.2.length ≤ S.1) ∧ (0 ≤ S.2.1.toInt ∧ S.2.1.toInt ≤ 1000) ∧ (-1000 ≤ S.2.2.1.toInt ∧ S.2.2.1.toInt ≤ 0) ∧ (∀ x, x ∈ S.2.2.2.1 → zTo x) ∧ (∀ (k : Nat) (y : Nat × Int32), S.2.2.2.2[k]? = some y → y.1 ≤ S.2.2.2.1.length ∧ 0 ≤ y.2.toInt ∧ y.2.toInt ≤ 100) ∧ (∀ (k : Nat) (y z : Nat × Int32), S.2.2.2.2[k]? = some y → S.2.2.2.2[k + 1]? = some z → y.1 ≤ z.1)
theorem zGd_0 : zGd zS0 := by
  refine ⟨⟨fun _ => rfl, fun y hy => by cases hy⟩, ⟨by decide, by decide⟩, ⟨by decide, by decide⟩, ⟨by decide, by decide⟩, fun x hx => ?_, fun k y hy => ?_, fun k y z hy => ?_⟩
  · cases hx
  · cases hy
  · cases hy
theorem zGd_s {T : Nat → Int32} {k k' : Nat} {S S' : zS} (h : zVu T k S S' true k') (g : zGd S) : zGd S' ∧ S'.1 = S.1 + 1 := by
  obtain ⟨g1, g2, g3, g4, g5, g6, g7⟩ := g
  rcases h with h | h | h | h | h
  · cases h.2.1
  · cases h.2.2.1
  · obtain ⟨-, h2, -, -, h5⟩ := h
    subst h5
    exact ⟨⟨g1, ⟨g2.1, Nat.le_succ_of_le g2.2⟩, h2, g4, g5, g6, g7⟩, rfl⟩
  · obtain ⟨-, h2, -, -, h5⟩ := h
    subst h5
    have e := ng_i h2
    have y1 := h2.1
    have y2 := h2.2
    exact ⟨⟨g1, ⟨g2.1, Nat.le_succ_of_le g2.2⟩, g3, ⟨by show -1000 ≤ (-(T (k + 1))).toInt; omega, by show (-(T (k + 1))).toInt ≤ 0; omega⟩, g5, g6, g7⟩, rfl⟩
  · obtain ⟨-, tl, h⟩ := h
    rcases h with h | ⟨k2, h1, h2⟩
    · cases h.2
    · rcases h2 with h2 | h2 | h2
      · cases h2.2.1
      · cases h2.2.2.1
      · obtain ⟨-, h4, -, -, h5⟩ := h2
        subst h5
        have v := zVt_ok tl _ _ _ _ _ h1 (Or.inl rfl)
        obtain ⟨r, re, bo, TL, IL⟩ := S
        simp only at g1 g2 g3 g4 g5 g6 g7 v
        refine ⟨⟨⟨fun z => ?_, fun y hy => ?_⟩, ⟨?_, ?_⟩, g3, g4, fun x hx => ?_, fun j y hy => ?_, fun j y z hy hz => ?_⟩, rfl⟩
        · simp at z
        · simp only at hy ⊢
          rw [List.length_append] at hy ⊢
          rcases snoc_at hy with ⟨c, e⟩ | ⟨c, e⟩
          · simp at c
          · rw [e]
        · simp only [List.length_append]
          have := v.1
          have := g2.1
          omega
        · simp only [List.length_append, List.length_singleton]
          have := g2.2
          omega
        · rcases List.mem_append.mp hx with e | e
          · exact g5 x e
          · exact v.2 x e
        · simp only [List.length_append]
          rcases snoc_at hy with ⟨c, e⟩ | ⟨c, e⟩
          · have := g6 j y e
            exact ⟨by omega, this.2⟩
          · rw [e]
            exact ⟨Nat.le_refl _, h4⟩
        · simp only at hy hz
          rcases snoc_at hz with ⟨c, e⟩ | ⟨c, e⟩
          · rcases snoc_at hy with ⟨c2, e2⟩ | ⟨c2, e2⟩
            · exact g7 j y z e2 e
            · omega
          · rw [e]
            rcases snoc_at hy with ⟨c2, e2⟩ | ⟨c2, e2⟩
            · have := (g6 j y e2).1
              show y.1 ≤ TL.length + tl.length
              omega
            · omega
theorem zGd_l {T : Nat → Int32} : ∀ (m k : Nat) (S : zS) (k' : Nat) (S' : zS), zVl T m k S true k' S' → zGd S → S.1 + m = 20 → zGd S' ∧ S'.1 ≤ 20
  | 0, k, S, k', S', h, _, _ => by cases h.1
  | m + 1, k, S, k', S', h, g, e => by
    rcases h with h | ⟨k1, S1, h1, h2⟩
    · cases h.1
    · have g1 := zGd_s h1 g
      rcases h2 with h2 | h2 | h2
      · rw [h2.2.2.2]
        exact ⟨g1.1, by omega⟩
      · cases h2.2.2.1
      · exact zGd_l m (k1 + 1) S1 k' S' h2.2 g1.1 (by omega)
theorem zGd_r {T : Nat → Int32} {k' : Nat} {S' : zS} (h : zRd T true k' S') : zGd S' ∧ S'.1 ≤ 20 := by
  rcases h with h | h
  · rw [h.2.2.2]
    exact ⟨zGd_0, by decide⟩
  · exact zGd_l 20 0 zS0 k' S' h.2 zGd_0 rfl

set_option maxRecDepth 100000 in
/-- rules one behind the other -/
theorem y_rll {d : Nat} {s : Nat → Int32} {a : Nat → Nat → Int32} {w : Bool} {t : Nat → Int32} {b : Nat → Nat → Int32} {u : Nat → Int64} {c : Nat → Nat → Int64} {f : Nat → Int32} {n N k : Nat} {st en : Nat → Nat} {tk pl : Nat → Int32} {ok : Bool} {k' : Nat} {S' : zS} {Q : zQ} {X0 : zX} (hX0 : ∀ pc L S h, zstep kX9_rules (zG (d + 6)) Q X0 pc L S h → X0 pc L S h) (ht : zTp f (b 29)) (hn : t 15 = nI n) (hn4 : n ≤ 400) (hs : zSpl f (b 29) n N st en tk pl)
  (h0 : ok = false → ∀ (t' : Nat → Int32) (u' : Nat → Int64) (b' : Nat → Nat → Int32), zSm [16, 17, 18, 19, 20, 21, 22, 23, 24, 25] t t' → zSm [1] u u' → zSm [30, 31, 32, 33, 34, 35] b b' → t' 20 = 1 → t' 19 = nI (if k' < N then st k' else n) → X0 107 [some (.ref 56), none] [] (HX s a w ++ HM t' b' u' c))
  (h1 : ok = true → ∀ (t' : Nat → Int32) (u' : Nat → Int64) (b' : Nat → Nat → Int32), zSm [16, 17, 18, 21, 22, 23, 24, 25] t t' → zSm [1] u u' → zSm [30, 31, 32, 33, 34, 35] b b' → t' 20 = 0 → zBm (t' 21) (t' 22) (t' 23) (t' 24) (t' 25) (b' 30) (b' 31) (b' 32) (b' 33) (b' 34) (b' 35) S' → X0 107 [some (.ref 56), none] [] (HX s a w ++ HM t' b' u' c)) (hb : t 20 = 0) :
  ∀ (m k : Nat) (S : zS) (t1 : Nat → Int32) (u1 : Nat → Int64) (b1 : Nat → Nat → Int32) (Qc : zQ), zVl (zTt tk N) m k S ok k' S' → S.1 + m = 20 → zGd S → zSm [16, 17, 18, 21, 22, 23, 24, 25] t t1 → zSm [1] u u1 → zSm [30, 31, 32, 33, 34, 35] b b1 → zAk st en (zTt tk N) n N t1 u1 k → k ≤ N → zBm (t1 21) (t1 22) (t1 23) (t1 24) (t1 25) (b1 30) (b1 31) (b1 32) (b1 33) (b1 34) (b1 35) S → (∀ h, X0 61 [some (.ref 56), none] [] h → Qc none h) → zG (d + 6) 144 [.ref 56] (HX s a w ++ HM t1 b1 u1 c) Qc := by
  have dead : ∀ (t1 : Nat → Int32) (u1 : Nat → Int64) (b1 : Nat → Nat → Int32), t1 20 = 1 → X0 107 [some (.ref 56), none] [] (HX s a w ++ HM t1 b1 u1 c) → X0 61 [some (.ref 56), none] [] (HX s a w ++ HM t1 b1 u1 c) := by
    intro t1 u1 b1 e hx
    iterate 3 refine hX0 _ _ _ _ ?_
    rw [e]
    refine And.intro (fun _ => ?_) (fun c => absurd c (by decide))
    iterate 3 refine hX0 _ _ _ _ ?_
    rw [e]
    refine And.intro (fun _ => hx) (fun c => absurd c (by decide))
  intro m
  induction m with
  | zero =>
    intro k S t1 u1 b1 Qc hv hm g q1 q2 q3 q4 q5 q6 hq
    obtain ⟨e1, e2⟩ := hv
    subst e2
    refine y_rl (d := d) (f := f) (S := S) (S' := S) (ok := false) (k' := k') (by rw [q3 29 (by decide)]; exact ht) (by rw [q1 15 (by decide)]; exact hn) hn4 (by rw [q3 29 (by decide)]; exact hs) q4 (by rw [q1 20 (by decide)]; exact hb) q5 q6 g.1 g.2.1.1 g.2.1.2 (by omega) (Or.inl ⟨by omega, rfl, rfl⟩) (fun _ t2 u2 b2 p1 p2 p3 p4 p5 => ?_) (fun z => by cases z)
    refine hq _ (dead t2 u2 b2 p4 ?_)
    exact h0 e1 t2 u2 b2 (zSm_trans (zSm_more q1 (by decide)) p1) (zSm_trans q2 p2) (zSm_trans q3 p3) p4 p5
  | succ m ih =>
    intro k S t1 u1 b1 Qc hv hm g q1 q2 q3 q4 q5 q6 hq
    rcases hv with ⟨e1, hv⟩ | ⟨k1, S1, hv1, hv2⟩
    · refine y_rl (d := d) (f := f) (S := S) (S' := S) (ok := false) (k' := k') (by rw [q3 29 (by decide)]; exact ht) (by rw [q1 15 (by decide)]; exact hn) hn4 (by rw [q3 29 (by decide)]; exact hs) q4 (by rw [q1 20 (by decide)]; exact hb) q5 q6 g.1 g.2.1.1 g.2.1.2 (by omega) (Or.inr ⟨by omega, hv⟩) (fun _ t2 u2 b2 p1 p2 p3 p4 p5 => ?_) (fun z => by cases z)
      refine hq _ (dead t2 u2 b2 p4 ?_)
      exact h0 e1 t2 u2 b2 (zSm_trans (zSm_more q1 (by decide)) p1) (zSm_trans q2 p2) (zSm_trans q3 p3) p4 p5
    · have g1 := zGd_s hv1 g
      refine y_rl (d := d) (f := f) (S := S) (S' := S1) (ok := true) (k' := k1) (by rw [q3 29 (by decide)]; exact ht) (by rw [q1 15 (by decide)]; exact hn) hn4 (by rw [q3 29 (by decide)]; exact hs) q4 (by rw [q1 20 (by decide)]; exact hb) q5 q6 g.1 g.2.1.1 g.2.1.2 (by omega) (Or.inr ⟨by omega, hv1⟩) (fun z => by cases z) (fun _ z2 t2 u2 b2 p1 p2 p3 p4 p5 => ?_)
      have n1 := zSm_trans q1 p1
      have n2 := zSm_trans q2 p2
      have n3 := zSm_trans q3 p3
      have c20 : t2 20 = 0 := by rw [n1 20 (by decide)]; exact hb
      have e3 := p4.2.2.2.2.1.1
      have e0 := p4.2.2.1
      refine hq _ ?_
      iterate 3 refine hX0 _ _ _ _ ?_
      rw [c20]
      refine And.intro (fun c => absurd rfl c) (fun _ => ?_)
      iterate 3 refine hX0 _ _ _ _ ?_
      refine y_sign (d := d + 5) (A := 59) rfl (fun c1 => ?_) (fun c1 => ?_)
      · have t3 := e3.mp c1
        have hk := zTt_lt t3 (by decide)
        refine hX0 _ _ _ _ ?_
        refine And.intro (fun c => absurd c (by decide)) (fun _ => ?_)
        iterate 2 refine hX0 _ _ _ _ ?_
        refine y_nx (d := d + 4) (k := k1 + 1) (f := f) (by rw [n3 29 (by decide)]; exact ht) (by rw [n1 15 (by decide)]; exact hn) hn4 (by rw [n3 29 (by decide)]; exact hs) (by omega) (by rw [p4.2.1, if_pos hk]; rfl) (fun t4 u4 r1 r2 r3 => ?_)
        iterate 2 refine hX0 _ _ _ _ ?_
        rcases hv2 with v | v | v
        · rw [t3] at v
          exact absurd v.1 (by decide)
        · exact absurd t3 v.2.1
        · refine ih (k1 + 1) S1 t4 u4 b2 _ v.2 (by omega) g1.1 (zSm_trans n1 (zSm_more r1 (by decide))) (zSm_trans n2 r2) n3 r3 (by omega) (by rw [r1 21 (by decide), r1 22 (by decide), r1 23 (by decide), r1 24 (by decide), r1 25 (by decide)]; exact p5) (fun h hx => ?_)
          refine hX0 _ _ _ _ ?_
          exact hx
      · have t3 : ¬ zTt tk N k1 = -3 := fun z => c1 (e3.mpr z)
        refine hX0 _ _ _ _ ?_
        refine And.intro (fun _ => ?_) (fun c => absurd c (by decide))
        iterate 3 refine hX0 _ _ _ _ ?_
        rw [c20]
        refine And.intro (fun c => absurd rfl c) (fun _ => ?_)
        iterate 3 refine hX0 _ _ _ _ ?_
        rcases hv2 with v | v | v
        · obtain ⟨v1, v2, v3, v4⟩ := v
          subst v4
          rw [e0.mpr v1]
          refine And.intro (fun _ => ?_) (fun c => absurd rfl c)
          exact h1 v2 t2 u2 b2 n1 n2 n3 c20 p5
        · obtain ⟨v1, -, v2, v3⟩ := v
          refine And.intro (fun c => absurd (e0.mp c) v1) (fun _ => ?_)
          iterate 3 refine hX0 _ _ _ _ ?_
          refine y_mustNo (d := d + 3) c20 ?_
          refine h0 v2 _ u2 b2 (zSm_up (by decide) (zSm_up (by decide) (zSm_more n1 (by decide)))) n2 n3 rfl ?_
          show t2 16 = _
          rw [v3]
          exact p4.1
        · exact absurd v.1 t3
