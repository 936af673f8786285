/-! THE RADIO OF THE REFERENCE -/
def zHd : List Nat → Int32
  | [] => -1
  | m :: _ => nI m
theorem zHd_a {mB mR : Nat → Int32} {M k : Nat} {l l' : Int32} {q q' : zR} : ∀ {tr : List Nat}, zTr mB mR M k tr l q l' q' → (l.toInt ≤ 0 ∨ ∀ m, m < M → ¬ (q.2.1 m).toInt < (mB m).toInt) → zHd tr = -1
  | [], _, _ => rfl
  | m :: tr, h, h2 => by
    exfalso
    rcases h2 with h2 | h2
    · have := h.1
      omega
    · exact h2 m h.2.1.1 h.2.1.2.1
theorem zHd_c {mB mR : Nat → Int32} {M k m : Nat} {l l' : Int32} {q q' : zR} : ∀ {tr : List Nat}, zTr mB mR M k tr l q l' q' → zEnd mB M l' q' → 0 < l.toInt → zNx mB mR q.2.1 M m → zHd tr = nI m
  | [], h, h2, h3, h4 => by
    exfalso
    obtain ⟨rfl, rfl⟩ := h
    rcases h2 with h2 | h2
    · omega
    · exact h2 m h4.1 h4.2.1
  | m' :: tr, h, h2, h3, h4 => by
    rw [zNx_one h4 h.2.1]
    rfl
/-- the log: who, and when -/
def zlg (f : Nat → Int32) (G : Nat) : List Nat → (Nat → Int32)
  | [] => f
  | m :: tr => zlg (upd f G (nI m)) (G + 1) tr
def zlh (f : Nat → Int32) (G k : Nat) : List Nat → (Nat → Int32)
  | [] => f
  | _ :: tr => zlh (upd f G (nI k)) (G + 1) k tr
theorem upd_id {f : Nat → Int32} {m : Nat} {v : Int32} (h : f m = v) : upd f m v = f := by
  funext j
  rw [upd_at]
  split
  · next e => rw [e, h]
  · rfl
/-- many hours -/
def zHs (mB mR : Nat → Int32) (M : Nat) (rm : Nat → Int32) : List (List Nat) → Nat → zR → zR → Prop
  | [], _, q, q' => q' = q
  | tr :: ts, k, q, q' => ∃ (l1 : Int32) (q1 : zR), zTr mB mR M k tr (rm k) q l1 q1 ∧ zEnd mB M l1 q1 ∧ zHs mB mR M rm ts (k + 1) q1 q'
theorem zHs_snoc {mB mR : Nat → Int32} {M : Nat} {rm : Nat → Int32} {tr : List Nat} {l2 : Int32} {q1 q2 : zR} : ∀ {ts : List (List Nat)} {k : Nat} {q : zR}, zHs mB mR M rm ts k q q1 → zTr mB mR M (k + ts.length) tr (rm (k + ts.length)) q1 l2 q2 → zEnd mB M l2 q2 → zHs mB mR M rm (ts ++ [tr]) k q q2
  | [], k, q, h, h1, h2 => by
    have e : q1 = q := h
    subst e
    exact ⟨l2, q2, h1, h2, rfl⟩
  | t :: ts, k, q, h, h1, h2 => by
    obtain ⟨l3, q3, h3, h4, h5⟩ := h
    refine ⟨l3, q3, h3, h4, zHs_snoc h5 ?_ h2⟩
    rw [show k + 1 + ts.length = k + (t :: ts).length by simp; omega]
    exact h1
theorem zRB_l {mB : Nat → Int32} {M : Nat} {l l' : Int32} {q : zR} (h : zRB mB M l q) (hl : 0 ≤ l'.toInt ∧ l'.toInt ≤ 1000) : zRB mB M l' q := ⟨hl, h.2⟩
theorem zRB_hs {mB mR : Nat → Int32} {M : Nat} {rm : Nat → Int32} (hr : ∀ k, 0 ≤ (rm k).toInt ∧ (rm k).toInt ≤ 1000) : ∀ {ts : List (List Nat)} {k : Nat} {q q' : zR} {l : Int32}, zHs mB mR M rm ts k q q' → zRB mB M l q → zRB mB M l q'
  | [], k, q, q', l, h, hb => by
    have e : q' = q := h
    subst e
    exact hb
  | t :: ts, k, q, q', l, h, hb => by
    obtain ⟨l3, q3, h3, h4, h5⟩ := h
    exact zRB_hs hr h5 (zRB_l (zRB_tr h3 (zRB_l hb (hr k))) hb.1)
def zLM (f : Nat → Int32) (G : Nat) : List (List Nat) → (Nat → Int32)
  | [] => f
  | tr :: ts => zLM (zlg f G tr) (G + tr.length) ts
def zLH (f : Nat → Int32) (G k : Nat) : List (List Nat) → (Nat → Int32)
  | [] => f
  | tr :: ts => zLH (zlh f G k tr) (G + tr.length) (k + 1) ts
def zLn (G : Nat) : List (List Nat) → Nat
  | [] => G
  | tr :: ts => zLn (G + tr.length) ts
theorem zLn_le : ∀ (ts : List (List Nat)) (G : Nat), G ≤ zLn G ts
  | [], G => Nat.le_refl _
  | tr :: ts, G => Nat.le_trans (Nat.le_add_right _ _) (zLn_le ts (G + tr.length))

set_option maxRecDepth 100000 in
theorem y_next {d : Nat} {s : Nat → Int32} {a : Nat → Nat → Int32} {w : Bool} {t : Nat → Int32} {b : Nat → Nat → Int32} {u : Nat → Int64} {c : Nat → Nat → Int64} {M : Nat} {Q : zQ} (hM : t 29 = nI M) (hM2 : M ≤ 100) (h0 : (∀ m, m < M → ¬ (b 38 m).toInt < (b 36 m).toInt) → Q (some (.int (-1))) (HX s a w ++ HM t b u c)) (h1 : ∀ m, zNx (b 36) (b 37) (b 38) M m → Q (some (.int (nI m))) (HX s a w ++ HM t b u c)) : zG (d + 1) 150 [.ref 56] (HX s a w ++ HM t b u c) Q := by
  refine g_150 (Nat.le_of_ble_eq_true rfl) ?_
  intro X0 hX0
  have hMI : (t 29).toInt = (M : Int) := by rw [hM, nI_toInt (by omega)]
  have hz0 : (0 : Int32).toInt = 0 := rfl
  have key : ∀ (cc j : Nat) (its : Int32), M - j = cc → j ≤ M → ((its = -1 ∧ ∀ m, m < j → ¬ (b 38 m).toInt < (b 36 m).toInt) ∨ ∃ i : Nat, its = nI i ∧ i < j ∧ (b 38 i).toInt < (b 36 i).toInt ∧ ∀ m', m' < j → (b 38 m').toInt < (b 36 m').toInt → (b 37 m').toInt ≤ (b 37 i).toInt ∧ (m' < i → (b 37 m').toInt < (b 37 i).toInt)) → X0 4 [some (.ref 56), some (.int its), some (.int (nI j))] [] (HX s a w ++ HM t b u c) := by
    intro cc
    induction cc with
    | zero =>
      intro j its z1 z2 z3
      have hJ : (nI j).toInt = (j : Int) := nI_toInt (by omega)
      have ej : j = M := by omega
      iterate 4 refine hX0 _ _ _ _ ?_
      refine And.intro (fun c1 => ?_) (fun c1 => ?_)
      · iterate 2 refine hX0 _ _ _ _ ?_
        rw [ej] at z3
        rcases z3 with ⟨y1, y2⟩ | ⟨i, y1, y2, y3, y4⟩
        · rw [y1]
          exact h0 y2
        · rw [y1]
          exact h1 i ⟨y2, y3, y4⟩
      · exfalso
        rw [fa_le] at c1
        omega
    | succ cc ih =>
      intro j its z1 z2 z3
      have hJ : (nI j).toInt = (j : Int) := nI_toInt (by omega)
      have hcl : (nI j).toNatClampNeg = j := nI_clamp (by omega)
      have nxt : ∀ its : Int32, ((its = -1 ∧ ∀ m, m < (j + 1) → ¬ (b 38 m).toInt < (b 36 m).toInt) ∨ ∃ i : Nat, its = nI i ∧ i < (j + 1) ∧ (b 38 i).toInt < (b 36 i).toInt ∧ ∀ m', m' < (j + 1) → (b 38 m').toInt < (b 36 m').toInt → (b 37 m').toInt ≤ (b 37 i).toInt ∧ (m' < i → (b 37 m').toInt < (b 37 i).toInt)) → X0 52 [some (.ref 56), some (.int its), some (.int (nI j))] [] (HX s a w ++ HM t b u c) := by
        intro its y
        iterate 2 refine hX0 _ _ _ _ ?_
        rw [nI_1]
        exact ih (j + 1) its (by omega) (by omega) y
      rcases z3 with ⟨y1, y2⟩ | ⟨i, y1, y2, y3, y4⟩
      · subst y1
        iterate 4 refine hX0 _ _ _ _ ?_
        refine And.intro (fun c1 => ?_) (fun c1 => ?_)
        · exfalso
          rw [fa_le] at c1
          omega
        · iterate 4 refine hX0 _ _ _ _ ?_
          refine And.intro (by exact vp_in_nI (by omega) (by omega)) ?_
          rw [hcl]
          iterate 4 refine hX0 _ _ _ _ ?_
          refine And.intro (by exact vp_in_nI (by omega) (by omega)) ?_
          rw [hcl]
          refine hX0 _ _ _ _ ?_
          refine And.intro (fun c2 => ?_) (fun c2 => ?_)
          · iterate 2 refine hX0 _ _ _ _ ?_
            refine nxt _ (Or.inl ⟨rfl, fun m hm => ?_⟩)
            rcases Nat.lt_or_ge m j with h2 | h2
            · exact y2 m h2
            · rw [show m = j by omega]
              rw [fa_le] at c2
              omega
          · iterate 2 refine hX0 _ _ _ _ ?_
            refine And.intro (fun _ => ?_) (fun c => absurd c (by decide))
            iterate 3 refine hX0 _ _ _ _ ?_
            rw [fa_le] at c2
            refine nxt _ (Or.inr ⟨j, rfl, by omega, by omega, fun m' hm h2 => ?_⟩)
            rcases Nat.lt_or_ge m' j with h3 | h3
            · exact absurd h2 (y2 m' h3)
            · rw [show m' = j by omega]
              omega
      · subst y1
        have hI : (nI i).toInt = (i : Int) := nI_toInt (by omega)
        have hci : (nI i).toNatClampNeg = i := nI_clamp (by omega)
        iterate 4 refine hX0 _ _ _ _ ?_
        refine And.intro (fun c1 => ?_) (fun c1 => ?_)
        · exfalso
          rw [fa_le] at c1
          omega
        · iterate 4 refine hX0 _ _ _ _ ?_
          refine And.intro (by exact vp_in_nI (by omega) (by omega)) ?_
          rw [hcl]
          iterate 4 refine hX0 _ _ _ _ ?_
          refine And.intro (by exact vp_in_nI (by omega) (by omega)) ?_
          rw [hcl]
          refine hX0 _ _ _ _ ?_
          refine And.intro (fun c2 => ?_) (fun c2 => ?_)
          · iterate 2 refine hX0 _ _ _ _ ?_
            rw [fa_le] at c2
            refine nxt _ (Or.inr ⟨i, rfl, by omega, y3, fun m' hm h2 => ?_⟩)
            rcases Nat.lt_or_ge m' j with h3 | h3
            · exact y4 m' h3 h2
            · rw [show m' = j by omega] at h2
              omega
          · iterate 2 refine hX0 _ _ _ _ ?_
            refine And.intro (fun c3 => ?_) (fun c3 => ?_)
            · iterate 3 refine hX0 _ _ _ _ ?_
              exfalso
              rw [fa_lt] at c3
              omega
            · iterate 4 refine hX0 _ _ _ _ ?_
              refine And.intro (by exact vp_in_nI (by omega) (by omega)) ?_
              rw [hcl]
              iterate 4 refine hX0 _ _ _ _ ?_
              refine And.intro (by exact vp_in_nI (by omega) (by omega)) ?_
              rw [hci]
              refine hX0 _ _ _ _ ?_
              refine And.intro (fun c4 => ?_) (fun c4 => ?_)
              · iterate 2 refine hX0 _ _ _ _ ?_
                rw [fa_le] at c4
                refine nxt _ (Or.inr ⟨i, rfl, by omega, y3, fun m' hm h2 => ?_⟩)
                rcases Nat.lt_or_ge m' j with h3 | h3
                · exact y4 m' h3 h2
                · rw [show m' = j by omega]
                  omega
              · iterate 3 refine hX0 _ _ _ _ ?_
                rw [fa_le] at c2 c4
                refine nxt _ (Or.inr ⟨j, rfl, by omega, by omega, fun m' hm h2 => ?_⟩)
                rcases Nat.lt_or_ge m' j with h3 | h3
                · have h4 := y4 m' h3 h2
                  omega
                · rw [show m' = j by omega]
                  omega
  iterate 4 refine hX0 _ _ _ _ ?_
  have kk := key M 0 (-1) rfl (by omega) (Or.inl ⟨rfl, fun m hm => absurd hm (Nat.not_lt_zero m)⟩)
  rw [nI_0] at kk
  exact kk

set_option maxRecDepth 100000 in
theorem y_goHour {d : Nat} {s : Nat → Int32} {a : Nat → Nat → Int32} {w : Bool} {t : Nat → Int32} {b : Nat → Nat → Int32} {u : Nat → Int64} {c : Nat → Nat → Int64} {M k G : Nat} {tr : List Nat} {l' : Int32} {q q' : zR} {Q : zQ} (hM : t 29 = nI M) (hM2 : M ≤ 100) (hk : k < 2400) (hn : t 2 = nI k) (hG : t 30 = nI G) (hG2 : G + tr.length ≤ 2600) (hB : zRB (b 36) M (if (t 26).toInt ≤ ((k % 24 : Nat) : Int) ∧ ((k % 24 : Nat) : Int) ≤ (t 27).toInt then t 28 else 0) q) (e1 : t 32 = q.1) (e2 : b 38 = q.2.1) (e3 : b 39 = q.2.2.1) (e4 : b 40 = q.2.2.2.1) (ht : zTr (b 36) (b 37) M k tr (if (t 26).toInt ≤ ((k % 24 : Nat) : Int) ∧ ((k % 24 : Nat) : Int) ≤ (t 27).toInt then t 28 else 0) q l' q') (he : zEnd (b 36) M l' q') (h0 : ∀ (t' : Nat → Int32) (b' : Nat → Nat → Int32), zSm [2, 30, 32] t t' → zSm [38, 39, 40, 41, 42] b b' → t' 2 = nI (k + 1) → t' 30 = nI (G + tr.length) → t' 32 = q'.1 → b' 38 = q'.2.1 → b' 39 = q'.2.2.1 → b' 40 = q'.2.2.2.1 → b' 41 = zlg (b 41) G tr → b' 42 = zlh (b 42) G k tr → Q none (HX s a w ++ HM t' b' u c)) : zG (d + 2) 151 [.ref 56] (HX s a w ++ HM t b u c) Q := by
  refine g_151 (Nat.le_of_ble_eq_true rfl) ?_
  intro X0 hX0
  have hz0 : (0 : Int32).toInt = 0 := rfl
  generalize hl0 : (if (t 26).toInt ≤ ((k % 24 : Nat) : Int) ∧ ((k % 24 : Nat) : Int) ≤ (t 27).toInt then t 28 else 0) = l0 at ht hB
  have loop : ∀ (tr1 : List Nat) (l : Int32) (q : zR) (G1 : Nat) (t' : Nat → Int32) (b' : Nat → Nat → Int32) (mm : Int32) (o3 o4 : Option Value), zSm [30, 32] t t' → zSm [38, 39, 40, 41, 42] b b' → t' 30 = nI G1 → t' 32 = q.1 → b' 38 = q.2.1 → b' 39 = q.2.2.1 → b' 40 = q.2.2.2.1 → zTr (b 36) (b 37) M k tr1 l q l' q' → zRB (b 36) M l q → mm = zHd tr1 → G1 + tr1.length = G + tr.length → zlg (b' 41) G1 tr1 = zlg (b 41) G tr → zlh (b' 42) G1 k tr1 = zlh (b 42) G k tr → X0 46 [some (.ref 56), some (.int l), some (.int mm), o3, o4] [] (HX s a w ++ HM t' b' u c) := by
    intro tr1
    induction tr1 with
    | nil =>
      intro l q G1 t' b' mm o3 o4 r1 r2 r3 r4 r5 r6 r7 z1 z2 z3 z4 z5 z6
      obtain ⟨y1, y2⟩ := z1
      subst y2
      have z3' : mm = -1 := z3
      subst z3'
      have n2 : t' 2 = nI k := by rw [r1 2 (by decide)]; exact hn
      iterate 2 refine hX0 _ _ _ _ ?_
      refine And.intro (fun _ => ?_) (fun c => absurd c (by decide))
      iterate 6 refine hX0 _ _ _ _ ?_
      refine zcast (X := X0) yt_2 ?_
      refine hX0 _ _ _ _ ?_
      refine h0 _ b' (zSm_up (by decide) (zSm_more r1 (by decide))) r2 ?_ ?_ ?_ r5 r6 r7 z5 z6
      · show t' 2 + 1 = _
        rw [n2, nI_1]
      · show t' 30 = _
        rw [r3]
        exact congrArg nI z4
      · exact r4
    | cons m tr1 ih =>
      intro l q G1 t' b' mm o3 o4 r1 r2 r3 r4 r5 r6 r7 z1 z2 z3 z4 z5 z6
      have z3' : mm = nI m := z3
      subst z3'
      obtain ⟨y1, y2, y3⟩ := z1
      have hm := y2.1
      have z4' : G1 + (tr1.length + 1) = G + tr.length := z4
      have hmI : (nI m).toInt = (m : Int) := nI_toInt (by omega)
      have hcl : (nI m).toNatClampNeg = m := nI_clamp (by omega)
      have hcg : (nI G1).toNatClampNeg = G1 := nI_clamp (by omega)
      have n2 : t' 2 = nI k := by rw [r1 2 (by decide)]; exact hn
      have n36 : b' 36 = b 36 := r2 36 (by decide)
      have n37 : b' 37 = b 37 := r2 37 (by decide)
      have hb2 := zRB_s (mR := b 37) (k := k) z2 hm y2.2.1
      have hbm := z2.2 m hm
      have tail : ∀ (t2 : Nat → Int32) (b2 : Nat → Nat → Int32) (o3 o4 : Option Value), zSm [30, 32] t t2 → zSm [38, 39, 40, 41, 42] b b2 → t2 30 = nI (G1 + 1) → t2 32 = (zsn (b 36) k m l q).1 → b2 38 = (zsn (b 36) k m l q).2.1 → b2 39 = (zsn (b 36) k m l q).2.2.1 → b2 40 = (zsn (b 36) k m l q).2.2.2.1 → b2 41 = upd (b' 41) G1 (nI m) → b2 42 = upd (b' 42) G1 (nI k) → X0 193 [some (.ref 56), some (.int (l - zits (b 36) q.2.1 m l)), some (.int (nI m)), o3, o4] [] (HX s a w ++ HM t2 b2 u c) := by
        intro t2 b2 o3 o4 p1 p2 p3 p4 p5 p6 p7 p8 p9
        have n29 : t2 29 = nI M := by rw [p1 29 (by decide)]; exact hM
        have m36 : b2 36 = b 36 := p2 36 (by decide)
        have m37 : b2 37 = b 37 := p2 37 (by decide)
        have go : ∀ mm : Int32, mm = zHd tr1 → X0 46 [some (.ref 56), some (.int (l - zits (b 36) q.2.1 m l)), some (.int mm), o3, o4] [] (HX s a w ++ HM t2 b2 u c) := fun mm hmm => ih _ _ (G1 + 1) t2 b2 mm o3 o4 p1 p2 p3 p4 p5 p6 p7 y3 hb2 hmm (by omega) (by rw [p8]; exact z5) (by rw [p9]; exact z6)
        iterate 2 refine hX0 _ _ _ _ ?_
        refine And.intro (fun c1 => ?_) (fun c1 => ?_)
        · iterate 3 refine hX0 _ _ _ _ ?_
          rw [fa_le] at c1
          exact go _ (zHd_a y3 (Or.inl (by omega))).symm
        · iterate 2 refine hX0 _ _ _ _ ?_
          refine y_next n29 hM2 (fun c2 => ?_) (fun mx c3 => ?_)
          · iterate 3 refine hX0 _ _ _ _ ?_
            rw [m36, p5] at c2
            exact go _ (zHd_a y3 (Or.inr c2)).symm
          · iterate 3 refine hX0 _ _ _ _ ?_
            rw [m36, m37, p5] at c3
            rw [fa_le] at c1
            exact go _ (zHd_c y3 he (by omega) c3).symm
      have body : ∀ (v3 : Int32), X0 76 [some (.ref 56), some (.int l), some (.int (nI m)), some (.int v3), some (.int (zits (b 36) q.2.1 m l))] [] (HX s a w ++ HM t' b' u c) := by
        intro v3
        iterate 7 refine hX0 _ _ _ _ ?_
        refine And.intro (by exact vp_in_nI (by omega) (by omega)) ?_
        rw [hcl]
        refine hX0 _ _ _ _ ?_
        refine And.intro (fun c1 => ?_) (fun c1 => ?_)
        · iterate 4 refine hX0 _ _ _ _ ?_
          refine And.intro (by exact vp_in_nI (by omega) (by omega)) ?_
          rw [hcl]
          refine hX0 _ _ _ _ ?_
          refine And.intro (by exact vp_in_nI (by omega) (by omega)) ?_
          refine zcast (X := X0) yb_39 ?_
          rw [hcl]
          iterate 5 refine hX0 _ _ _ _ ?_
          refine And.intro (by exact vp_in_nI (by omega) (by omega)) ?_
          rw [hcl]
          iterate 3 refine hX0 _ _ _ _ ?_
          refine And.intro (by exact vp_in_nI (by omega) (by omega)) ?_
          refine zcast (X := X0) yb_38 ?_
          rw [hcl]
          iterate 7 refine hX0 _ _ _ _ ?_
          refine And.intro (by exact vp_in_nI (by omega) (by omega)) ?_
          rw [hcl]
          iterate 4 refine hX0 _ _ _ _ ?_
          refine And.intro (by exact vp_in_nI (by omega) (by omega)) ?_
          rw [hcl]
          refine hX0 _ _ _ _ ?_
          refine And.intro (fun c2 => ?_) (fun c2 => ?_)
          · iterate 2 refine hX0 _ _ _ _ ?_
            refine And.intro (by exact vp_in_nI (by omega) (by omega)) ?_
            refine zcast (X := X0) yb_40 ?_
            rw [hcl]
            iterate 6 refine hX0 _ _ _ _ ?_
            refine zcast (X := X0) yt_32 ?_
            iterate 10 refine hX0 _ _ _ _ ?_
            refine And.intro (by show vp_in (t' 30) 2600; rw [r3]; exact vp_in_nI (by omega) (by omega)) ?_
            refine zcast (X := X0) yb_41 ?_
            iterate 7 refine hX0 _ _ _ _ ?_
            refine And.intro (by show vp_in (t' 30) 2600; rw [r3]; exact vp_in_nI (by omega) (by omega)) ?_
            refine zcast (X := X0) yb_42 ?_
            iterate 6 refine hX0 _ _ _ _ ?_
            refine zcast (X := X0) yt_30 ?_
            have v1 : ¬ q.2.1 m = 0 := by rw [← r5]; exact c1
            have v2 : ¬ upd (b' 38) m (b' 38 m + zits (b 36) q.2.1 m l) m = b' 36 m := c2
            rw [upd_at, if_pos rfl, n36, r5] at v2
            refine tail _ _ _ _ (by repeat (first | exact r1 | refine zSm_up (by decide) ?_)) (by repeat (first | exact r2 | refine zSm_up (by decide) ?_)) ?_ ?_ ?_ ?_ ?_ ?_ ?_
            · show t' 30 + 1 = _
              rw [r3, nI_1]
            · show t' 32 + _ = _
              rw [r4]
              rfl
            · show upd (b' 38) m (b' 38 m + _) = _
              rw [r5]
              rfl
            · show upd (b' 39) m (b' 39 m) = (if q.2.1 m = 0 then upd q.2.2.1 m (nI k) else q.2.2.1)
              rw [if_neg v1, r6]
              exact upd_id rfl
            · show upd (b' 40) m (-1) = (if q.2.1 m + zits (b 36) q.2.1 m l = b 36 m then upd q.2.2.2.1 m (nI k) else q.2.2.2.1)
              rw [if_neg v2, r7]
              exact upd_id (hbm.2.2 y2.2.1)
            · show upd (b' 41) (t' 30).toNatClampNeg (nI m) = _
              rw [r3, hcg]
            · show upd (b' 42) (t' 30).toNatClampNeg (t' 2) = _
              rw [r3, hcg, n2]
          · iterate 4 refine hX0 _ _ _ _ ?_
            refine And.intro (by exact vp_in_nI (by omega) (by omega)) ?_
            refine zcast (X := X0) yb_40 ?_
            rw [hcl]
            iterate 6 refine hX0 _ _ _ _ ?_
            refine zcast (X := X0) yt_32 ?_
            iterate 10 refine hX0 _ _ _ _ ?_
            refine And.intro (by show vp_in (t' 30) 2600; rw [r3]; exact vp_in_nI (by omega) (by omega)) ?_
            refine zcast (X := X0) yb_41 ?_
            iterate 7 refine hX0 _ _ _ _ ?_
            refine And.intro (by show vp_in (t' 30) 2600; rw [r3]; exact vp_in_nI (by omega) (by omega)) ?_
            refine zcast (X := X0) yb_42 ?_
            iterate 6 refine hX0 _ _ _ _ ?_
            refine zcast (X := X0) yt_30 ?_
            have v1 : ¬ q.2.1 m = 0 := by rw [← r5]; exact c1
            have v2 :  upd (b' 38) m (b' 38 m + zits (b 36) q.2.1 m l) m = b' 36 m := c2
            rw [upd_at, if_pos rfl, n36, r5] at v2
            refine tail _ _ _ _ (by repeat (first | exact r1 | refine zSm_up (by decide) ?_)) (by repeat (first | exact r2 | refine zSm_up (by decide) ?_)) ?_ ?_ ?_ ?_ ?_ ?_ ?_
            · show t' 30 + 1 = _
              rw [r3, nI_1]
            · show t' 32 + _ = _
              rw [r4]
              rfl
            · show upd (b' 38) m (b' 38 m + _) = _
              rw [r5]
              rfl
            · show upd (b' 39) m (b' 39 m) = (if q.2.1 m = 0 then upd q.2.2.1 m (nI k) else q.2.2.1)
              rw [if_neg v1, r6]
              exact upd_id rfl
            · show upd (b' 40) m (t' 2) = (if q.2.1 m + zits (b 36) q.2.1 m l = b 36 m then upd q.2.2.2.1 m (nI k) else q.2.2.2.1)
              rw [if_pos v2, r7, n2]
            · show upd (b' 41) (t' 30).toNatClampNeg (nI m) = _
              rw [r3, hcg]
            · show upd (b' 42) (t' 30).toNatClampNeg (t' 2) = _
              rw [r3, hcg, n2]
        · iterate 4 refine hX0 _ _ _ _ ?_
          refine And.intro (by exact vp_in_nI (by omega) (by omega)) ?_
          refine zcast (X := X0) yb_39 ?_
          rw [hcl]
          iterate 5 refine hX0 _ _ _ _ ?_
          refine And.intro (by exact vp_in_nI (by omega) (by omega)) ?_
          rw [hcl]
          iterate 3 refine hX0 _ _ _ _ ?_
          refine And.intro (by exact vp_in_nI (by omega) (by omega)) ?_
          refine zcast (X := X0) yb_38 ?_
          rw [hcl]
          iterate 7 refine hX0 _ _ _ _ ?_
          refine And.intro (by exact vp_in_nI (by omega) (by omega)) ?_
          rw [hcl]
          iterate 4 refine hX0 _ _ _ _ ?_
          refine And.intro (by exact vp_in_nI (by omega) (by omega)) ?_
          rw [hcl]
          refine hX0 _ _ _ _ ?_
          refine And.intro (fun c3 => ?_) (fun c3 => ?_)
          · iterate 2 refine hX0 _ _ _ _ ?_
            refine And.intro (by exact vp_in_nI (by omega) (by omega)) ?_
            refine zcast (X := X0) yb_40 ?_
            rw [hcl]
            iterate 6 refine hX0 _ _ _ _ ?_
            refine zcast (X := X0) yt_32 ?_
            iterate 10 refine hX0 _ _ _ _ ?_
            refine And.intro (by show vp_in (t' 30) 2600; rw [r3]; exact vp_in_nI (by omega) (by omega)) ?_
            refine zcast (X := X0) yb_41 ?_
            iterate 7 refine hX0 _ _ _ _ ?_
            refine And.intro (by show vp_in (t' 30) 2600; rw [r3]; exact vp_in_nI (by omega) (by omega)) ?_
            refine zcast (X := X0) yb_42 ?_
            iterate 6 refine hX0 _ _ _ _ ?_
            refine zcast (X := X0) yt_30 ?_
            have v1 :  q.2.1 m = 0 := by rw [← r5]; exact c1
            have v2 : ¬ upd (b' 38) m (b' 38 m + zits (b 36) q.2.1 m l) m = b' 36 m := c3
            rw [upd_at, if_pos rfl, n36, r5] at v2
            refine tail _ _ _ _ (by repeat (first | exact r1 | refine zSm_up (by decide) ?_)) (by repeat (first | exact r2 | refine zSm_up (by decide) ?_)) ?_ ?_ ?_ ?_ ?_ ?_ ?_
            · show t' 30 + 1 = _
              rw [r3, nI_1]
            · show t' 32 + _ = _
              rw [r4]
              rfl
            · show upd (b' 38) m (b' 38 m + _) = _
              rw [r5]
              rfl
            · show upd (b' 39) m (t' 2) = (if q.2.1 m = 0 then upd q.2.2.1 m (nI k) else q.2.2.1)
              rw [if_pos v1, r6, n2]
            · show upd (b' 40) m (-1) = (if q.2.1 m + zits (b 36) q.2.1 m l = b 36 m then upd q.2.2.2.1 m (nI k) else q.2.2.2.1)
              rw [if_neg v2, r7]
              exact upd_id (hbm.2.2 y2.2.1)
            · show upd (b' 41) (t' 30).toNatClampNeg (nI m) = _
              rw [r3, hcg]
            · show upd (b' 42) (t' 30).toNatClampNeg (t' 2) = _
              rw [r3, hcg, n2]
          · iterate 4 refine hX0 _ _ _ _ ?_
            refine And.intro (by exact vp_in_nI (by omega) (by omega)) ?_
            refine zcast (X := X0) yb_40 ?_
            rw [hcl]
            iterate 6 refine hX0 _ _ _ _ ?_
            refine zcast (X := X0) yt_32 ?_
            iterate 10 refine hX0 _ _ _ _ ?_
            refine And.intro (by show vp_in (t' 30) 2600; rw [r3]; exact vp_in_nI (by omega) (by omega)) ?_
            refine zcast (X := X0) yb_41 ?_
            iterate 7 refine hX0 _ _ _ _ ?_
            refine And.intro (by show vp_in (t' 30) 2600; rw [r3]; exact vp_in_nI (by omega) (by omega)) ?_
            refine zcast (X := X0) yb_42 ?_
            iterate 6 refine hX0 _ _ _ _ ?_
            refine zcast (X := X0) yt_30 ?_
            have v1 :  q.2.1 m = 0 := by rw [← r5]; exact c1
            have v2 :  upd (b' 38) m (b' 38 m + zits (b 36) q.2.1 m l) m = b' 36 m := c3
            rw [upd_at, if_pos rfl, n36, r5] at v2
            refine tail _ _ _ _ (by repeat (first | exact r1 | refine zSm_up (by decide) ?_)) (by repeat (first | exact r2 | refine zSm_up (by decide) ?_)) ?_ ?_ ?_ ?_ ?_ ?_ ?_
            · show t' 30 + 1 = _
              rw [r3, nI_1]
            · show t' 32 + _ = _
              rw [r4]
              rfl
            · show upd (b' 38) m (b' 38 m + _) = _
              rw [r5]
              rfl
            · show upd (b' 39) m (t' 2) = (if q.2.1 m = 0 then upd q.2.2.1 m (nI k) else q.2.2.1)
              rw [if_pos v1, r6, n2]
            · show upd (b' 40) m (t' 2) = (if q.2.1 m + zits (b 36) q.2.1 m l = b 36 m then upd q.2.2.2.1 m (nI k) else q.2.2.2.1)
              rw [if_pos v2, r7, n2]
            · show upd (b' 41) (t' 30).toNatClampNeg (nI m) = _
              rw [r3, hcg]
            · show upd (b' 42) (t' 30).toNatClampNeg (t' 2) = _
              rw [r3, hcg, n2]
      iterate 2 refine hX0 _ _ _ _ ?_
      refine And.intro (fun c1 => ?_) (fun c1 => ?_)
      · exfalso
        rw [fa_lt] at c1
        omega
      · iterate 4 refine hX0 _ _ _ _ ?_
        refine And.intro (by exact vp_in_nI (by omega) (by omega)) ?_
        rw [hcl]
        iterate 4 refine hX0 _ _ _ _ ?_
        refine And.intro (by exact vp_in_nI (by omega) (by omega)) ?_
        rw [hcl]
        iterate 5 refine hX0 _ _ _ _ ?_
        refine And.intro (fun c2 => ?_) (fun c2 => ?_)
        · iterate 2 refine hX0 _ _ _ _ ?_
          have e5 : zits (b 36) q.2.1 m l = l := by unfold zits; rw [← r5, ← n36]; exact if_neg (Int32.not_lt.mpr c2)
          have kk := body (b' 36 m - b' 38 m)
          rw [e5] at kk
          exact kk
        · iterate 3 refine hX0 _ _ _ _ ?_
          have e5 : zits (b 36) q.2.1 m l = b' 36 m - b' 38 m := by unfold zits; rw [← r5, ← n36]; exact if_pos (Int32.not_le.mp c2)
          have kk := body (b' 36 m - b' 38 m)
          rw [e5] at kk
          exact kk
  iterate 4 refine hX0 _ _ _ _ ?_
  refine And.intro (by decide) ?_
  iterate 8 refine hX0 _ _ _ _ ?_
  refine r_in (x := t 2 - t 2 / 24 * 24) (t 26).toInt (t 27).toInt (i64_of _) (i64_of _) (fun c1 => ?_) (fun c2 => ?_)
  · refine hX0 _ _ _ _ ?_
    refine And.intro (fun c => absurd c (by decide)) (fun _ => ?_)
    iterate 6 refine hX0 _ _ _ _ ?_
    refine And.intro (fun c3 => ?_) (fun c3 => ?_)
    · iterate 2 refine hX0 _ _ _ _ ?_
      rw [hn, rem24 k hk, nI_toInt (by omega)] at c1
      rw [if_pos c1] at hl0
      rw [hl0] at c3 ⊢
      rw [fa_le] at c3
      exact loop tr l0 q G t b _ none none zSm_refl zSm_refl hG e1 e2 e3 e4 ht hB (zHd_a ht (Or.inl (by omega))).symm (by omega) rfl rfl
    · iterate 2 refine hX0 _ _ _ _ ?_
      refine y_next hM hM2 (fun c4 => ?_) (fun mx c5 => ?_)
      · iterate 2 refine hX0 _ _ _ _ ?_
        rw [hn, rem24 k hk, nI_toInt (by omega)] at c1
        rw [if_pos c1] at hl0
        rw [hl0] at ⊢
        rw [e2] at c4
        exact loop tr l0 q G t b _ none none zSm_refl zSm_refl hG e1 e2 e3 e4 ht hB (zHd_a ht (Or.inr c4)).symm (by omega) rfl rfl
      · iterate 2 refine hX0 _ _ _ _ ?_
        rw [hn, rem24 k hk, nI_toInt (by omega)] at c1
        rw [if_pos c1] at hl0
        rw [hl0] at c3 ⊢
        rw [fa_le] at c3
        rw [e2] at c5
        exact loop tr l0 q G t b _ none none zSm_refl zSm_refl hG e1 e2 e3 e4 ht hB (zHd_c ht he (by omega) c5).symm (by omega) rfl rfl
  · refine hX0 _ _ _ _ ?_
    refine And.intro (fun _ => ?_) (fun c => absurd c (by decide))
    iterate 4 refine hX0 _ _ _ _ ?_
    refine And.intro (fun _ => ?_) (fun c => absurd c (by decide))
    iterate 2 refine hX0 _ _ _ _ ?_
    rw [hn, rem24 k hk, nI_toInt (by omega)] at c2
    rw [if_neg c2] at hl0
    subst hl0
    exact loop tr 0 q G t b _ none none zSm_refl zSm_refl hG e1 e2 e3 e4 ht hB (zHd_a ht (Or.inl (by omega))).symm (by omega) rfl rfl
