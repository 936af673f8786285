/-! THE TAPE SPLIT: the station -/
theorem zNv_c {f g : Nat → Int32} {p : Nat} : ∀ m, (∀ i, i < m → (f (p + i)).toInt = (g (p + i)).toInt) → zNv f p m = zNv g p m
  | 0, _ => rfl
  | m + 1, h => by
    show min (zNv f p m * 10 + (f (p + m)).toInt - 48) 1001 = min (zNv g p m * 10 + (g (p + m)).toInt - 48) 1001
    rw [zNv_c m (fun i hi => h i (by omega)), h m (by omega)]
theorem zlt_fg {f g : Nat → Int32} (ht : zTp f g) (i : Nat) : zlt (f i) ↔ zlt (g i) := zBy_r (zBy_of ht i) (by decide) (by decide)
theorem zdg_fg {f g : Nat → Int32} (ht : zTp f g) (i : Nat) : zdg (f i) ↔ zdg (g i) := zBy_r (zBy_of ht i) (by decide) (by decide)
theorem zSame_fg {f g : Nat → Int32} (ht : zTp f g) (i j : Nat) : zSame (f i) (f j) ↔ zSame (g i) (g j) := by
  unfold zSame
  rw [zlt_fg ht i, zlt_fg ht j, zdg_fg ht i, zdg_fg ht j]
theorem zEn_fg {f g : Nat → Int32} (ht : zTp f g) {n p e : Nat} (h : zEn f n p e) : zEn g n p e := ⟨h.1, h.2.1, fun i h1 h2 => (zSame_fg ht p i).mp (h.2.2.1 i h1 h2), fun h1 h2 => h.2.2.2 h1 ((zSame_fg ht p e).mpr h2)⟩
theorem lt_dg {x : Int32} (h : zlt x) : ¬ zdg x := fun z => by
  unfold zlt at h
  unfold zdg at z
  omega
theorem dg_of {g : Nat → Int32} {n p e : Nat} (h : zEn g n p e) (hd : zdg (g p)) : ∀ i, p ≤ i → i < e → zdg (g i) := by
  intro i h1 h2
  rcases Nat.lt_or_ge p i with c | c
  · rcases h.2.2.1 i c h2 with z | z
    · exact absurd hd (lt_dg z.1)
    · exact z.2
  · rw [show i = p by omega]
    exact hd
theorem lt_of' {g : Nat → Int32} {n p e : Nat} (h : zEn g n p e) (hd : zlt (g p)) : ∀ i, p ≤ i → i < e → zlt (g i) := by
  intro i h1 h2
  rcases Nat.lt_or_ge p i with c | c
  · rcases h.2.2.1 i c h2 with z | z
    · exact z.2
    · exact absurd z.1 (lt_dg hd)
  · rw [show i = p by omega]
    exact hd
set_option maxRecDepth 100000 in
theorem x_tokenOf {d : Nat} {s : Nat → Int32} {a : Nat → Nat → Int32} {w : Bool} {Z : zH} {g : Nat → Int32} {n p e : Nat} {Q : zQ} (ht : zTp (a 23) g) (hn4 : n ≤ 400) (he : zEn (a 23) n p e) (h0 : ∀ v, zTk (a 23) g p e v → Q (some (.int v)) (HX s a w ++ Z)) : zG (d + 3) 56 [.ref 28, .int (nI p), .int (nI e)] (HX s a w ++ Z) Q := by
  refine g_56 (Nat.le_of_ble_eq_true rfl) ?_
  intro X0 hX0
  have h1 := he.1
  have h2 := he.2.1
  have hcp : (nI p).toNatClampNeg = p := nI_clamp (by omega)
  iterate 4 refine hX0 _ _ _ _ ?_
  refine And.intro (by exact vp_in_nI (by omega) (by omega)) ?_
  rw [hcp]
  iterate 3 refine hX0 _ _ _ _ ?_
  refine x_letter (fun c1 => ?_) (fun c1 => ?_)
  · have c1' := (zlt_fg ht p).mp c1
    refine hX0 _ _ _ _ ?_
    refine And.intro (fun c => absurd c (by decide)) (fun _ => ?_)
    iterate 4 refine hX0 _ _ _ _ ?_
    refine x_wordTok (by omega) (by omega) (fun v hv => ?_)
    refine hX0 _ _ _ _ ?_
    exact h0 v ⟨fun _ => hv, fun z => absurd z (lt_dg c1'), fun z => absurd c1' z⟩
  · have c1' : ¬ zlt (g p) := fun z => c1 ((zlt_fg ht p).mpr z)
    refine hX0 _ _ _ _ ?_
    refine And.intro (fun _ => ?_) (fun c => absurd c (by decide))
    iterate 2 refine hX0 _ _ _ _ ?_
    refine x_digit (fun c2 => ?_) (fun c2 => ?_)
    · have c2' := (zdg_fg ht p).mp c2
      refine hX0 _ _ _ _ ?_
      refine And.intro (fun c => absurd c (by decide)) (fun _ => ?_)
      iterate 4 refine hX0 _ _ _ _ ?_
      refine x_numTok (by omega) (by omega) (dg_of he c2) (fun v hv => ?_)
      iterate 2 refine hX0 _ _ _ _ ?_
      refine h0 v ⟨fun z => absurd z c1', fun _ => ?_, fun _ z => absurd c2' z⟩
      rw [hv]
      refine zNv_c _ (fun i hi => ?_)
      have z1 := dg_of he c2 (p + i) (by omega) (by omega)
      unfold zdg at z1
      obtain ⟨z2, z3⟩ := zBy_of ht (p + i)
      split at z3 <;> omega
    · have c2' : ¬ zdg (g p) := fun z => c2 ((zdg_fg ht p).mpr z)
      refine hX0 _ _ _ _ ?_
      refine And.intro (fun _ => ?_) (fun c => absurd c (by decide))
      iterate 2 refine hX0 _ _ _ _ ?_
      refine x_signTok (fun v hv => ?_)
      refine hX0 _ _ _ _ ?_
      exact h0 v ⟨fun z => absurd z c1', fun z => absurd z c2', fun _ _ => hv⟩
/-- where the token before ends -/
def zpv (en : Nat → Nat) : Nat → Nat
  | 0 => 0
  | k + 1 => en k
/-- N tokens, one behind the other -/
def zSq (g : Nat → Int32) (n : Nat) (st en : Nat → Nat) (N : Nat) : Prop := ∀ k, k < N → zpv en k ≤ st k ∧ (∀ i, zpv en k ≤ i → i < st k → g i = 32) ∧ ¬ g (st k) = 32 ∧ zEn g n (st k) (en k)
theorem zpv_c {en en' : Nat → Nat} {k : Nat} (h : ∀ i, i < k → en i = en' i) : zpv en k = zpv en' k := by
  cases k with
  | zero => rfl
  | succ k => exact h k (by omega)

set_option maxRecDepth 100000 in
theorem x_split {d : Nat} {s : Nat → Int32} {a : Nat → Nat → Int32} {w : Bool} {Z : zH} {g : Nat → Int32} {n : Nat} {Q : zQ} (ht : zTp (a 23) g) (hn : s 13 = nI n) (hn4 : n ≤ 400) (h0 : ∀ (N : Nat) (st en : Nat → Nat) (s' : Nat → Int32) (a' : Nat → Nat → Int32), zSm [14, 15] s s' → zSm [24, 25] a a' → s' 14 = nI N → s' 15 = nI n → N ≤ n → zSq g n st en N → zpv en N ≤ n → (∀ i, zpv en N ≤ i → i < n → g i = 32) → (∀ k, k < N → a' 25 k = nI (st k) ∧ zTk (a 23) g (st k) (en k) (a' 24 k)) → Q none (HX s' a' w ++ Z)) : zG (d + 5) 57 [.ref 30, .ref 28] (HX s a w ++ Z) Q := by
  refine g_57 (Nat.le_of_ble_eq_true rfl) ?_
  intro X0 hX0
  have key : ∀ (cc j N : Nat) (st en : Nat → Nat) (s' : Nat → Int32) (a' : Nat → Nat → Int32), n - j = cc → j ≤ n → zSm [14, 15] s s' → zSm [24, 25] a a' → s' 14 = nI N → s' 15 = nI n → N ≤ zpv en N → zpv en N ≤ n → zSq g n st en N → (∀ i, zpv en N ≤ i → i < j → g i = 32) → (∀ k, k < N → a' 25 k = nI (st k) ∧ zTk (a 23) g (st k) (en k) (a' 24 k)) → X0 17 [some (.ref 30), some (.ref 28), some (.int (nI (zpv en N))), some (.int (nI j))] [] (HX s' a' w ++ Z) := by
    intro cc
    induction cc with
    | zero =>
      intro j N st en s' a' z1 z2 q1 q2 q3 q4 q5 q6 q7 q8 q9
      have hJ : (nI j).toInt = (j : Int) := nI_toInt (by omega)
      iterate 4 refine hX0 _ _ _ _ ?_
      rw [q4]
      refine And.intro (fun c1 => ?_) (fun c1 => ?_)
      · refine hX0 _ _ _ _ ?_
        exact h0 N st en s' a' q1 q2 q3 q4 (by omega) q7 q6 (fun i h1 h2 => q8 i h1 (by omega)) q9
      · exfalso
        rw [fa_le, nI_toInt (by omega)] at c1
        omega
    | succ cc ih =>
      intro j N st en s' a' z1 z2 q1 q2 q3 q4 q5 q6 q7 q8 q9
      have hJ : (nI j).toInt = (j : Int) := nI_toInt (by omega)
      have hcj : (nI j).toNatClampNeg = j := nI_clamp (by omega)
      have e23 : a' 23 = a 23 := q2 23 (by decide)
      have e13 : s' 13 = nI n := by rw [q1 13 (by decide)]; exact hn
      have h32 : (32 : Int32).toInt = 32 := rfl
      have nxt : (∀ i, zpv en N ≤ i → i < j + 1 → g i = 32) → X0 82 [some (.ref 30), some (.ref 28), some (.int (nI (zpv en N))), some (.int (nI j))] [] (HX s' a' w ++ Z) := by
        intro y
        iterate 2 refine hX0 _ _ _ _ ?_
        rw [nI_1]
        exact ih (j + 1) N st en s' a' (by omega) (by omega) q1 q2 q3 q4 q5 q6 q7 y q9
      iterate 4 refine hX0 _ _ _ _ ?_
      rw [q4]
      refine And.intro (fun c1 => ?_) (fun c1 => ?_)
      · exfalso
        rw [fa_le, nI_toInt (by omega)] at c1
        omega
      · iterate 3 refine hX0 _ _ _ _ ?_
        refine And.intro (fun c2 => ?_) (fun c2 => ?_)
        · rw [fa_lt, hJ, nI_toInt (by omega)] at c2
          exact nxt (fun i h1 h2 => absurd h1 (by omega))
        · rw [fa_lt, hJ, nI_toInt (by omega)] at c2
          iterate 4 refine hX0 _ _ _ _ ?_
          refine And.intro (by exact vp_in_nI (by omega) (by omega)) ?_
          rw [hcj, e23]
          iterate 2 refine hX0 _ _ _ _ ?_
          refine And.intro (fun c3 => ?_) (fun c3 => ?_)
          · refine nxt (fun i h1 h2 => ?_)
            rcases Nat.lt_or_ge i j with h3 | h3
            · exact q8 i h1 h3
            · rw [show i = j by omega, fa_eq]
              exact (zBy_e (zBy_of ht j) (by decide) (by decide)).mp (by rw [c3])
          · have c3' : ¬ g j = 32 := fun z => c3 (by
              rw [fa_eq]
              exact (zBy_e (A := 32) (zBy_of ht j) (by decide) (by decide)).mpr (by rw [z]; rfl))
            iterate 3 refine hX0 _ _ _ _ ?_
            refine x_endTok (n := n) (p := j) e13 hn4 (by omega) (fun e he => ?_)
            rw [e23] at he
            iterate 9 refine hX0 _ _ _ _ ?_
            refine x_tokenOf (g := g) (n := n) (p := j) (e := e) (by rw [e23]; exact ht) hn4 (by rw [e23]; exact he) (fun v hv => ?_)
            rw [e23] at hv
            rw [q3]
            have hcN : (nI N).toNatClampNeg = N := nI_clamp (by omega)
            refine hX0 _ _ _ _ ?_
            refine And.intro (by exact vp_in_nI (by omega) (by omega)) ?_
            refine zcast (X := X0) xa_24 ?_
            rw [hcN]
            iterate 6 refine hX0 _ _ _ _ ?_
            rw [q3]
            refine And.intro (by exact vp_in_nI (by omega) (by omega)) ?_
            refine zcast (X := X0) xa_25 ?_
            rw [hcN]
            iterate 6 refine hX0 _ _ _ _ ?_
            rw [q3]
            refine zcast (X := X0) xs_14 ?_
            rw [nI_1]
            iterate 2 refine hX0 _ _ _ _ ?_
            rw [nI_1]
            have hg := zEn_fg ht he
            have old : ∀ k, k < N → (if k = N then j else st k) = st k ∧ (if k = N then e else en k) = en k := fun k hk => ⟨if_neg (by omega), if_neg (by omega)⟩
            have ezp : ∀ k, k ≤ N → zpv (fun k => if k = N then e else en k) k = zpv en k := fun k hk => zpv_c (fun i hi => if_neg (by omega))
            have ezN : zpv (fun k => if k = N then e else en k) (N + 1) = e := if_pos rfl
            have kk := ih (j + 1) (N + 1) (fun k => if k = N then j else st k) (fun k => if k = N then e else en k) (va_up s' 14 (nI (N + 1))) (va_up (va_up a' 24 (upd (a' 24) N v)) 25 (upd (a' 25) N (nI j))) (by omega) (by omega) (zSm_up (by decide) q1) (zSm_up (by decide) (zSm_up (by decide) q2)) rfl q4 (by rw [ezN]; have := he.1; omega) (by rw [ezN]; exact he.2.1) (fun k hk => ?_) (fun i h1 h2 => ?_) (fun k hk => ?_)
            · rw [ezN] at kk
              exact kk
            · rw [ezp k (by omega)]
              dsimp only
              rcases Nat.lt_or_ge k N with h1 | h1
              · rw [(old k h1).1, (old k h1).2]
                exact q7 k h1
              · have ek : k = N := by omega
                rw [if_pos ek, if_pos ek, ek]
                exact ⟨by omega, q8, c3', hg⟩
            · rw [ezN] at h1
              have := he.1
              omega
            · show upd (a' 25) N (nI j) k = nI (if k = N then j else st k) ∧ zTk (a 23) g (if k = N then j else st k) (if k = N then e else en k) (upd (a' 24) N v k)
              rw [upd_at, upd_at]
              rcases Nat.lt_or_ge k N with h1 | h1
              · rw [(old k h1).1, (old k h1).2, if_neg (by omega), if_neg (by omega)]
                exact q9 k h1
              · have ek : k = N := by omega
                rw [if_pos ek, if_pos ek, if_pos ek, if_pos ek]
                exact ⟨rfl, hv⟩
  iterate 3 refine hX0 _ _ _ _ ?_
  refine zcast (X := X0) xs_14 ?_
  iterate 4 refine hX0 _ _ _ _ ?_
  refine zcast (X := X0) xs_15 ?_
  iterate 4 refine hX0 _ _ _ _ ?_
  have kk := key n 0 0 (fun _ => 0) (fun _ => 0) (va_up (va_up s 14 0) 15 (s 13)) a rfl (by omega) (zSm_up (by decide) (zSm_up (by decide) zSm_refl)) zSm_refl rfl (by show s 13 = nI n; exact hn) (Nat.le_refl _) (by show 0 ≤ n; omega) (fun k hk => absurd hk (Nat.not_lt_zero k)) (fun i _ h2 => absurd h2 (Nat.not_lt_zero i)) (fun k hk => absurd hk (Nat.not_lt_zero k))
  rw [nI_0] at kk
  exact kk
/-- the token at place k -/
def zTt (tk : Nat → Int32) (N k : Nat) : Int32 := if k < N then tk k else -1
set_option maxRecDepth 100000 in
theorem x_token {d : Nat} {s : Nat → Int32} {a : Nat → Nat → Int32} {w : Bool} {Z : zH} {N k : Nat} {Q : zQ} (hN : s 14 = nI N) (hN4 : N ≤ 400) (hk : s 16 = nI k) (hk4 : k ≤ 1000) (h0 : Q (some (.int (zTt (a 24) N k))) (HX s a w ++ Z)) : zG (d + 1) 58 [.ref 30] (HX s a w ++ Z) Q := by
  refine g_58 (Nat.le_of_ble_eq_true rfl) ?_
  intro X0 hX0
  unfold zTt at h0
  iterate 5 refine hX0 _ _ _ _ ?_
  rw [hk, hN]
  refine And.intro (fun c1 => ?_) (fun c1 => ?_)
  · rw [nI_leI (by omega) (by omega)] at c1
    rw [if_neg (by omega)] at h0
    iterate 2 refine hX0 _ _ _ _ ?_
    exact h0
  · rw [nI_leI (by omega) (by omega)] at c1
    rw [if_pos (by omega)] at h0
    iterate 5 refine hX0 _ _ _ _ ?_
    rw [hk]
    refine And.intro (by exact vp_in_nI (by omega) (by omega)) ?_
    rw [nI_clamp (by omega)]
    iterate 2 refine hX0 _ _ _ _ ?_
    exact h0
set_option maxRecDepth 100000 in
theorem x_place2 {d : Nat} {s : Nat → Int32} {a : Nat → Nat → Int32} {w : Bool} {Z : zH} {N k : Nat} {Q : zQ} (hN : s 14 = nI N) (hN4 : N ≤ 400) (hk : s 16 = nI k) (hk4 : k ≤ 1000) (h0 : Q (some (.int (if k < N then a 25 k else s 15))) (HX s a w ++ Z)) : zG (d + 1) 63 [.ref 30] (HX s a w ++ Z) Q := by
  refine g_63 (Nat.le_of_ble_eq_true rfl) ?_
  intro X0 hX0
  iterate 5 refine hX0 _ _ _ _ ?_
  rw [hk, hN]
  refine And.intro (fun c1 => ?_) (fun c1 => ?_)
  · rw [nI_leI (by omega) (by omega)] at c1
    rw [if_neg (by omega)] at h0
    iterate 3 refine hX0 _ _ _ _ ?_
    exact h0
  · rw [nI_leI (by omega) (by omega)] at c1
    rw [if_pos (by omega)] at h0
    iterate 5 refine hX0 _ _ _ _ ?_
    rw [hk]
    refine And.intro (by exact vp_in_nI (by omega) (by omega)) ?_
    rw [nI_clamp (by omega)]
    iterate 2 refine hX0 _ _ _ _ ?_
    exact h0
