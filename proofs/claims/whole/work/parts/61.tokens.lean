/-! THE TAPE IN TOKENS: the station -/
theorem x_letter {d : Nat} {x : Int32} {h : zH} {Q : zQ} (h1 : zlt x → Q (some (.int 1)) h) (h0 : ¬ zlt x → Q (some (.int 0)) h) : zG (d + 2) 48 [.int x] h Q := by
  refine g_48 (Nat.le_of_ble_eq_true rfl) ?_
  intro X0 hX0
  iterate 4 refine hX0 _ _ _ _ ?_
  refine r_within 97 122 rfl rfl (fun c1 => ?_) (fun c1 => ?_)
  · refine hX0 _ _ _ _ ?_
    exact And.intro (Or.inr rfl) (h1 c1)
  · refine hX0 _ _ _ _ ?_
    exact And.intro (Or.inl rfl) (h0 c1)
theorem x_digit {d : Nat} {x : Int32} {h : zH} {Q : zQ} (h1 : zdg x → Q (some (.int 1)) h) (h0 : ¬ zdg x → Q (some (.int 0)) h) : zG (d + 2) 49 [.int x] h Q := by
  refine g_49 (Nat.le_of_ble_eq_true rfl) ?_
  intro X0 hX0
  iterate 4 refine hX0 _ _ _ _ ?_
  refine r_within 48 57 rfl rfl (fun c1 => ?_) (fun c1 => ?_)
  · refine hX0 _ _ _ _ ?_
    exact And.intro (Or.inr rfl) (h1 c1)
  · refine hX0 _ _ _ _ ?_
    exact And.intro (Or.inl rfl) (h0 c1)
theorem x_isWord {d i p q r : Nat} {s : Nat → Int32} {a : Nat → Nat → Int32} {w : Bool} {Z : zH} {Q : zQ} (hr : r = 1000 + i) (hi : i < 8) (hpq : p ≤ q) (hq : q ≤ 400) (h1 : zwordEq i (a 23) p q → Q (some (.int 1)) (HX s a w ++ Z)) (h0 : ¬ zwordEq i (a 23) p q → Q (some (.int 0)) (HX s a w ++ Z)) : zG (d + 1) 52 [.ref r, .ref 28, .int (nI p), .int (nI q)] (HX s a w ++ Z) Q := by
  have e : Q (some (.int (zwordB i (a 23) p q))) (HX s a w ++ Z) := by
    unfold zwordB
    by_cases h : zwordEq i (a 23) p q
    · rw [if_pos h]
      exact h1 h
    · rw [if_neg h]
      exact h0 h
  subst hr
  exact ⟨i, 28, 29, p, q, 400, .int (s 13), a 23, rfl, hi, rfl, rfl, hpq, hq, by decide, e⟩

theorem num_step {v x : Int32} (hv : 0 ≤ v.toInt ∧ v.toInt ≤ 1001) (hx : 48 ≤ x.toInt ∧ x.toInt ≤ 57) : (if 1001 < v * 10 + x - 48 then (1001 : Int32) else v * 10 + x - 48).toInt = min (v.toInt * 10 + x.toInt - 48) 1001 := by
  have e10 : (10 : Int32).toInt = 10 := rfl
  have e48 : (48 : Int32).toInt = 48 := rfl
  have e1001 : (1001 : Int32).toInt = 1001 := rfl
  have h1 : (v * 10).toInt = v.toInt * 10 := by rw [i32_mul (by rw [e10]; omega), e10]
  have h2 : (v * 10 + x).toInt = v.toInt * 10 + x.toInt := by rw [i32_add (by rw [h1]; omega), h1]
  have h3 : (v * 10 + x - 48).toInt = v.toInt * 10 + x.toInt - 48 := by rw [i32_sub (by rw [h2, e48]; omega), h2, e48]
  split
  · next h =>
    rw [fa_lt, h3, e1001] at h
    rw [e1001]
    omega
  · next h =>
    rw [fa_lt, h3, e1001] at h
    rw [h3]
    omega

theorem x_same {d : Nat} {x y : Int32} {h : zH} {Q : zQ} (h1 : zSame x y → Q (some (.int 1)) h) (h0 : ¬ zSame x y → Q (some (.int 0)) h) : zG (d + 3) 50 [.int x, .int y] h Q := by
  refine g_50 (Nat.le_of_ble_eq_true rfl) ?_
  intro X0 hX0
  have yes : zSame x y → X0 28 [some (.int x), some (.int y)] [] h := by
    intro z
    iterate 3 refine hX0 _ _ _ _ ?_
    exact And.intro (Or.inr rfl) (h1 z)
  have no : ¬ zSame x y → X0 32 [some (.int x), some (.int y)] [] h := by
    intro z
    iterate 2 refine hX0 _ _ _ _ ?_
    exact And.intro (Or.inl rfl) (h0 z)
  have dig : ¬ (zlt x ∧ zlt y) → X0 14 [some (.int x), some (.int y)] [] h := by
    intro z
    iterate 2 refine hX0 _ _ _ _ ?_
    refine x_digit (fun c1 => ?_) (fun c1 => ?_)
    · refine hX0 _ _ _ _ ?_
      refine And.intro (fun c => absurd c (by decide)) (fun _ => ?_)
      iterate 2 refine hX0 _ _ _ _ ?_
      refine x_digit (fun c2 => ?_) (fun c2 => ?_)
      · refine hX0 _ _ _ _ ?_
        refine And.intro (fun c => absurd c (by decide)) (fun _ => ?_)
        exact yes (Or.inr ⟨c1, c2⟩)
      · refine hX0 _ _ _ _ ?_
        refine And.intro (fun _ => ?_) (fun c => absurd c (by decide))
        refine no (fun q => ?_)
        rcases q with q | q
        · exact z q
        · exact c2 q.2
    · refine hX0 _ _ _ _ ?_
      refine And.intro (fun _ => ?_) (fun c => absurd c (by decide))
      refine no (fun q => ?_)
      rcases q with q | q
      · exact z q
      · exact c1 q.1
  iterate 2 refine hX0 _ _ _ _ ?_
  refine x_letter (fun c1 => ?_) (fun c1 => ?_)
  · refine hX0 _ _ _ _ ?_
    refine And.intro (fun c => absurd c (by decide)) (fun _ => ?_)
    iterate 2 refine hX0 _ _ _ _ ?_
    refine x_letter (fun c2 => ?_) (fun c2 => ?_)
    · refine hX0 _ _ _ _ ?_
      refine And.intro (fun _ => ?_) (fun c => absurd c (by decide))
      exact yes (Or.inl ⟨c1, c2⟩)
    · refine hX0 _ _ _ _ ?_
      refine And.intro (fun c => absurd c (by decide)) (fun _ => ?_)
      exact dig (fun q => c2 q.2)
  · refine hX0 _ _ _ _ ?_
    refine And.intro (fun _ => ?_) (fun c => absurd c (by decide))
    exact dig (fun q => c1 q.1)
set_option maxRecDepth 100000 in
theorem x_endTok {d : Nat} {s : Nat → Int32} {a : Nat → Nat → Int32} {w : Bool} {Z : zH} {n p : Nat} {Q : zQ} (hn : s 13 = nI n) (hn4 : n ≤ 400) (hp : p < n) (h0 : ∀ e, zEn (a 23) n p e → Q (some (.int (nI e))) (HX s a w ++ Z)) : zG (d + 4) 51 [.ref 28, .int (nI p)] (HX s a w ++ Z) Q := by
  refine g_51 (Nat.le_of_ble_eq_true rfl) ?_
  intro X0 hX0
  have hNI : (s 13).toInt = (n : Int) := by rw [hn, nI_toInt (by omega)]
  have hcp : (nI p).toNatClampNeg = p := nI_clamp (by omega)
  have key : ∀ (cc j : Nat), n - j = cc → p < j → j ≤ n → (∀ i, p < i → i < j → zSame (a 23 p) (a 23 i)) → X0 11 [some (.ref 28), some (.int (nI p)), some (.int (a 23 p)), some (.int (nI j))] [] (HX s a w ++ Z) := by
    intro cc
    induction cc with
    | zero =>
      intro j z1 z2 z3 z4
      have hJ : (nI j).toInt = (j : Int) := nI_toInt (by omega)
      iterate 4 refine hX0 _ _ _ _ ?_
      refine And.intro (fun c1 => ?_) (fun c1 => ?_)
      · iterate 2 refine hX0 _ _ _ _ ?_
        exact h0 j ⟨z2, z3, z4, fun z => absurd z (by omega)⟩
      · exfalso
        rw [fa_le] at c1
        omega
    | succ cc ih =>
      intro j z1 z2 z3 z4
      have hJ : (nI j).toInt = (j : Int) := nI_toInt (by omega)
      have hcj : (nI j).toNatClampNeg = j := nI_clamp (by omega)
      iterate 4 refine hX0 _ _ _ _ ?_
      refine And.intro (fun c1 => ?_) (fun c1 => ?_)
      · exfalso
        rw [fa_le] at c1
        omega
      · iterate 5 refine hX0 _ _ _ _ ?_
        refine And.intro (by exact vp_in_nI (by omega) (by omega)) ?_
        rw [hcj]
        refine hX0 _ _ _ _ ?_
        refine x_same (fun c2 => ?_) (fun c2 => ?_)
        · refine hX0 _ _ _ _ ?_
          refine And.intro (fun c => absurd c (by decide)) (fun _ => ?_)
          iterate 2 refine hX0 _ _ _ _ ?_
          rw [nI_1]
          refine ih (j + 1) (by omega) (by omega) (by omega) (fun i h1 h2 => ?_)
          rcases Nat.lt_or_ge i j with h3 | h3
          · exact z4 i h1 h3
          · rw [show i = j by omega]
            exact c2
        · refine hX0 _ _ _ _ ?_
          refine And.intro (fun _ => ?_) (fun c => absurd c (by decide))
          iterate 2 refine hX0 _ _ _ _ ?_
          exact h0 j ⟨z2, z3, z4, fun _ => c2⟩
  iterate 4 refine hX0 _ _ _ _ ?_
  refine And.intro (by exact vp_in_nI (by omega) (by omega)) ?_
  rw [hcp]
  iterate 5 refine hX0 _ _ _ _ ?_
  rw [nI_1]
  exact key _ (p + 1) rfl (by omega) (by omega) (fun i h1 h2 => absurd h1 (by omega))

set_option maxRecDepth 100000 in
theorem x_wordTok {d : Nat} {s : Nat → Int32} {a : Nat → Nat → Int32} {w : Bool} {Z : zH} {p e : Nat} {Q : zQ} (hpe : p ≤ e) (he : e ≤ 400) (h0 : ∀ v, zTw (a 23) p e v → Q (some (.int v)) (HX s a w ++ Z)) : zG (d + 2) 53 [.ref 28, .int (nI p), .int (nI e)] (HX s a w ++ Z) Q := by
  refine g_53 (Nat.le_of_ble_eq_true rfl) ?_
  intro X0 hX0
  iterate 5 refine hX0 _ _ _ _ ?_
  show zG (d + 1) 52 [.ref 1000, .ref 28, .int (nI p), .int (nI e)] (HX s a w ++ Z) (fun r h => X0 8 [some (.ref 28), some (.int (nI p)), some (.int (nI e))] (zpush r []) h)
  refine x_isWord (d := d) (i := 0) (r := 1000) (by decide) (by decide) hpe he (fun w0 => ?_) (fun w0 => ?_)
  · refine hX0 _ _ _ _ ?_
    refine And.intro (fun c => absurd c (by decide)) (fun _ => ?_)
    iterate 2 refine hX0 _ _ _ _ ?_
    exact h0 _ (Or.inl ⟨rfl, w0⟩)
  · refine hX0 _ _ _ _ ?_
    refine And.intro (fun _ => ?_) (fun c => absurd c (by decide))
    iterate 5 refine hX0 _ _ _ _ ?_
    show zG (d + 1) 52 [.ref 1001, .ref 28, .int (nI p), .int (nI e)] (HX s a w ++ Z) (fun r h => X0 22 [some (.ref 28), some (.int (nI p)), some (.int (nI e))] (zpush r []) h)
    refine x_isWord (d := d) (i := 1) (r := 1001) (by decide) (by decide) hpe he (fun w1 => ?_) (fun w1 => ?_)
    · refine hX0 _ _ _ _ ?_
      refine And.intro (fun c => absurd c (by decide)) (fun _ => ?_)
      iterate 2 refine hX0 _ _ _ _ ?_
      exact h0 _ (Or.inr (Or.inl ⟨rfl, w1⟩))
    · refine hX0 _ _ _ _ ?_
      refine And.intro (fun _ => ?_) (fun c => absurd c (by decide))
      iterate 5 refine hX0 _ _ _ _ ?_
      show zG (d + 1) 52 [.ref 1002, .ref 28, .int (nI p), .int (nI e)] (HX s a w ++ Z) (fun r h => X0 36 [some (.ref 28), some (.int (nI p)), some (.int (nI e))] (zpush r []) h)
      refine x_isWord (d := d) (i := 2) (r := 1002) (by decide) (by decide) hpe he (fun w2 => ?_) (fun w2 => ?_)
      · refine hX0 _ _ _ _ ?_
        refine And.intro (fun c => absurd c (by decide)) (fun _ => ?_)
        iterate 2 refine hX0 _ _ _ _ ?_
        exact h0 _ (Or.inr (Or.inr (Or.inl ⟨rfl, w2⟩)))
      · refine hX0 _ _ _ _ ?_
        refine And.intro (fun _ => ?_) (fun c => absurd c (by decide))
        iterate 5 refine hX0 _ _ _ _ ?_
        show zG (d + 1) 52 [.ref 1003, .ref 28, .int (nI p), .int (nI e)] (HX s a w ++ Z) (fun r h => X0 50 [some (.ref 28), some (.int (nI p)), some (.int (nI e))] (zpush r []) h)
        refine x_isWord (d := d) (i := 3) (r := 1003) (by decide) (by decide) hpe he (fun w3 => ?_) (fun w3 => ?_)
        · refine hX0 _ _ _ _ ?_
          refine And.intro (fun c => absurd c (by decide)) (fun _ => ?_)
          iterate 2 refine hX0 _ _ _ _ ?_
          exact h0 _ (Or.inr (Or.inr (Or.inr (Or.inl ⟨rfl, w3⟩))))
        · refine hX0 _ _ _ _ ?_
          refine And.intro (fun _ => ?_) (fun c => absurd c (by decide))
          iterate 5 refine hX0 _ _ _ _ ?_
          show zG (d + 1) 52 [.ref 1004, .ref 28, .int (nI p), .int (nI e)] (HX s a w ++ Z) (fun r h => X0 64 [some (.ref 28), some (.int (nI p)), some (.int (nI e))] (zpush r []) h)
          refine x_isWord (d := d) (i := 4) (r := 1004) (by decide) (by decide) hpe he (fun w4 => ?_) (fun w4 => ?_)
          · refine hX0 _ _ _ _ ?_
            refine And.intro (fun c => absurd c (by decide)) (fun _ => ?_)
            iterate 2 refine hX0 _ _ _ _ ?_
            exact h0 _ (Or.inr (Or.inr (Or.inr (Or.inr (Or.inl ⟨rfl, w4⟩)))))
          · refine hX0 _ _ _ _ ?_
            refine And.intro (fun _ => ?_) (fun c => absurd c (by decide))
            iterate 5 refine hX0 _ _ _ _ ?_
            show zG (d + 1) 52 [.ref 1005, .ref 28, .int (nI p), .int (nI e)] (HX s a w ++ Z) (fun r h => X0 78 [some (.ref 28), some (.int (nI p)), some (.int (nI e))] (zpush r []) h)
            refine x_isWord (d := d) (i := 5) (r := 1005) (by decide) (by decide) hpe he (fun w5 => ?_) (fun w5 => ?_)
            · refine hX0 _ _ _ _ ?_
              refine And.intro (fun c => absurd c (by decide)) (fun _ => ?_)
              iterate 2 refine hX0 _ _ _ _ ?_
              exact h0 _ (Or.inr (Or.inr (Or.inr (Or.inr (Or.inr (Or.inl ⟨rfl, w5⟩))))))
            · refine hX0 _ _ _ _ ?_
              refine And.intro (fun _ => ?_) (fun c => absurd c (by decide))
              iterate 5 refine hX0 _ _ _ _ ?_
              show zG (d + 1) 52 [.ref 1006, .ref 28, .int (nI p), .int (nI e)] (HX s a w ++ Z) (fun r h => X0 92 [some (.ref 28), some (.int (nI p)), some (.int (nI e))] (zpush r []) h)
              refine x_isWord (d := d) (i := 6) (r := 1006) (by decide) (by decide) hpe he (fun w6 => ?_) (fun w6 => ?_)
              · refine hX0 _ _ _ _ ?_
                refine And.intro (fun c => absurd c (by decide)) (fun _ => ?_)
                iterate 2 refine hX0 _ _ _ _ ?_
                exact h0 _ (Or.inr (Or.inr (Or.inr (Or.inr (Or.inr (Or.inr (Or.inl ⟨rfl, w6⟩)))))))
              · refine hX0 _ _ _ _ ?_
                refine And.intro (fun _ => ?_) (fun c => absurd c (by decide))
                iterate 5 refine hX0 _ _ _ _ ?_
                show zG (d + 1) 52 [.ref 1007, .ref 28, .int (nI p), .int (nI e)] (HX s a w ++ Z) (fun r h => X0 106 [some (.ref 28), some (.int (nI p)), some (.int (nI e))] (zpush r []) h)
                refine x_isWord (d := d) (i := 7) (r := 1007) (by decide) (by decide) hpe he (fun w7 => ?_) (fun w7 => ?_)
                · refine hX0 _ _ _ _ ?_
                  refine And.intro (fun c => absurd c (by decide)) (fun _ => ?_)
                  iterate 3 refine hX0 _ _ _ _ ?_
                  exact h0 _ (Or.inr (Or.inr (Or.inr (Or.inr (Or.inr (Or.inr (Or.inr (Or.inl ⟨rfl, w7⟩))))))))
                · refine hX0 _ _ _ _ ?_
                  refine And.intro (fun _ => ?_) (fun c => absurd c (by decide))
                  iterate 2 refine hX0 _ _ _ _ ?_
                  exact h0 _ (Or.inr (Or.inr (Or.inr (Or.inr (Or.inr (Or.inr (Or.inr (Or.inr (⟨rfl, w0, w1, w2, w3, w4, w5, w6, w7⟩)))))))))

set_option maxRecDepth 100000 in
theorem x_numTok {d : Nat} {s : Nat → Int32} {a : Nat → Nat → Int32} {w : Bool} {Z : zH} {p e : Nat} {Q : zQ} (hpe : p ≤ e) (he : e ≤ 400) (hd : ∀ i, p ≤ i → i < e → zdg (a 23 i)) (h0 : ∀ v : Int32, v.toInt = zNv (a 23) p (e - p) → Q (some (.int v)) (HX s a w ++ Z)) : zG (d + 1) 54 [.ref 28, .int (nI p), .int (nI e)] (HX s a w ++ Z) Q := by
  refine g_54 (Nat.le_of_ble_eq_true rfl) ?_
  intro X0 hX0
  have hEI : (nI e).toInt = (e : Int) := nI_toInt (by omega)
  have key : ∀ (cc m : Nat) (v : Int32), e - p - m = cc → p + m ≤ e → v.toInt = zNv (a 23) p m → X0 5 [some (.ref 28), some (.int (nI p)), some (.int (nI e)), some (.int v), some (.int (nI (p + m)))] [] (HX s a w ++ Z) := by
    intro cc
    induction cc with
    | zero =>
      intro m v z1 z2 z3
      have hJ : (nI (p + m)).toInt = ((p + m : Nat) : Int) := nI_toInt (by omega)
      iterate 3 refine hX0 _ _ _ _ ?_
      refine And.intro (fun c1 => ?_) (fun c1 => ?_)
      · iterate 2 refine hX0 _ _ _ _ ?_
        exact h0 v (by rw [z3, show m = e - p by omega])
      · exfalso
        rw [fa_le] at c1
        omega
    | succ cc ih =>
      intro m v z1 z2 z3
      have hJ : (nI (p + m)).toInt = ((p + m : Nat) : Int) := nI_toInt (by omega)
      have hcj : (nI (p + m)).toNatClampNeg = p + m := nI_clamp (by omega)
      iterate 3 refine hX0 _ _ _ _ ?_
      refine And.intro (fun c1 => ?_) (fun c1 => ?_)
      · exfalso
        rw [fa_le] at c1
        omega
      · iterate 7 refine hX0 _ _ _ _ ?_
        refine And.intro (by exact vp_in_nI (by omega) (by omega)) ?_
        rw [hcj]
        iterate 8 refine hX0 _ _ _ _ ?_
        rw [nI_1]
        refine ih (m + 1) _ (by omega) (by omega) ?_
        have hb := zNv_b (g := a 23) (p := p) m (fun i hi => hd (p + i) (by omega) (by omega))
        have hx := hd (p + m) (by omega) (by omega)
        unfold zdg at hx
        show _ = min (zNv (a 23) p m * 10 + (a 23 (p + m)).toInt - 48) 1001
        rw [← z3] at hb ⊢
        exact num_step hb hx
  iterate 4 refine hX0 _ _ _ _ ?_
  exact key _ 0 0 rfl (by omega) rfl

set_option maxRecDepth 100000 in
theorem x_signTok {d : Nat} {x : Int32} {h : zH} {Q : zQ} (h0 : ∀ v, zTg x v → Q (some (.int v)) h) : zG (d + 1) 55 [.int x] h Q := by
  refine g_55 (Nat.le_of_ble_eq_true rfl) ?_
  intro X0 hX0
  iterate 2 refine hX0 _ _ _ _ ?_
  refine And.intro (fun c1 => ?_) (fun c1 => And.intro (fun c2 => ?_) (fun c2 => And.intro (fun c3 => ?_) (fun c3 => And.intro (fun c4 => ?_) (fun c4 => ?_))))
  all_goals iterate 2 refine hX0 _ _ _ _ ?_
  · exact h0 _ (Or.inl ⟨c1, rfl⟩)
  · exact h0 _ (Or.inr (Or.inl ⟨c2, rfl⟩))
  · exact h0 _ (Or.inr (Or.inr (Or.inl ⟨c3, rfl⟩)))
  · exact h0 _ (Or.inr (Or.inr (Or.inr (Or.inl ⟨c4, rfl⟩))))
  · exact h0 _ (Or.inr (Or.inr (Or.inr (Or.inr ⟨c1, c2, c3, c4, rfl⟩))))
