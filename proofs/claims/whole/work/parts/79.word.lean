/-! STRING CONSTANTS: isWord -/
theorem nI_sb {a b : Nat} (h : b ≤ a) : nI a - nI b = nI (a - b) := by
  obtain ⟨c, rfl⟩ := Nat.exists_eq_add_of_le h
  rw [show b + c - b = c by omega, ← nI_add, Int32.add_comm, Int32.add_sub_cancel]
section ZWORD7
variable {l : Launch} {D : va_G} {ad : Nat → Nat} {cA : Nat → ClassId} {n : Nat} {h : zH}
theorem zword_0 {i : Nat} {f : Nat → Int32} {p q : Nat} (h : ¬ zwordEq i f p q) : zwordB i f p q = 0 := by
  unfold zwordB
  exact if_neg h
theorem zword_1 {i : Nat} {f : Nat → Int32} {p q : Nat} (h : zwordEq i f p q) : zwordB i f p q = 1 := by
  unfold zwordB
  exact if_pos h
def zwl (i r p q : Nat) (o : Option Value) : zL := [some (.ref (1000 + i)), some (.ref r), some (.int (nI p)), some (.int (nI q)), o]
theorem zwl_0 {i r p q : Nat} {o : Option Value} : (0 + 0, zv ad (.ref (1000 + i))) ∈ zla ad 0 (zwl i r p q o) := List.mem_cons_self
theorem zwl_1 {i r p q : Nat} {o : Option Value} : (0 + 1, zv ad (.ref r)) ∈ zla ad 0 (zwl i r p q o) := List.mem_cons_of_mem _ List.mem_cons_self
theorem zwl_2 {i r p q : Nat} {o : Option Value} : (0 + 2, zv ad (.int (nI p))) ∈ zla ad 0 (zwl i r p q o) := List.mem_cons_of_mem _ (List.mem_cons_of_mem _ List.mem_cons_self)
theorem zwl_3 {i r p q : Nat} {o : Option Value} : (0 + 3, zv ad (.int (nI q))) ∈ zla ad 0 (zwl i r p q o) := List.mem_cons_of_mem _ (List.mem_cons_of_mem _ (List.mem_cons_of_mem _ List.mem_cons_self))
theorem zwl_4 {i r p q : Nat} {x : Int32} : (0 + 4, zv ad (.int x)) ∈ zla ad 0 (zwl i r p q (some (.int x))) := List.mem_cons_of_mem _ (List.mem_cons_of_mem _ (List.mem_cons_of_mem _ (List.mem_cons_of_mem _ List.mem_cons_self)))
theorem zwl_s {i r p q : Nat} {o : Option Value} {x : Int32} : ∀ u ∈ zla ad 0 (zwl i r p q (some (.int x))), u = (0 + 4, zv ad (.int x)) ∨ (u ∈ zla ad 0 (zwl i r p q o) ∧ u.1 ≠ 0 + 4 ∧ ¬ (u.1 + 1 = 0 + 4 ∧ u.2.category = 2)) := by
  intro u hu
  rcases List.mem_cons.mp hu with rfl | hu
  · exact Or.inr ⟨zwl_0, by simp, by simp⟩
  rcases List.mem_cons.mp hu with rfl | hu
  · exact Or.inr ⟨zwl_1, by simp, by simp⟩
  rcases List.mem_cons.mp hu with rfl | hu
  · exact Or.inr ⟨zwl_2, by simp, by simp⟩
  rcases List.mem_cons.mp hu with rfl | hu
  · exact Or.inr ⟨zwl_3, by simp, by simp [zv, Value.category]⟩
  rcases List.mem_cons.mp hu with rfl | hu
  · exact Or.inl rfl
  · cases hu
section ZLOOP
variable {p : Program} {e : Env} {R : Room} {s : State} {m : MethodId} {args : Array Value} {below : List Frame} {meth : Method} {c : Code} {Q : zQ} {i r b p0 q0 N : Nat} {len : Value} {f : Nat → Int32}
set_option maxRecDepth 100000 in
set_option maxHeartbeats 4000000 in
theorem word_loop (hinj : zinj ad n) (C : zCx (zow 4) cX4_isWord 5 D ad cA n p s m meth c) (hret : meth.sig.returnType = some .boolean) (hfr : 4 ≤ R.frames) (hlo : 85 ≤ R.locals) (hi : i < 8) (hr : h[r]? = some (.inr (7, [.ref b, len]))) (hb : h[b]? = some (.inl (2, N, .inl f))) (h1 : p0 ≤ q0) (h2 : q0 ≤ N) (h3 : N < 2 ^ 31) (hlen : zsl.getD i 0 = q0 - p0) (hQ : Q (some (.int (zwordB i f p0 q0))) h) : ∀ (d t : Nat), t + d = q0 → p0 ≤ t → (∀ k, k < t - p0 → f (p0 + k) = (zsb.getD i []).getD k 0) → zAt p l e R s m args below meth c D ad cA n 5 (zQc D ad cA n Q) 15 (zwl i r p0 q0 (some (.int (nI t)))) [] h := by
  intro d
  induction d with
  | zero =>
    intro t ht hp hk
    have ht : t = q0 := by omega
    subst ht
    refine zs_iload (a := 4) C dX4_isWord_15 zwl_4 (zs_iload_n (a := 3) C dX4_isWord_17 rfl zwl_3 (zs_icmp_ge (t := 47) C dX4_isWord_18 rfl ⟨fun _ => zs_iconst C dX4_isWord_47 (zs_iretJ C dX4_isWord_48 hret rfl ?_), fun z => absurd (Int32.le_refl _) z⟩))
    rw [zword_1 ⟨hlen, hk⟩] at hQ
    exact hQ
  | succ d ih =>
    intro t ht hp hk
    have hsm := zs_small i hi
    have hkk : t - p0 < zsl.getD i 0 := by omega
    have e1 : nI t - nI p0 = nI (t - p0) := nI_sb hp
    have b2 : ¬ nI q0 ≤ nI t := nI_ge (by omega) (by omega)
    refine zs_iload (a := 4) C dX4_isWord_15 zwl_4 (zs_iload_n (a := 3) C dX4_isWord_17 rfl zwl_3 (zs_icmp_ge (t := 47) C dX4_isWord_18 rfl ⟨fun z => absurd z b2, fun _ => zs_aload_n (a := 0) C dX4_isWord_21 rfl zwl_0 (zs_iload (a := 4) C dX4_isWord_22 zwl_4 (zs_iload_n (a := 2) C dX4_isWord_24 rfl zwl_2 (zs_isub C dX4_isWord_25 ?_)))⟩))
    rw [e1]
    refine zs_callS (av := [.int (nI (t - p0))]) (rest := []) (f := 3) (w := 64) (mx := 2) hi rfl C dX4_isWord_26 zl_141 zl_c_char zl_ini0 zl_i_char zl_s_char zd_char hfr hlo (Nat.le_of_ble_eq_true rfl) (fun hn => j_charAt hi hkk hn hinj (zs_aload_n (a := 1) C dX4_isWord_29 rfl zwl_1 (zs_get (ci := 7) (k := 0) (z := (true, 209)) C dX4_isWord_30 (by decide) hr rfl (zs_iload (a := 4) C dX4_isWord_33 zwl_4 (zs_bald C dX4_isWord_35 hb (vp_in_nI (show t < N by omega) (by omega)) (zs_icmp_eq (t := 41) C dX4_isWord_36 rfl ⟨fun z => ?_, fun z => zs_iconst C dX4_isWord_39 (zs_iretJ C dX4_isWord_40 hret rfl ?_)⟩))))))
    · rw [nI_clamp (by omega)] at z
      refine zs_iinc (a := 4) (d := 1) C dX4_isWord_41 (by decide) zwl_4 (L' := zwl i r p0 q0 (some (.int (nI t + Int32.ofInt 1)))) zwl_s (zs_goto (t := 15) C dX4_isWord_44 rfl ?_)
      rw [show Int32.ofInt 1 = nI 1 from rfl, nI_add]
      refine ih (t + 1) (by omega) (by omega) (fun k hk2 => ?_)
      rcases Nat.lt_or_ge k (t - p0) with hlt | hge
      · exact hk k hlt
      · have : k = t - p0 := by omega
        subst this
        rw [show p0 + (t - p0) = t by omega]
        exact z.symm
    · rw [nI_clamp (by omega)] at z
      have hne : ¬ zwordEq i f p0 q0 := by
        intro hw
        have := hw.2 (t - p0) (by omega)
        rw [show p0 + (t - p0) = t by omega] at this
        exact z this.symm
      rw [zword_0 hne] at hQ
      exact hQ
end ZLOOP
theorem zms_52 : zms[52]? = some (yX4_isWord, cX4_isWord, 5, some .boolean, true, 4, 5, 106) := rfl
set_option maxRecDepth 100000 in
set_option maxHeartbeats 4000000 in
theorem isWord_met : zMet l 52 t_isWord := by
  intro M hM D ad cA n av h Q hn hinj hT
  have hM' : (yX4_isWord, cX4_isWord, 5, some .boolean, true, 4, 5, 106) = M := Option.some.inj (zms_52.symm.trans hM)
  subst hM'
  obtain ⟨i, r, b, p0, q0, N, len, f, rfl, hi, hr, hb, h1, h2, h3, hQ⟩ := hT
  refine Met.ofW (cc := cX4_isWord) (maxL := 5) (ret := some .boolean) (by decide) rfl ?_
  intro p e s m args below meth c s₁ B hml hvv
  obtain ⟨rfl, hWd, hK, hP, hSt⟩ := hvv
  have hown' : s.vm.findClass RX4 = some m.cls := findClass_of_methodNamed B.named
  have C : zCx (zow 4) cX4_isWord 5 D ad cA n p s m meth c := ⟨B.exec, B.bytes, hml, hown', hWd, hK, hinj, hSt, B.notSynchronized⟩
  have hl := lv_entry [.ref (ad (1000 + i)), .ref (ad r), .int (nI p0), .int (nI q0)] (n := 5) (Nat.le_of_ble_eq_true rfl)
  rw [lg_entry_eq]
  have hsm := zs_small i hi
  have e1 : nI q0 - nI p0 = nI (q0 - p0) := nI_sb h1
  refine (zs_aload_n (a := 0) (L := zwl i r p0 q0 none) C dX4_isWord_0 rfl zwl_0 (zs_callS (av := []) (rest := []) (f := 1) (w := 20) (mx := 1) hi rfl C dX4_isWord_1 zl_137 zl_c_len zl_ini0 zl_i_len zl_s_len (by decide +kernel) (by decide) (by decide) (Nat.le_of_ble_eq_true rfl) (fun hn => j_length hi hn hinj (zs_iload_n (a := 3) C dX4_isWord_4 rfl zwl_3 (zs_iload_n (a := 2) C dX4_isWord_5 rfl zwl_2 (zs_isub C dX4_isWord_6 ?_)))))) hn s.heap [] _ hP va_S.rf (z_fewer hl ?_)
  · rw [e1]
    refine zs_icmp_eq (t := 12) C dX4_isWord_7 rfl ⟨fun z => ?_, fun z => zs_iconst C dX4_isWord_10 (zs_iretJ C dX4_isWord_11 B.returns rfl ?_)⟩
    · have hlen : zsl.getD i 0 = q0 - p0 := (nI_eq (by omega) (by omega)).mp z
      refine zs_iload_n (a := 2) C dX4_isWord_12 rfl zwl_2 (zs_istore (a := 4) C dX4_isWord_13 (by decide) (L' := zwl i r p0 q0 (some (.int (nI p0)))) zwl_s ?_)
      exact word_loop hinj C B.returns (Nat.le_of_ble_eq_true rfl) (Nat.le_of_ble_eq_true rfl) hi hr hb h1 h2 h3 hlen hQ (q0 - p0) p0 (by omega) (Nat.le_refl _) (fun k hk => by omega)
    · have hne : ¬ zwordEq i f p0 q0 := by
        intro hw
        exact z (by rw [hw.1])
      rw [zword_0 hne] at hQ
      exact hQ
  · intro u hu
    exact hu
end ZWORD7
