/-! THE WHOLE STEP, AND A METHOD OUT OF ITS RUN -/
theorem zfind_inv {k : zE → Prop} {pc : Nat} : ∀ {code : List zE}, zfind code pc k → ∃ r ∈ code, r.1 = pc ∧ k r
  | [], h => h.elim
  | r :: code, h => by
    unfold zfind at h
    split at h
    · next e => exact ⟨r, List.mem_cons_self, e, h⟩
    · obtain ⟨r', h1, h2⟩ := zfind_inv h
      exact ⟨r', List.mem_cons_of_mem _ h1, h2⟩
theorem zcall_inv {b : Nat} {S : List Value} {K : List Value → List Value → Prop} (h : zpop b [] S (fun av S => if zcat S ≤ 8 then K av S else False)) : ∃ av rest, S = av.reverse ++ rest ∧ av.length = b ∧ zcat rest ≤ 8 ∧ K av rest := by
  obtain ⟨Y, S', h1, h2, h3⟩ := zpop_inv b [] S _ h
  rw [List.append_nil] at h3
  by_cases hc : zcat S' ≤ 8
  · rw [if_pos hc] at h3
    exact ⟨Y.reverse, S', by simpa using h2, by simpa using h1, hc, h3⟩
  · rw [if_neg hc] at h3
    exact h3.elim
theorem zcl_inv {o k : Nat} {v : Value} (h : (zcl o).any (fun q => decide (q.1 = (k, v))) = true) : ∃ i, ((k, v), i) ∈ zcl o := by
  obtain ⟨⟨q, i⟩, hq, e⟩ := List.any_eq_true.mp h
  have e : q = (k, v) := of_decide_eq_true e
  subst e
  exact ⟨i, hq⟩
theorem zcl_int {o k : Nat} {v : Int32} (h : (zcl o).any (fun q => decide (q.1 = (k, .int v))) = true) : Cond.constant (zow o) k v ∈ ztb := by
  obtain ⟨i, hq⟩ := zcl_inv h
  exact zIn_mem (i := i) (List.all_eq_true.mp (zc_all o) _ hq)
theorem zcl_long {o k : Nat} {v : Int64} (h : (zcl o).any (fun q => decide (q.1 = (k, .long v))) = true) : Cond.constantLong (zow o) k v ∈ ztb := by
  obtain ⟨i, hq⟩ := zcl_inv h
  exact zIn_mem (i := i) (List.all_eq_true.mp (zc_all o) _ hq)
theorem zfl_inv {o : Nat} {x : Nat × Nat × Nat} (h : (zfl o).any (fun q => decide (q.1 = x)) = true) : ∃ z, (x, z) ∈ zfl o := by
  obtain ⟨⟨q, i⟩, hq, e⟩ := List.any_eq_true.mp h
  have e : q = x := of_decide_eq_true e
  subst e
  exact ⟨i, hq⟩
theorem zml_inv {o : Nat} {x : Nat × Nat} (h : (zml o).any (fun q => decide (q.1 = x)) = true) : ∃ z, (x, z) ∈ zml o := by
  obtain ⟨⟨q, i⟩, hq, e⟩ := List.any_eq_true.mp h
  have e : q = x := of_decide_eq_true e
  subst e
  exact ⟨i, hq⟩
theorem zcopy_inv {S : List Value} {h : zH} {k : List Value → zH → Prop} (hz : zarraycopy S h k) : ∃ (nn dp : Int32) (q1 : Nat) (sp : Int32) (q0 : Nat) (S' : List Value) (n0 : Nat) (f : Nat → Int32) (n1 : Nat) (g : Nat → Int32), S = .int nn :: .int dp :: .ref q1 :: .int sp :: .ref q0 :: S' ∧ h[q0]? = some (.inl (0, n0, .inl f)) ∧ h[q1]? = some (.inl (0, n1, .inl g)) ∧ (¬ sp < 0 ∧ ¬ dp < 0 ∧ ¬ nn < 0 ∧ sp.toNatClampNeg + nn.toNatClampNeg ≤ n0 ∧ dp.toNatClampNeg + nn.toNatClampNeg ≤ n1) ∧ k S' (h.set q1 (.inl (0, n1, .inl (va_cpy f g sp.toNatClampNeg dp.toNatClampNeg nn.toNatClampNeg)))) := by
  unfold zarraycopy at hz
  split at hz
  · obtain ⟨n0, f, hf, hz⟩ := zarr_inv hz
    obtain ⟨n1, g, hg, hz⟩ := zarr_inv hz
    exact ⟨_, _, _, _, _, _, n0, f, n1, g, rfl, hf, hg, hz.1, hz.2⟩
  · exact hz.elim
theorem zret_inv {S : List Value} {K : Int32 → Prop} (hz : match S with
    | [.int x] => K x
    | _ => False) : ∃ x, S = [.int x] ∧ K x := by
  split at hz
  · exact ⟨_, rfl, hz⟩
  · exact hz.elim
section ZALL
variable {p : Program} {l : Launch} {e : Env} {R : Room} {s : State} {m : MethodId} {args : Array Value} {below : List Frame} {meth : Method} {c : Code} {D : va_G} {ad : Nat → Nat} {cA : Nat → ClassId} {n nL : Nat} {cc : ByteArray} {o : Nat}
theorem zs_st {Γ : Nat → zT} {Q : zQ} {pc k a b : Nat} {v : Value} {L : zL} {S : List Value} {h : zH} {ret : Option FieldType} (C : zCx (zow o) cc nL D ad cA n p s m meth c) (hΓ : ∀ j, zMet l j (Γ j)) (hd : decode cc pc = .ok (.invokestatic k, 3)) (h1 : ((zml o).any (fun q => decide (q.1 = (k, a))) && (match zms[a]? with
      | some (_, _, mx, _, st, n, f, w) => st && decide (n = b) && decide (f + 1 ≤ R.frames) && decide (8 + (mx + 11) + w ≤ R.locals)
      | none => false)) = true) (hz : zpop b [] S (fun av S => if zcat S ≤ 8 then Γ a av h (fun r h => zAt p l e R s m args below meth c D ad cA n nL (zQc D ad cA n Q) (pc + 3) L (zpush r S) h) else False)) : zAt p l e R s m args below meth c D ad cA n nL (zQc D ad cA n Q) pc L S h := by
  rw [Bool.and_eq_true] at h1
  obtain ⟨z, hq⟩ := zml_inv h1.1
  have h2 := h1.2
  split at h2
  · next y bytes mx ret st nn f w e0 =>
    simp only [Bool.and_eq_true, decide_eq_true_eq] at h2
    obtain ⟨⟨⟨h3, h4⟩, h5⟩, h6⟩ := h2
    obtain ⟨av, rest, rfl, e1, e2, e3⟩ := zcall_inv hz
    exact zs_static C hd hq e0 h3 (h4.trans e1.symm) h5 h6 (hΓ a) e2 e3
  · cases h2
theorem z_sound {code : List zE} {Γ : Nat → zT} {Q : zQ} {ret : Option FieldType} (C : zCx (zow o) cc nL D ad cA n p s m meth c) (hret : meth.sig.returnType = ret) (hΓ : ∀ j, zMet l j (Γ j)) (hcode : code.all (zok o cc nL R.frames R.locals ret) = true) : ∀ (pc : Nat) (L : zL) (S : List Value) (h : zH), zstep code Γ Q (zAt p l e R s m args below meth c D ad cA n nL (zQc D ad cA n Q)) pc L S h → zAt p l e R s m args below meth c D ad cA n nL (zQc D ad cA n Q) pc L S h := by
  intro pc L S h hs
  obtain ⟨⟨pc0, nx, i, a, b, v⟩, hr, hpc, hz⟩ := zfind_inv hs
  have hpc : pc0 = pc := hpc
  subst hpc
  have ok : zok o cc nL R.frames R.locals ret (pc0, nx, i, a, b, v) = true := List.all_eq_true.mp hcode _ hr
  have hz : zi Γ Q (zAt p l e R s m args below meth c D ad cA n nL (zQc D ad cA n Q)) pc0 nx i a b v L S h := hz
  cases i with
  | iconst d =>
    obtain ⟨hd, hnx, h1⟩ := zokP_inv (show zokP o cc nL R.frames R.locals ret pc0 nx (.iconst d) a b v = true from ok)
    subst hnx
    have hv : v = .int (Int32.ofInt d) := of_decide_eq_true h1
    subst hv
    exact zs_iconst C hd hz
  | bipush d =>
    obtain ⟨hd, hnx, h1⟩ := zokP_inv (show zokP o cc nL R.frames R.locals ret pc0 nx (.bipush d) a b v = true from ok)
    subst hnx
    have hv : v = .int (Int8.ofInt d).toInt32 := of_decide_eq_true h1
    subst hv
    exact zs_bipush C hd hz
  | sipush d =>
    obtain ⟨hd, hnx, h1⟩ := zokP_inv (show zokP o cc nL R.frames R.locals ret pc0 nx (.sipush d) a b v = true from ok)
    subst hnx
    have hv : v = .int (Int16.ofInt d).toInt32 := of_decide_eq_true h1
    subst hv
    exact zs_sipush C hd hz
  | lconst d =>
    obtain ⟨hd, hnx, h1⟩ := zokP_inv (show zokP o cc nL R.frames R.locals ret pc0 nx (.lconst d) a b v = true from ok)
    subst hnx
    have hv : v = .long (Int64.ofNat (d : Nat)) := of_decide_eq_true h1
    subst hv
    exact zs_lconst C hd hz
  | ldc k =>
    obtain ⟨hd, hnx, h1⟩ := zokP_inv (show zokP o cc nL R.frames R.locals ret pc0 nx (.ldc k) a b v = true from ok)
    subst hnx
    cases v with
    | ref r =>
      have h2 : (decide (o = 4) && zstr.any (fun q => decide (q.1 = k) && decide (q.2.2 = r))) = true := h1
      rw [Bool.and_eq_true, decide_eq_true_eq] at h2
      obtain ⟨h3, h4⟩ := h2
      subst h3
      obtain ⟨q, hq, e1⟩ := List.any_eq_true.mp h4
      rw [Bool.and_eq_true, decide_eq_true_eq, decide_eq_true_eq] at e1
      obtain ⟨e1, e2⟩ := e1
      subst e1
      subst e2
      exact zs_ldcS hq C hd hz
    | int x => exact zs_ldc C (zcl_int h1) hd hz
    | _ => cases h1
  | ldc_w k =>
    obtain ⟨hd, hnx, h1⟩ := zokP_inv (show zokP o cc nL R.frames R.locals ret pc0 nx (.ldc_w k) a b v = true from ok)
    subst hnx
    cases v with
    | int x => exact zs_ldcw C (zcl_int h1) hd hz
    | _ => cases h1
  | ldc2_w k =>
    obtain ⟨hd, hnx, h1⟩ := zokP_inv (show zokP o cc nL R.frames R.locals ret pc0 nx (.ldc2_w k) a b v = true from ok)
    subst hnx
    cases v with
    | long x => exact zs_ldc2 C (zcl_long h1) hd hz
    | _ => cases h1
  | iload k =>
    obtain ⟨hd, hnx, h1⟩ := zokP_inv (show zokP o cc nL R.frames R.locals ret pc0 nx (.iload k) a b v = true from ok)
    subst hnx
    have ha : a = k := of_decide_eq_true h1
    subst ha
    obtain ⟨w, hm, hk⟩ := zget_inv ad L a 0 _ hz
    obtain ⟨x, S', e0, hk⟩ := z1i_inv hk
    cases e0
    exact zs_iload C hd hm hk
  | iload_n k =>
    obtain ⟨hd, hnx, h1⟩ := zokP_inv (show zokP o cc nL R.frames R.locals ret pc0 nx (.iload_n k) a b v = true from ok)
    subst hnx
    have ha : (k : Nat) = a := of_decide_eq_true h1
    obtain ⟨w, hm, hk⟩ := zget_inv ad L a 0 _ hz
    obtain ⟨x, S', e0, hk⟩ := z1i_inv hk
    cases e0
    exact zs_iload_n C hd ha hm hk
  | lload k =>
    obtain ⟨hd, hnx, h1⟩ := zokP_inv (show zokP o cc nL R.frames R.locals ret pc0 nx (.lload k) a b v = true from ok)
    subst hnx
    have ha : a = k := of_decide_eq_true h1
    subst ha
    obtain ⟨w, hm, hk⟩ := zget_inv ad L a 0 _ hz
    obtain ⟨x, S', e0, hk⟩ := z1l_inv hk
    cases e0
    exact zs_lload C hd hm hk
  | lload_n k =>
    obtain ⟨hd, hnx, h1⟩ := zokP_inv (show zokP o cc nL R.frames R.locals ret pc0 nx (.lload_n k) a b v = true from ok)
    subst hnx
    have ha : (k : Nat) = a := of_decide_eq_true h1
    obtain ⟨w, hm, hk⟩ := zget_inv ad L a 0 _ hz
    obtain ⟨x, S', e0, hk⟩ := z1l_inv hk
    cases e0
    exact zs_lload_n C hd ha hm hk
  | aload k =>
    obtain ⟨hd, hnx, h1⟩ := zokP_inv (show zokP o cc nL R.frames R.locals ret pc0 nx (.aload k) a b v = true from ok)
    subst hnx
    have ha : a = k := of_decide_eq_true h1
    subst ha
    obtain ⟨w, hm, hk⟩ := zget_inv ad L a 0 _ hz
    obtain ⟨x, S', e0, hk⟩ := z1r_inv hk
    cases e0
    exact zs_aload C hd hm hk
  | aload_n k =>
    obtain ⟨hd, hnx, h1⟩ := zokP_inv (show zokP o cc nL R.frames R.locals ret pc0 nx (.aload_n k) a b v = true from ok)
    subst hnx
    have ha : (k : Nat) = a := of_decide_eq_true h1
    obtain ⟨w, hm, hk⟩ := zget_inv ad L a 0 _ hz
    obtain ⟨x, S', e0, hk⟩ := z1r_inv hk
    cases e0
    exact zs_aload_n C hd ha hm hk
  | istore k =>
    obtain ⟨hd, hnx, h1⟩ := zokP_inv (show zokP o cc nL R.frames R.locals ret pc0 nx (.istore k) a b v = true from ok)
    subst hnx
    have h1 : (decide (a = k) && decide (a < nL)) = true := h1
    rw [Bool.and_eq_true, decide_eq_true_eq, decide_eq_true_eq] at h1
    obtain ⟨ha, hb⟩ := h1
    subst ha
    obtain ⟨x, S', rfl, hk⟩ := z1i_inv hz
    obtain ⟨L', hk, hL⟩ := zset_inv ad L a 0 _ _ hk
    exact zs_istore C hd hb hL hk
  | istore_n k =>
    obtain ⟨hd, hnx, h1⟩ := zokP_inv (show zokP o cc nL R.frames R.locals ret pc0 nx (.istore_n k) a b v = true from ok)
    subst hnx
    have h1 : (decide ((k : Nat) = a) && decide (a < nL)) = true := h1
    rw [Bool.and_eq_true, decide_eq_true_eq, decide_eq_true_eq] at h1
    obtain ⟨ha, hb⟩ := h1
    obtain ⟨x, S', rfl, hk⟩ := z1i_inv hz
    obtain ⟨L', hk, hL⟩ := zset_inv ad L a 0 _ _ hk
    exact zs_istore_n C hd ha hb hL hk
  | astore_n k =>
    obtain ⟨hd, hnx, h1⟩ := zokP_inv (show zokP o cc nL R.frames R.locals ret pc0 nx (.astore_n k) a b v = true from ok)
    subst hnx
    have h1 : (decide ((k : Nat) = a) && decide (a < nL)) = true := h1
    rw [Bool.and_eq_true, decide_eq_true_eq, decide_eq_true_eq] at h1
    obtain ⟨ha, hb⟩ := h1
    obtain ⟨x, S', rfl, hk⟩ := z1r_inv hz
    obtain ⟨L', hk, hL⟩ := zset_inv ad L a 0 _ _ hk
    exact zs_astore_n C hd ha hb hL hk
  | lstore k =>
    obtain ⟨hd, hnx, h1⟩ := zokP_inv (show zokP o cc nL R.frames R.locals ret pc0 nx (.lstore k) a b v = true from ok)
    subst hnx
    have h1 : (decide (a = k) && decide (a + 1 < nL)) = true := h1
    rw [Bool.and_eq_true, decide_eq_true_eq, decide_eq_true_eq] at h1
    obtain ⟨ha, hb⟩ := h1
    subst ha
    obtain ⟨x, S', rfl, hk⟩ := z1l_inv hz
    obtain ⟨L1, hk, hL1⟩ := zset_inv ad L a 0 _ _ hk
    obtain ⟨L2, hk, hL2⟩ := zclr_inv ad L1 (a + 1) 0 _ hk
    have hL : ∀ q ∈ zla ad 0 L2, q = (0 + a, zv ad (.long x)) ∨ (q ∈ zla ad 0 L ∧ q.1 ≠ 0 + a ∧ ¬ (q.1 + 1 = 0 + a ∧ q.2.category = 2)) ∧ q.1 ≠ 0 + (a + 1) := by
      intro q hq
      obtain ⟨q1, q2⟩ := hL2 q hq
      rcases hL1 q q1 with e0 | e0
      · exact Or.inl e0
      · exact Or.inr ⟨e0, q2⟩
    exact zs_lstore C hd hb hL hk
  | lstore_n k =>
    obtain ⟨hd, hnx, h1⟩ := zokP_inv (show zokP o cc nL R.frames R.locals ret pc0 nx (.lstore_n k) a b v = true from ok)
    subst hnx
    have h1 : (decide ((k : Nat) = a) && decide (a + 1 < nL)) = true := h1
    rw [Bool.and_eq_true, decide_eq_true_eq, decide_eq_true_eq] at h1
    obtain ⟨ha, hb⟩ := h1
    obtain ⟨x, S', rfl, hk⟩ := z1l_inv hz
    obtain ⟨L1, hk, hL1⟩ := zset_inv ad L a 0 _ _ hk
    obtain ⟨L2, hk, hL2⟩ := zclr_inv ad L1 (a + 1) 0 _ hk
    have hL : ∀ q ∈ zla ad 0 L2, q = (0 + a, zv ad (.long x)) ∨ (q ∈ zla ad 0 L ∧ q.1 ≠ 0 + a ∧ ¬ (q.1 + 1 = 0 + a ∧ q.2.category = 2)) ∧ q.1 ≠ 0 + (a + 1) := by
      intro q hq
      obtain ⟨q1, q2⟩ := hL2 q hq
      rcases hL1 q q1 with e0 | e0
      · exact Or.inl e0
      · exact Or.inr ⟨e0, q2⟩
    exact zs_lstore_n C hd ha hb hL hk
  | iinc k d =>
    obtain ⟨hd, hnx, h1⟩ := zokP_inv (show zokP o cc nL R.frames R.locals ret pc0 nx (.iinc k d) a b v = true from ok)
    subst hnx
    have h1 : (decide (a = k) && decide (a < nL) && decide (v = .int (Int32.ofInt d))) = true := h1
    rw [Bool.and_eq_true, Bool.and_eq_true, decide_eq_true_eq, decide_eq_true_eq, decide_eq_true_eq] at h1
    obtain ⟨⟨ha, hb⟩, hv⟩ := h1
    subst ha
    subst hv
    obtain ⟨w, hm, hk⟩ := zget_inv ad L a 0 _ hz
    obtain ⟨x, y, S', e0, hk⟩ := z2i_inv hk
    cases e0
    obtain ⟨L', hk, hL⟩ := zset_inv ad L a 0 _ _ hk
    exact zs_iinc C hd hb hm hL hk
  | iadd =>
    obtain ⟨hd, hnx, h1⟩ := zokP_inv (show zokP o cc nL R.frames R.locals ret pc0 nx .iadd a b v = true from ok)
    subst hnx
    obtain ⟨x, y, S', rfl, hk⟩ := z2i_inv hz
    exact zs_iadd C hd hk
  | isub =>
    obtain ⟨hd, hnx, h1⟩ := zokP_inv (show zokP o cc nL R.frames R.locals ret pc0 nx .isub a b v = true from ok)
    subst hnx
    obtain ⟨x, y, S', rfl, hk⟩ := z2i_inv hz
    exact zs_isub C hd hk
  | imul =>
    obtain ⟨hd, hnx, h1⟩ := zokP_inv (show zokP o cc nL R.frames R.locals ret pc0 nx .imul a b v = true from ok)
    subst hnx
    obtain ⟨x, y, S', rfl, hk⟩ := z2i_inv hz
    exact zs_imul C hd hk
  | iand =>
    obtain ⟨hd, hnx, h1⟩ := zokP_inv (show zokP o cc nL R.frames R.locals ret pc0 nx .iand a b v = true from ok)
    subst hnx
    obtain ⟨x, y, S', rfl, hk⟩ := z2i_inv hz
    exact zs_iand C hd hk
  | ior =>
    obtain ⟨hd, hnx, h1⟩ := zokP_inv (show zokP o cc nL R.frames R.locals ret pc0 nx .ior a b v = true from ok)
    subst hnx
    obtain ⟨x, y, S', rfl, hk⟩ := z2i_inv hz
    exact zs_ior C hd hk
  | ixor =>
    obtain ⟨hd, hnx, h1⟩ := zokP_inv (show zokP o cc nL R.frames R.locals ret pc0 nx .ixor a b v = true from ok)
    subst hnx
    obtain ⟨x, y, S', rfl, hk⟩ := z2i_inv hz
    exact zs_ixor C hd hk
  | ishl =>
    obtain ⟨hd, hnx, h1⟩ := zokP_inv (show zokP o cc nL R.frames R.locals ret pc0 nx .ishl a b v = true from ok)
    subst hnx
    obtain ⟨x, y, S', rfl, hk⟩ := z2i_inv hz
    exact zs_ishl C hd hk
  | ishr =>
    obtain ⟨hd, hnx, h1⟩ := zokP_inv (show zokP o cc nL R.frames R.locals ret pc0 nx .ishr a b v = true from ok)
    subst hnx
    obtain ⟨x, y, S', rfl, hk⟩ := z2i_inv hz
    exact zs_ishr C hd hk
  | iushr =>
    obtain ⟨hd, hnx, h1⟩ := zokP_inv (show zokP o cc nL R.frames R.locals ret pc0 nx .iushr a b v = true from ok)
    subst hnx
    obtain ⟨x, y, S', rfl, hk⟩ := z2i_inv hz
    exact zs_iushr C hd hk
  | idiv =>
    obtain ⟨hd, hnx, h1⟩ := zokP_inv (show zokP o cc nL R.frames R.locals ret pc0 nx .idiv a b v = true from ok)
    subst hnx
    obtain ⟨x, y, S', rfl, hk⟩ := z2i_inv hz
    exact zs_idiv C hd hk.1 hk.2
  | irem =>
    obtain ⟨hd, hnx, h1⟩ := zokP_inv (show zokP o cc nL R.frames R.locals ret pc0 nx .irem a b v = true from ok)
    subst hnx
    obtain ⟨x, y, S', rfl, hk⟩ := z2i_inv hz
    exact zs_irem C hd hk.1 hk.2
  | ineg =>
    obtain ⟨hd, hnx, h1⟩ := zokP_inv (show zokP o cc nL R.frames R.locals ret pc0 nx .ineg a b v = true from ok)
    subst hnx
    obtain ⟨x, S', rfl, hk⟩ := z1i_inv hz
    exact zs_ineg C hd hk
  | i2b =>
    obtain ⟨hd, hnx, h1⟩ := zokP_inv (show zokP o cc nL R.frames R.locals ret pc0 nx .i2b a b v = true from ok)
    subst hnx
    obtain ⟨x, S', rfl, hk⟩ := z1i_inv hz
    exact zs_i2b C hd hk
  | i2l =>
    obtain ⟨hd, hnx, h1⟩ := zokP_inv (show zokP o cc nL R.frames R.locals ret pc0 nx .i2l a b v = true from ok)
    subst hnx
    obtain ⟨x, S', rfl, hk⟩ := z1i_inv hz
    exact zs_i2l C hd hk
  | l2i =>
    obtain ⟨hd, hnx, h1⟩ := zokP_inv (show zokP o cc nL R.frames R.locals ret pc0 nx .l2i a b v = true from ok)
    subst hnx
    obtain ⟨x, S', rfl, hk⟩ := z1l_inv hz
    exact zs_l2i C hd hk
  | ladd =>
    obtain ⟨hd, hnx, h1⟩ := zokP_inv (show zokP o cc nL R.frames R.locals ret pc0 nx .ladd a b v = true from ok)
    subst hnx
    obtain ⟨x, y, S', rfl, hk⟩ := z2l_inv hz
    exact zs_ladd C hd hk
  | lsub =>
    obtain ⟨hd, hnx, h1⟩ := zokP_inv (show zokP o cc nL R.frames R.locals ret pc0 nx .lsub a b v = true from ok)
    subst hnx
    obtain ⟨x, y, S', rfl, hk⟩ := z2l_inv hz
    exact zs_lsub C hd hk
  | lmul =>
    obtain ⟨hd, hnx, h1⟩ := zokP_inv (show zokP o cc nL R.frames R.locals ret pc0 nx .lmul a b v = true from ok)
    subst hnx
    obtain ⟨x, y, S', rfl, hk⟩ := z2l_inv hz
    exact zs_lmul C hd hk
  | lcmp =>
    obtain ⟨hd, hnx, h1⟩ := zokP_inv (show zokP o cc nL R.frames R.locals ret pc0 nx .lcmp a b v = true from ok)
    subst hnx
    obtain ⟨x, y, S', rfl, hk⟩ := z2l_inv hz
    exact zs_lcmp C hd hk
  | lshl =>
    obtain ⟨hd, hnx, h1⟩ := zokP_inv (show zokP o cc nL R.frames R.locals ret pc0 nx .lshl a b v = true from ok)
    subst hnx
    obtain ⟨x, y, S', rfl, hk⟩ := zil_inv hz
    exact zs_lshl C hd hk
  | dup =>
    obtain ⟨hd, hnx, h1⟩ := zokP_inv (show zokP o cc nL R.frames R.locals ret pc0 nx .dup a b v = true from ok)
    subst hnx
    cases S with
    | nil => exact (show False from hz).elim
    | cons u S =>
      obtain ⟨hu, hk⟩ := z1w_inv ad (show z1w u _ from hz)
      exact zs_dup C hu hd hk
  | dup2 =>
    obtain ⟨hd, hnx, h1⟩ := zokP_inv (show zokP o cc nL R.frames R.locals ret pc0 nx .dup2 a b v = true from ok)
    subst hnx
    cases S with
    | nil => exact (show False from hz).elim
    | cons u S => cases S with
      | nil => exact (show False from hz).elim
      | cons w S =>
        obtain ⟨hu, hk⟩ := z1w_inv ad (show z1w u _ from hz)
        obtain ⟨hw, hk⟩ := z1w_inv ad hk
        exact zs_dup2 C hu hw hd hk
  | goto off =>
    obtain ⟨hd, hnx, h1⟩ := zokP_inv (show zokP o cc nL R.frames R.locals ret pc0 nx (.goto off) a b v = true from ok)
    subst hnx
    exact zs_goto C hd (of_decide_eq_true h1) hz
  | ifCond q off =>
    obtain ⟨hd, hnx, h1⟩ := zokP_inv (show zokP o cc nL R.frames R.locals ret pc0 nx (.ifCond q off) a b v = true from ok)
    subst hnx
    obtain ⟨x, S', rfl, hk⟩ := z1i_inv hz
    cases q
    · exact zs_if_eq C hd (of_decide_eq_true h1) hk
    · exact zs_if_ne C hd (of_decide_eq_true h1) hk
    · exact zs_if_lt C hd (of_decide_eq_true h1) hk
    · exact zs_if_ge C hd (of_decide_eq_true h1) hk
    · exact zs_if_gt C hd (of_decide_eq_true h1) hk
    · exact zs_if_le C hd (of_decide_eq_true h1) hk
  | if_icmp q off =>
    obtain ⟨hd, hnx, h1⟩ := zokP_inv (show zokP o cc nL R.frames R.locals ret pc0 nx (.if_icmp q off) a b v = true from ok)
    subst hnx
    obtain ⟨x, y, S', rfl, hk⟩ := z2i_inv hz
    cases q
    · exact zs_icmp_eq C hd (of_decide_eq_true h1) hk
    · exact zs_icmp_ne C hd (of_decide_eq_true h1) hk
    · exact zs_icmp_lt C hd (of_decide_eq_true h1) hk
    · exact zs_icmp_ge C hd (of_decide_eq_true h1) hk
    · exact zs_icmp_gt C hd (of_decide_eq_true h1) hk
    · exact zs_icmp_le C hd (of_decide_eq_true h1) hk
  | getfield k =>
    obtain ⟨hd, hnx, h1⟩ := zokP_inv (show zokP o cc nL R.frames R.locals ret pc0 nx (.getfield k) a b v = true from ok)
    subst hnx
    obtain ⟨z, hq⟩ := zfl_inv h1
    obtain ⟨r, S', rfl, hk⟩ := z1r_inv hz
    obtain ⟨fs, hr0, hk⟩ := zobj_inv hk
    obtain ⟨w, hw, hk⟩ := zfld_inv hk
    exact zs_get C hd hq hr0 hw hk
  | putfield k =>
    obtain ⟨hd, hnx, h1⟩ := zokP_inv (show zokP o cc nL R.frames R.locals ret pc0 nx (.putfield k) a b v = true from ok)
    subst hnx
    have h1 : ((zfl o).any (fun q => decide (q.1 = (k, a, b))) && (match vwCl[a]? with
        | some q => decide ((q.2.1 b).2.2.2 = false)
        | none => false) && ztg (ztyp a b) v) = true := h1
    rw [Bool.and_eq_true, Bool.and_eq_true] at h1
    obtain ⟨⟨h1, h2⟩, h3⟩ := h1
    obtain ⟨z, hq⟩ := zfl_inv h1
    obtain ⟨r, u, S', rfl, hk⟩ := zvr_inv hz
    obtain ⟨fs, hr0, hk⟩ := zobj_inv hk
    obtain ⟨w, hw, hk⟩ := zfld_inv hk
    split at h2
    · next q0 e0 => exact zs_putf (K := True) C hd hq e0 (of_decide_eq_true h2) h3 hr0 hw hk
    · cases h2
  | iaload =>
    obtain ⟨hd, hnx, h1⟩ := zokP_inv (show zokP o cc nL R.frames R.locals ret pc0 nx .iaload a b v = true from ok)
    subst hnx
    obtain ⟨r, j, S', rfl, hk⟩ := zir_inv hz
    obtain ⟨N, f, hr0, hk⟩ := zarr_inv hk
    exact zs_iald C hd hr0 hk.1 hk.2
  | baload =>
    obtain ⟨hd, hnx, h1⟩ := zokP_inv (show zokP o cc nL R.frames R.locals ret pc0 nx .baload a b v = true from ok)
    subst hnx
    obtain ⟨r, j, S', rfl, hk0⟩ := zir_inv hz
    obtain ⟨N, f, hr0, hk⟩ := zarr_inv hk0
    have h1 : (decide (a = 1) || decide (a = 2)) = true := h1
    rw [Bool.or_eq_true, decide_eq_true_eq, decide_eq_true_eq] at h1
    rcases h1 with h1 | h1
    · subst h1
      exact zs_zald C hd hr0 hk.1 hk.2
    · subst h1
      exact zs_bald C hd hr0 hk.1 hk.2
  | laload =>
    obtain ⟨hd, hnx, h1⟩ := zokP_inv (show zokP o cc nL R.frames R.locals ret pc0 nx .laload a b v = true from ok)
    subst hnx
    obtain ⟨r, j, S', rfl, hk⟩ := zir_inv hz
    obtain ⟨N, f, hr0, hk⟩ := zarl_inv hk
    exact zs_lald C hd hr0 hk.1 hk.2
  | iastore =>
    obtain ⟨hd, hnx, h1⟩ := zokP_inv (show zokP o cc nL R.frames R.locals ret pc0 nx .iastore a b v = true from ok)
    subst hnx
    obtain ⟨r, j, x, S', rfl, hk⟩ := ziir_inv hz
    obtain ⟨N, f, hr0, hk⟩ := zarr_inv hk
    exact zs_iast C hd hr0 hk.1 hk.2
  | bastore =>
    obtain ⟨hd, hnx, h1⟩ := zokP_inv (show zokP o cc nL R.frames R.locals ret pc0 nx .bastore a b v = true from ok)
    subst hnx
    obtain ⟨r, j, x, S', rfl, hk0⟩ := ziir_inv hz
    obtain ⟨N, f, hr0, hk⟩ := zarr_inv hk0
    have h1 : (decide (a = 1) || decide (a = 2)) = true := h1
    rw [Bool.or_eq_true, decide_eq_true_eq, decide_eq_true_eq] at h1
    rcases h1 with h1 | h1
    · subst h1
      exact zs_zast C hd hr0 hk.1 hk.2
    · subst h1
      exact zs_bast C hd hr0 hk.1 hk.2
  | lastore =>
    obtain ⟨hd, hnx, h1⟩ := zokP_inv (show zokP o cc nL R.frames R.locals ret pc0 nx .lastore a b v = true from ok)
    subst hnx
    obtain ⟨r, j, x, S', rfl, hk⟩ := zlir_inv hz
    obtain ⟨N, f, hr0, hk⟩ := zarl_inv hk
    exact zs_last C hd hr0 hk.1 hk.2
  | invokestatic k =>
    obtain ⟨hd, hnx, h1⟩ := zokP_inv (show zokP o cc nL R.frames R.locals ret pc0 nx (.invokestatic k) a b v = true from ok)
    subst hnx
    cases v with
    | long x =>
      have h1 : (zIn a (.methodLink (zow o) k arraycopyName) && decide (1 ≤ R.frames) && decide (8 + (nativeFrameWords "java/lang/System" "arraycopy" 5 + 11) ≤ R.locals)) = true := h1
      rw [Bool.and_eq_true, Bool.and_eq_true, decide_eq_true_eq, decide_eq_true_eq] at h1
      obtain ⟨⟨h1, h2⟩, h3⟩ := h1
      have hz : zarraycopy S h (fun S h => if zcat S ≤ 8 then zAt p l e R s m args below meth c D ad cA n nL (zQc D ad cA n Q) (pc0 + 3) L S h else False) := hz
      obtain ⟨nn, dp, q1, sp, q0, S', n0, f, n1, g, rfl, hf, hg, hb, hz⟩ := zcopy_inv hz
      by_cases hc : zcat S' ≤ 8
      · rw [if_pos hc] at hz
        exact zs_copy (pos := a) C hd (zIn_mem h1) h2 h3 hc hf hg hb hz
      · rw [if_neg hc] at hz
        exact hz.elim
    | float x =>
      have h1 : (zIn a (.methodLink (zow o) k Lib.Math.min.name) && decide (1 ≤ R.frames) && decide (8 + 13 ≤ R.locals)) = true := h1
      rw [Bool.and_eq_true, Bool.and_eq_true, decide_eq_true_eq, decide_eq_true_eq] at h1
      obtain ⟨⟨h1, h2⟩, h3⟩ := h1
      obtain ⟨x, y, S', rfl, hk⟩ := z2i_inv hz
      by_cases hc : zcat S' ≤ 8
      · rw [if_pos hc] at hk
        exact zs_min C hd (zIn_mem h1) h2 h3 hc hk
      · rw [if_neg hc] at hk
        exact hk.elim
    | double x =>
      have h1 : (zIn a (.methodLink (zow o) k Lib.Math.max.name) && decide (1 ≤ R.frames) && decide (8 + 13 ≤ R.locals)) = true := h1
      rw [Bool.and_eq_true, Bool.and_eq_true, decide_eq_true_eq, decide_eq_true_eq] at h1
      obtain ⟨⟨h1, h2⟩, h3⟩ := h1
      obtain ⟨x, y, S', rfl, hk⟩ := z2i_inv hz
      by_cases hc : zcat S' ≤ 8
      · rw [if_pos hc] at hk
        exact zs_max C hd (zIn_mem h1) h2 h3 hc hk
      · rw [if_neg hc] at hk
        exact hk.elim
    | _ => exact zs_st (v := .null) (ret := ret) C hΓ hd h1 hz
  | invokevirtual k =>
    obtain ⟨hd, hnx, h1⟩ := zokP_inv (show zokP o cc nL R.frames R.locals ret pc0 nx (.invokevirtual k) a b v = true from ok)
    subst hnx
    cases v with
    | ref ci =>
      have h1 : ((zml o).any (fun q => decide (q.1 = (k, a))) && (match zms[a]? with
          | some (y, _, mx, _, st, n, f, w) => !st && decide (n = b) && decide (f + 1 ≤ R.frames) && decide (8 + (mx + 11) + w ≤ R.locals) && decide ((vwCl[ci]?).map (fun q => q.1) = some y.cls)
          | none => false)) = true := h1
      rw [Bool.and_eq_true] at h1
      obtain ⟨z, hq⟩ := zml_inv h1.1
      have h2 := h1.2
      split at h2
      · next y bytes mx ret st nn f w e0 =>
        simp only [Bool.and_eq_true, decide_eq_true_eq, Bool.not_eq_true'] at h2
        obtain ⟨⟨⟨⟨h3, h4⟩, h5⟩, h6⟩, h7⟩ := h2
        obtain ⟨Y, S', g1, g2, g3⟩ := zpop_inv (b + 1) [] S _ hz
        rw [List.append_nil] at g3
        obtain ⟨r0, av, e1, g4⟩ := z1r_inv g3
        obtain ⟨fs, hr0, g4⟩ := zobj_inv g4
        by_cases hc : zcat S' ≤ 8
        · rw [if_pos hc, e1] at g4
          have eY : Y = av.reverse ++ [.ref r0] := by
            have := congrArg List.reverse e1
            simpa using this
          have hS : S = av.reverse ++ .ref r0 :: S' := by rw [g2, eY]; simp
          subst hS
          refine zs_virtual C hd hq e0 h3 ?_ h5 h6 h7 hr0 (hΓ a) hc g4
          have hl : av.length + 1 = b + 1 := by rw [← g1, eY]; simp
          show nn = av.length
          omega
        · rw [if_neg hc] at g4
          exact g4.elim
      · cases h2
    | _ => exact (show False from hz).elim
  | ireturn =>
    obtain ⟨hd, hnx, h1⟩ := zokP_inv (show zokP o cc nL R.frames R.locals ret pc0 nx .ireturn a b v = true from ok)
    subst hnx
    cases ret with
    | none => cases h1
    | some ty =>
      obtain ⟨x, rfl, hz⟩ := zret_inv (K := fun x => zfit v (.int x) (Q (some (.int x)) h)) hz
      exact zs_iret C hd hret h1 hz
  | return_ =>
    obtain ⟨hd, hnx, h1⟩ := zokP_inv (show zokP o cc nL R.frames R.locals ret pc0 nx .return_ a b v = true from ok)
    subst hnx
    have h1 : ret = none := of_decide_eq_true h1
    subst h1
    cases S with
    | nil => exact zs_vret C hd hret hz
    | cons u S => exact (show False from hz).elim
  | tableswitch d lo hi offs =>
    have ok : (decide (decode cc pc0 = .ok (.tableswitch d lo hi offs, b)) && decide ((pc0 : Int) + d = (a : Int)) && decide (hi = lo + (offs.size : Int) - 1) && offs.toList.all (fun o => decide (0 ≤ (pc0 : Int) + o))) = true := ok
    rw [Bool.and_eq_true, Bool.and_eq_true, Bool.and_eq_true, decide_eq_true_eq, decide_eq_true_eq, decide_eq_true_eq] at ok
    obtain ⟨⟨⟨hd, ha⟩, hsz⟩, hp⟩ := ok
    obtain ⟨x, S', rfl, hk⟩ := z1i_inv hz
    exact zs_tab C hd ha hsz (fun q hq => of_decide_eq_true (List.all_eq_true.mp hp q hq)) hk.1 hk.2
  | lookupswitch d ps =>
    have ok : (decide (decode cc pc0 = .ok (.lookupswitch d ps, b)) && decide ((pc0 : Int) + d = (a : Int)) && (ps.toList.zip (ps.toList.drop 1)).all (fun (a, next) => a.1 < next.1) && ps.toList.all (fun o => decide (0 ≤ (pc0 : Int) + o.2))) = true := ok
    rw [Bool.and_eq_true, Bool.and_eq_true, Bool.and_eq_true, decide_eq_true_eq, decide_eq_true_eq] at ok
    obtain ⟨⟨⟨hd, ha⟩, hord⟩, hp⟩ := ok
    obtain ⟨x, S', rfl, hk⟩ := z1i_inv hz
    exact zs_lkp C hd ha hord (fun q hq => of_decide_eq_true (List.all_eq_true.mp hp q hq)) hk
  | _ => exact (show False from hz).elim
end ZALL
/-! a method -/
def zaw : List Value → Nat
  | [] => 0
  | .long _ :: vs => zaw vs + 2
  | .double _ :: vs => zaw vs + 2
  | _ :: vs => zaw vs + 1
theorem zaw_len (ad : Nat → Nat) : ∀ vs : List Value, (lg_sl (vs.map (zv ad))).length = zaw vs
  | [] => rfl
  | v :: vs => by
    have ih := zaw_len ad vs
    simp only [lg_sl] at ih ⊢
    simp only [List.map_cons, List.flatMap_cons, List.length_append, ih]
    cases v <;> simp [zv, zaw, Value.category] <;> omega
theorem zent_la (ad : Nat → Nat) : ∀ (k : Nat) (vs : List Value) (n : Nat) (q : Nat × Value), q ∈ zla ad n (zent k vs) → q ∈ lv_args n (vs.map (zv ad))
  | 0, vs, n, q, h => by simp [zent, zla] at h
  | k + 1, [], n, q, h => by
    have := zent_la ad k [] (n + 1) q h
    simpa [lv_args] using this
  | k + 1, .int x :: vs, n, q, h => by
    simp only [zent, zla, List.mem_cons] at h
    simp only [List.map_cons, lv_args, List.mem_cons]
    rcases h with rfl | h
    · exact Or.inl rfl
    · exact Or.inr (zent_la ad k vs (n + 1) q h)
  | k + 1, .ref x :: vs, n, q, h => by
    simp only [zent, zla, List.mem_cons] at h
    simp only [List.map_cons, lv_args, List.mem_cons]
    rcases h with rfl | h
    · exact Or.inl rfl
    · exact Or.inr (zent_la ad k vs (n + 1) q h)
  | k + 2, .long x :: vs, n, q, h => by
    simp only [zent, zla, List.mem_cons] at h
    simp only [List.map_cons, lv_args, List.mem_cons]
    rcases h with rfl | h
    · exact Or.inl rfl
    · exact Or.inr (zent_la ad k vs (n + 2) q h)
  | 1, .long x :: vs, n, q, h => by simp [zent, zla] at h
  | k + 1, .float x :: vs, n, q, h => by
    have := zent_la ad k [] (n + 1) q h
    simp [lv_args] at this
  | k + 1, .double x :: vs, n, q, h => by
    have := zent_la ad k [] (n + 1) q h
    simp [lv_args] at this
  | k + 1, .null :: vs, n, q, h => by
    have := zent_la ad k [] (n + 1) q h
    simp [lv_args] at this
  | k + 1, .retAddr x :: vs, n, q, h => by
    have := zent_la ad k [] (n + 1) q h
    simp [lv_args] at this
theorem z_met {l : Launch} {o j : Nat} {M : zM} {code : List zE} {Γ : Nat → zT} {T : zT} (hM : zms[j]? = some M) (hown : M.1.cls = zow o) (hy : plainName M.1.cls = true) (hΓ : ∀ j, zMet l j (Γ j)) (hcode : code.all (zok o M.2.1 M.2.2.1 M.2.2.2.2.2.2.1 M.2.2.2.2.2.2.2 M.2.2.2.1) = true)
    (hT : ∀ (av : List Value) (h : zH) (Q : zQ), T av h Q → zaw av ≤ M.2.2.1 ∧ zRun code Γ Q 0 (zent M.2.2.1 av) [] h) : zMet l j T := by
  intro M' hM' D ad cA n av h Q hn hinj hTT
  have eM : M' = M := Option.some.inj (hM'.symm.trans hM)
  subst eM
  obtain ⟨hw, hrun⟩ := hT av h Q hTT
  refine Met.ofW (cc := M'.2.1) (maxL := M'.2.2.1) (ret := M'.2.2.2.1) hy rfl ?_
  intro p e s m args below meth c s₁ B hml hv
  obtain ⟨rfl, hWd, hK, hP, hSt⟩ := hv
  have hown' : s.vm.findClass (zow o) = some m.cls := by rw [← hown]; exact findClass_of_methodNamed B.named
  have C : zCx (zow o) M'.2.1 M'.2.2.1 D ad cA n p s m meth c := ⟨B.exec, B.bytes, hml, hown', hWd, hK, hinj, hSt, B.notSynchronized⟩
  have hl := lv_entry (av.map (zv ad)) (n := M'.2.2.1) (by rw [zaw_len]; exact hw)
  rw [lg_entry_eq]
  exact hrun _ (z_sound (code := code) (Γ := Γ) (Q := Q) C B.returns hΓ hcode) hn s.heap [] _ hP va_S.rf (z_fewer hl (fun q hq => zent_la ad _ av 0 q hq))
/-- no method: nothing is asked of it -/
def zF : zT := fun _ _ _ => False
theorem zF_met (l : Launch) (j : Nat) : zMet l j zF := fun _ _ _ _ _ _ _ _ _ _ _ h => h.elim
/-- an entailment between contracts -/
theorem zMet_mono {l : Launch} {j : Nat} {T T' : zT} (h : zMet l j T) (hT : ∀ av h Q, T' av h Q → T av h Q) : zMet l j T' := fun M hM D ad cA n av hh Q h1 h2 h3 => h M hM D ad cA n av hh Q h1 h2 (hT av hh Q h3)
