/-! STRING CONSTANTS: length, checkIndex, charAt -/
theorem zl_335 : Cond.methodLink RJ0 335 yJ0_coder_7d493 ∈ ztb := zt_3 156 rfl rfl
theorem zl_492 : Cond.methodLink RJ0 492 yJ0_isLatin1_aae02 ∈ ztb := zt_3 166 rfl rfl
theorem zl_495 : Cond.methodLink RJ0 495 yJ1_charAt_3b067 ∈ ztb := zt_3 170 rfl rfl
theorem zl_1059 : Cond.methodLink RJ0 1059 yJ3_checkIndex_8e157 ∈ ztb := zt_3 178 rfl rfl
theorem zl_J1_9 : Cond.methodLink RJ1 9 yJ0_checkIndex_df160 ∈ ztb := zt_3 173 rfl rfl
theorem zl_1053 : Cond.fieldLink RJ0 1053 "jdk/internal/util/Preconditions" "SIOOBE_FORMATTER" "Ljava/util/function/BiFunction;" ∈ ztb := zt_3 176 rfl rfl
theorem zl_137 : Cond.methodLink RX4 137 yJ0_length_8abf5 ∈ ztb := zt_3 152 rfl rfl
theorem zl_141 : Cond.methodLink RX4 141 yJ0_charAt_5068e ∈ ztb := zt_3 162 rfl rfl
theorem zl_ini0 : Cond.initialized RJ0 ∈ ztb := zt_1 14 rfl rfl
theorem zl_ini1 : Cond.initialized RJ1 ∈ ztb := zt_1 15 rfl rfl
theorem zl_ini3 : Cond.initialized RJ3 ∈ ztb := zt_1 16 rfl rfl
theorem zl_c_len : Cond.code yJ0_length_8abf5 cJ0_length_8abf5 1 (some .int) ∈ ztb := zt_3 155 rfl rfl
theorem zl_c_coder : Cond.code yJ0_coder_7d493 cJ0_coder_7d493 1 (some .byte) ∈ ztb := zt_3 159 rfl rfl
theorem zl_c_char : Cond.code yJ0_charAt_5068e cJ0_charAt_5068e 2 (some .char) ∈ ztb := zt_3 165 rfl rfl
theorem zl_c_latin : Cond.code yJ0_isLatin1_aae02 cJ0_isLatin1_aae02 1 (some .boolean) ∈ ztb := zt_3 169 rfl rfl
theorem zl_c_charL : Cond.code yJ1_charAt_3b067 cJ1_charAt_3b067 2 (some .char) ∈ ztb := zt_3 172 rfl rfl
theorem zl_c_chk : Cond.code yJ0_checkIndex_df160 cJ0_checkIndex_df160 2 none ∈ ztb := zt_3 175 rfl rfl
theorem zl_c_chk3 : Cond.code yJ3_checkIndex_8e157 cJ3_checkIndex_8e157 3 (some .int) ∈ ztb := zt_3 180 rfl rfl
theorem zl_i_len : Cond.instanceMethod yJ0_length_8abf5 ∈ ztb := zt_3 153 rfl rfl
theorem zl_s_len : Cond.selects RJ0 yJ0_length_8abf5 yJ0_length_8abf5 ∈ ztb := zt_3 154 rfl rfl
theorem zl_i_coder : Cond.instanceMethod yJ0_coder_7d493 ∈ ztb := zt_3 157 rfl rfl
theorem zl_s_coder : Cond.selects RJ0 yJ0_coder_7d493 yJ0_coder_7d493 ∈ ztb := zt_3 158 rfl rfl
theorem zl_i_char : Cond.instanceMethod yJ0_charAt_5068e ∈ ztb := zt_3 163 rfl rfl
theorem zl_s_char : Cond.selects RJ0 yJ0_charAt_5068e yJ0_charAt_5068e ∈ ztb := zt_3 164 rfl rfl
theorem zl_i_latin : Cond.instanceMethod yJ0_isLatin1_aae02 ∈ ztb := zt_3 167 rfl rfl
theorem zl_s_latin : Cond.selects RJ0 yJ0_isLatin1_aae02 yJ0_isLatin1_aae02 ∈ ztb := zt_3 168 rfl rfl
theorem zl_t_charL : Cond.static yJ1_charAt_3b067 ∈ ztb := zt_3 171 rfl rfl
theorem zl_t_chk : Cond.static yJ0_checkIndex_df160 ∈ ztb := zt_3 174 rfl rfl
theorem zl_t_chk3 : Cond.static yJ3_checkIndex_8e157 ∈ ztb := zt_3 179 rfl rfl
theorem zd_chk : yJ0_checkIndex_df160.cls ≠ "java/lang/invoke/MethodHandle" ∧ yJ0_checkIndex_df160.cls ≠ "java/lang/invoke/VarHandle" ∧ (parseMethodDescriptor yJ0_checkIndex_df160.desc).map (fun d => d.parameters.length) = some 2 := by decide +kernel
theorem zd_charL : yJ1_charAt_3b067.cls ≠ "java/lang/invoke/MethodHandle" ∧ yJ1_charAt_3b067.cls ≠ "java/lang/invoke/VarHandle" ∧ (parseMethodDescriptor yJ1_charAt_3b067.desc).map (fun d => d.parameters.length) = some 2 := by decide +kernel
theorem zd_char : yJ0_charAt_5068e.cls ≠ "java/lang/invoke/MethodHandle" ∧ yJ0_charAt_5068e.cls ≠ "java/lang/invoke/VarHandle" ∧ (parseMethodDescriptor yJ0_charAt_5068e.desc).map (fun d => d.parameters.length) = some 1 := by decide +kernel
theorem zs_small : ∀ j, j < 8 → zsl.getD j 0 < 100 := by decide
theorem zs_shr : ∀ j, j < 8 → nI (zsl.getD j 0) >>> ((0 : Int32) &&& 31) = nI (zsl.getD j 0) := by decide +kernel
theorem zs_chr : ∀ j, j < 8 → ∀ k, k < zsl.getD j 0 → ((((zsb.getD j []).getD k 0) &&& (Int16.ofInt 255).toInt32).toUInt32 % 65536).toInt32 = (zsb.getD j []).getD k 0 := by decide +kernel
theorem zs_chn : ∀ j, j < 8 → ∀ k, k < zsl.getD j 0 → narrow .char (.int ((zsb.getD j []).getD k 0)) = .int ((zsb.getD j []).getD k 0) := by decide +kernel
section ZWORD5
variable {p : Program} {l : Launch} {e : Env} {R : Room} {s : State} {m : MethodId} {args : Array Value} {below : List Frame} {meth : Method} {c : Code} {D : va_G} {ad : Nat → Nat} {cA : Nat → ClassId} {n nL : Nat} {cc : ByteArray} {own : String} {Qm : Array Value → State → Outcome → State → Prop} {pc : Nat} {L : zL} {S : List Value} {h : zH}
theorem zPj_blind {vs : List Value} : FrameBlind (zPj D ad cA n h vs) := by
  intro a U g mk q
  obtain ⟨q0, q1, q2, q3, q4⟩ := q
  exact ⟨q0, zWd_warm (s := U) (U := U.calling g mk a) (State.WarmedH.refl U) q1, va_K.moved (u := U) (U := U.calling g mk a) (Vm.Alike.refl U.vm) q2, q3, zSt_warm (s := U) (U := U.calling g mk a) (State.WarmedH.refl U) q4⟩
theorem zs_i2c {x y : Int32} (C : zCx own cc nL D ad cA n p s m meth c) (hd : decode cc pc = .ok (.i2c, 1)) (hy : (x.toUInt32 % 65536).toInt32 = y) (k : zAt p l e R s m args below meth c D ad cA n nL Qm (pc + 1) L (.int y :: S) h) : zAt p l e R s m args below meth c D ad cA n nL Qm pc L (.int x :: S) h :=
  fun hn H locs ls hP hS hl => lv_i2c C.1 C.2.1 hd hy (k hn H locs ls hP hS hl)
theorem zs_vretJ {Q : zQ} (C : zCx own cc nL D ad cA n p s m meth c) (hd : decode cc pc = .ok (.return_, 1)) (hret : meth.sig.returnType = none) (hz : Q none h) : zAt p l e R s m args below meth c D ad cA n nL (zQc D ad cA n Q) pc L [] h := by
  intro hn H locs ls hP hS hl
  exact W.vret C.1 C.2.1 hret (fun t ht hW => ⟨⟨none, h, rfl, hz, hn, by rw [ht]; exact hP⟩, hS.F ht⟩) hS.2.2 hd C.2.2.2.2.2.2.2.2
theorem zs_callJ {i f w mx : Nat} {av rest : List Value} {y : MethodName} {bytes : ByteArray} {ret : Option FieldType} (C : zCx own cc nL D ad cA n p s m meth c) (hd : decode cc pc = .ok (.invokestatic i, 3)) (hlk : Cond.methodLink own i y ∈ ztb) (hcode : Cond.code y bytes mx ret ∈ ztb) (hini : Cond.initialized y.cls ∈ ztb) (hst : Cond.static y ∈ ztb) (hd3 : y.cls ≠ "java/lang/invoke/MethodHandle" ∧ y.cls ≠ "java/lang/invoke/VarHandle" ∧ (parseMethodDescriptor y.desc).map (fun d => d.parameters.length) = some av.length) (hfr : f + 1 ≤ R.frames) (hlo : 8 + (mx + 11) + w ≤ R.locals) (hcat : zcat rest ≤ 8)
    (hM : h.length = n → Met l y [.code y bytes mx ret] { frames := f, cells := 0, slots := 0, locals := w } (zPc D ad cA n h av) (zQc D ad cA n (fun r h' => zAt p l e R s m args below meth c D ad cA n nL Qm (pc + 3) L (zpush r rest) h')) 0 0 (zA ad n)) : zAt p l e R s m args below meth c D ad cA n nL Qm pc L (av.reverse ++ rest) h := by
  intro hn H locs ls hP hS hl
  have hts : ∀ w ∈ ztb, w.before args s = true := fun w hw => C.2.2.2.2.1 w hw args
  have hM1 := hM hn
  have hstk : (F0 m pc ls ((av.reverse ++ rest).map (zv ad))).stack = (av.map (zv ad)).reverse ++ rest.map (zv ad) := by simp [F0]
  have hroom : 2 * (F0 m pc ls ((av.reverse ++ rest).map (zv ad))).monitorRoom + (((rest.map (zv ad))).map fun v => v.category).sum ≤ 8 := lv_room (Nat.le_trans (zcat_le ad rest) hcat)
  have fin : ∀ (r : Option Value) (h' : zH) (H1 : Heap) (locs1 : List Loc), (fun r h' => zAt p l e R s m args below meth c D ad cA n nL Qm (pc + 3) L (zpush r rest) h') r h' → h'.length = n → va_P D vwCl (zw ad cA h') H1 → va_S (zA ad n) s.heap H1 locs1 → W p l e R s m args below meth c H1 locs1 0 0 (MQ below Qm args s 0 0 (zA ad n)) (F0 m (pc + 3) ls ((r.map (zv ad)).toList ++ rest.map (zv ad))) := by
    intro r h' H1 locs1 q1 q2 q3 q4
    have := q1 q2 H1 locs1 ls q3 q4 hl
    cases r <;> exact this
  exact z_go (va_runS (n := av.length) (As := av.map (zv ad)) ⟨C.1, C.2.1, C.2.2.1, C.2.2.2.1, hts⟩ hM1 ⟨callB_of av.length hts (z_good (M := (y, bytes, mx, ret, true, av.length, f, w)) hcode) rfl rfl rfl (hts _ hini) (hts _ hlk) hd3 ⟨hfr, hlo⟩, hts _ hst⟩ ⟨zPc_blind, fun U hU hW => z_preJ (vs := av.map (zv ad)) C hP hS U hU hW⟩ rfl (by simp) hl.1 hstk hroom hd ⟨Nat.zero_le _, Nat.zero_le _⟩) hS fin
/-- the formatter is loaded, given, and never looked at -/
theorem zs_fmt {x y : Int32} (hinj : zinj ad n) (h0 : ¬ x < 0) (h1 : x < y) (C : zCx RJ0 cJ0_checkIndex_df160 2 D ad cA n p s m meth c) (hfr : 1 ≤ R.frames) (hlo : 22 ≤ R.locals) (k : zAt p l e R s m args below meth c D ad cA n 2 Qm 9 L [] h) : zAt p l e R s m args below meth c D ad cA n 2 Qm 2 L [.int y, .int x] h := by
  intro hn H locs ls hP hS hl
  have hts : ∀ w ∈ ztb, w.before args s = true := fun w hw => C.2.2.2.2.1 w hw args
  have key : ∀ v : Value, (v = .null ∨ ∃ t, v = .ref t) → va_Z "jdk/internal/util/Preconditions" "SIOOBE_FORMATTER" "Ljava/util/function/BiFunction;" v (zA ad n) s s.heap → W p l e R s m args below meth c H locs 0 0 (MQ below Qm args s 0 0 (zA ad n)) (F0 m 2 ls [.int y, .int x]) := by
    intro v hv hZ
    refine va_gets C.1 C.2.1 hZ hS C.2.2.2.1 (hts _ zl_1053) (fun _ hx => hx) dJ0_checkIndex_df160_2 ?_
    have hM1 := j_check3 (l := l) (D := D) (cA := cA) (Q := fun r h' => r = some (.int x) ∧ h' = h) hv hn hinj h0 h1 ⟨rfl, rfl⟩
    have hroom : 2 * (F0 m 5 ls [v, .int y, .int x]).monitorRoom + ((([] : List Value)).map fun v => v.category).sum ≤ 8 := lv_room (by simp)
    refine z_go (rest := []) (va_runS (n := 3) (As := [.int x, .int y, v]) ⟨C.1, C.2.1, C.2.2.1, C.2.2.2.1, hts⟩ hM1 ⟨callB_of 3 hts (z_good (M := (yJ3_checkIndex_8e157, cJ3_checkIndex_8e157, 3, some .int, true, 3, 0, 0)) zl_c_chk3) rfl rfl rfl (hts _ zl_ini3) (hts _ zl_1059) (by decide +kernel) ⟨hfr, hlo⟩, hts _ zl_t_chk3⟩ ⟨zPj_blind, fun U hU hW => z_preJ (vs := [.int x, .int y, v]) C hP hS U hU hW⟩ rfl rfl hl.1 rfl hroom dJ0_checkIndex_df160_5 ⟨Nat.zero_le _, Nat.zero_le _⟩) hS ?_
    intro r h' H1 locs1 q1 q2 q3 q4
    obtain ⟨rfl, rfl⟩ := q1
    exact lv_pop C.1 C.2.1 dJ0_checkIndex_df160_8 rfl (k hn H1 locs1 ls q3 q4 hl)
  rcases C.2.2.2.2.2.2.2.1.2.2.2 with hZ | ⟨t, hZ⟩
  · exact key _ (Or.inl rfl) hZ
  · exact key _ (Or.inr ⟨t, rfl⟩) hZ
end ZWORD5
section ZWORD6
variable {l : Launch} {D : va_G} {ad : Nat → Nat} {cA : Nat → ClassId} {n : Nat} {h : zH}
set_option maxRecDepth 100000 in
set_option maxHeartbeats 4000000 in
theorem j_check2 {x y : Int32} {Q : zQ} (hn : h.length = n) (hinj : zinj ad n) (h0 : ¬ x < 0) (h1 : x < y) (hQ : Q none h) : Met l yJ0_checkIndex_df160 [.code yJ0_checkIndex_df160 cJ0_checkIndex_df160 2 none] { frames := 1, cells := 0, slots := 0, locals := 22 } (zPc D ad cA n h [.int x, .int y]) (zQc D ad cA n Q) 0 0 (zA ad n) := by
  refine Met.ofW (cc := cJ0_checkIndex_df160) (maxL := 2) (ret := none) (by decide) rfl ?_
  intro p e s m args below meth c s₁ B hml hvv
  obtain ⟨rfl, hWd, hK, hP, hSt⟩ := hvv
  have hown' : s.vm.findClass RJ0 = some m.cls := findClass_of_methodNamed B.named
  have C : zCx RJ0 cJ0_checkIndex_df160 2 D ad cA n p s m meth c := ⟨B.exec, B.bytes, hml, hown', hWd, hK, hinj, hSt, B.notSynchronized⟩
  have hl := lv_entry [.int x, .int y] (n := 2) (Nat.le_refl 2)
  rw [lg_entry_eq]
  have hx : (0 + 0, zv ad (.int x)) ∈ zla ad 0 [some (.int x), some (.int y)] := List.mem_cons_self
  have hy : (0 + 1, zv ad (.int y)) ∈ zla ad 0 [some (.int x), some (.int y)] := List.mem_cons_of_mem _ List.mem_cons_self
  refine (zs_iload_n (a := 0) (L := [some (.int x), some (.int y)]) C dJ0_checkIndex_df160_0 rfl hx (zs_iload_n (a := 1) C dJ0_checkIndex_df160_1 rfl hy (zs_fmt hinj h0 h1 C (Nat.le_refl 1) (Nat.le_refl 22) (zs_vretJ C dJ0_checkIndex_df160_9 B.returns hQ)))) hn s.heap [] _ hP va_S.rf (z_fewer hl ?_)
  intro q hq
  exact hq
set_option maxRecDepth 100000 in
set_option maxHeartbeats 4000000 in
theorem j_length {j : Nat} {Q : zQ} (hj : j < 8) (hn : h.length = n) (hinj : zinj ad n) (hQ : Q (some (.int (nI (zsl.getD j 0)))) h) : Met l yJ0_length_8abf5 [.code yJ0_length_8abf5 cJ0_length_8abf5 1 (some .int)] { frames := 1, cells := 0, slots := 0, locals := 20 } (zPc D ad cA n h [.ref (1000 + j)]) (zQc D ad cA n Q) 0 0 (zA ad n) := by
  refine Met.ofW (cc := cJ0_length_8abf5) (maxL := 1) (ret := some .int) (by decide) rfl ?_
  intro p e s m args below meth c s₁ B hml hvv
  obtain ⟨rfl, hWd, hK, hP, hSt⟩ := hvv
  have hown' : s.vm.findClass RJ0 = some m.cls := findClass_of_methodNamed B.named
  have C : zCx RJ0 cJ0_length_8abf5 1 D ad cA n p s m meth c := ⟨B.exec, B.bytes, hml, hown', hWd, hK, hinj, hSt, B.notSynchronized⟩
  have hl := lv_entry [.ref (ad (1000 + j))] (n := 1) (Nat.le_refl 1)
  rw [lg_entry_eq]
  have hx : (0 + 0, zv ad (.ref (1000 + j))) ∈ zla ad 0 [some (.ref (1000 + j))] := List.mem_cons_self
  refine (zs_aload_n (a := 0) (L := [some (.ref (1000 + j))]) C dJ0_length_8abf5_0 rfl hx (zs_value hj C zl_9 dJ0_length_8abf5_1 (zs_slen hj C dJ0_length_8abf5_4 (zs_aload_n (a := 0) C dJ0_length_8abf5_5 rfl hx (zs_callS (av := []) (rest := [.int (nI (zsl.getD j 0))]) (f := 0) (w := 0) (mx := 1) hj rfl C dJ0_length_8abf5_6 zl_335 zl_c_coder zl_ini0 zl_i_coder zl_s_coder (by decide +kernel) (Nat.le_refl 1) (Nat.le_refl 20) (Nat.le_of_ble_eq_true rfl) (fun hn => j_coder hj hn hinj (zs_ishr C dJ0_length_8abf5_9 (by rw [zs_shr j hj]; exact zs_iretJ C dJ0_length_8abf5_10 B.returns rfl hQ)))))))) hn s.heap [] _ hP va_S.rf (z_fewer hl ?_)
  intro q hq
  exact hq
set_option maxRecDepth 100000 in
set_option maxHeartbeats 4000000 in
theorem j_charL {j k : Nat} {Q : zQ} (hj : j < 8) (hk : k < zsl.getD j 0) (hn : h.length = n) (hinj : zinj ad n) (hQ : Q (some (.int ((zsb.getD j []).getD k 0))) h) : Met l yJ1_charAt_3b067 [.code yJ1_charAt_3b067 cJ1_charAt_3b067 2 (some .char)] { frames := 2, cells := 0, slots := 0, locals := 43 } (zPc D ad cA n h [.ref (2000 + j), .int (nI k)]) (zQc D ad cA n Q) 0 0 (zA ad n) := by
  have hsm := zs_small j hj
  refine Met.ofW (cc := cJ1_charAt_3b067) (maxL := 2) (ret := some .char) (by decide) rfl ?_
  intro p e s m args below meth c s₁ B hml hvv
  obtain ⟨rfl, hWd, hK, hP, hSt⟩ := hvv
  have hown' : s.vm.findClass RJ1 = some m.cls := findClass_of_methodNamed B.named
  have C : zCx RJ1 cJ1_charAt_3b067 2 D ad cA n p s m meth c := ⟨B.exec, B.bytes, hml, hown', hWd, hK, hinj, hSt, B.notSynchronized⟩
  have hl := lv_entry [.ref (ad (2000 + j)), .int (nI k)] (n := 2) (Nat.le_refl 2)
  rw [lg_entry_eq]
  have hx : (0 + 0, zv ad (.ref (2000 + j))) ∈ zla ad 0 [some (.ref (2000 + j)), some (.int (nI k))] := List.mem_cons_self
  have hy : (0 + 1, zv ad (.int (nI k))) ∈ zla ad 0 [some (.ref (2000 + j)), some (.int (nI k))] := List.mem_cons_of_mem _ List.mem_cons_self
  have b1 : ¬ nI k < 0 := nI_pos (by omega)
  have b2 : nI k < nI (zsl.getD j 0) := nI_lt hk (by omega)
  refine (zs_iload_n (a := 1) (L := [some (.ref (2000 + j)), some (.int (nI k))]) C dJ1_charAt_3b067_0 rfl hy (zs_aload_n (a := 0) C dJ1_charAt_3b067_1 rfl hx (zs_slen hj C dJ1_charAt_3b067_2 (zs_callJ (av := [.int (nI k), .int (nI (zsl.getD j 0))]) (rest := []) (f := 1) (w := 22) (mx := 2) C dJ1_charAt_3b067_3 zl_J1_9 zl_c_chk zl_ini0 zl_t_chk zd_chk (Nat.le_refl 2) (Nat.le_refl 43) (Nat.le_of_ble_eq_true rfl) (fun hn => j_check2 hn hinj b1 b2 (zs_aload_n (a := 0) C dJ1_charAt_3b067_6 rfl hx (zs_iload_n (a := 1) C dJ1_charAt_3b067_7 rfl hy (zs_sbyte hj hk (by omega) C dJ1_charAt_3b067_8 (zs_sipush C dJ1_charAt_3b067_9 (zs_iand C dJ1_charAt_3b067_12 (zs_i2c C dJ1_charAt_3b067_13 (zs_chr j hj k hk) (zs_iretJ C dJ1_charAt_3b067_14 B.returns (zs_chn j hj k hk) hQ)))))))))))) hn s.heap [] _ hP va_S.rf (z_fewer hl ?_)
  intro q hq
  exact hq
set_option maxRecDepth 100000 in
set_option maxHeartbeats 4000000 in
theorem j_charAt {j k : Nat} {Q : zQ} (hj : j < 8) (hk : k < zsl.getD j 0) (hn : h.length = n) (hinj : zinj ad n) (hQ : Q (some (.int ((zsb.getD j []).getD k 0))) h) : Met l yJ0_charAt_5068e [.code yJ0_charAt_5068e cJ0_charAt_5068e 2 (some .char)] { frames := 3, cells := 0, slots := 0, locals := 64 } (zPc D ad cA n h [.ref (1000 + j), .int (nI k)]) (zQc D ad cA n Q) 0 0 (zA ad n) := by
  refine Met.ofW (cc := cJ0_charAt_5068e) (maxL := 2) (ret := some .char) (by decide) rfl ?_
  intro p e s m args below meth c s₁ B hml hvv
  obtain ⟨rfl, hWd, hK, hP, hSt⟩ := hvv
  have hown' : s.vm.findClass RJ0 = some m.cls := findClass_of_methodNamed B.named
  have C : zCx RJ0 cJ0_charAt_5068e 2 D ad cA n p s m meth c := ⟨B.exec, B.bytes, hml, hown', hWd, hK, hinj, hSt, B.notSynchronized⟩
  have hl := lv_entry [.ref (ad (1000 + j)), .int (nI k)] (n := 2) (Nat.le_refl 2)
  rw [lg_entry_eq]
  have hx : (0 + 0, zv ad (.ref (1000 + j))) ∈ zla ad 0 [some (.ref (1000 + j)), some (.int (nI k))] := List.mem_cons_self
  have hy : (0 + 1, zv ad (.int (nI k))) ∈ zla ad 0 [some (.ref (1000 + j)), some (.int (nI k))] := List.mem_cons_of_mem _ List.mem_cons_self
  refine (zs_aload_n (a := 0) (L := [some (.ref (1000 + j)), some (.int (nI k))]) C dJ0_charAt_5068e_0 rfl hx (zs_callS (av := []) (rest := []) (f := 0) (w := 0) (mx := 1) hj rfl C dJ0_charAt_5068e_1 zl_492 zl_c_latin zl_ini0 zl_i_latin zl_s_latin (by decide +kernel) (by decide) (by decide) (Nat.le_of_ble_eq_true rfl) (fun hn => j_latin hj hn hinj (zs_if_eq (t := 16) C dJ0_charAt_5068e_4 rfl ⟨fun z => absurd z (by decide), fun _ => zs_aload_n (a := 0) C dJ0_charAt_5068e_7 rfl hx (zs_value hj C zl_9 dJ0_charAt_5068e_8 (zs_iload_n (a := 1) C dJ0_charAt_5068e_11 rfl hy (zs_callJ (av := [.ref (2000 + j), .int (nI k)]) (rest := []) (f := 2) (w := 43) (mx := 2) C dJ0_charAt_5068e_12 zl_495 zl_c_charL zl_ini1 zl_t_charL zd_charL (Nat.le_refl 3) (Nat.le_refl 64) (Nat.le_of_ble_eq_true rfl) (fun hn => j_charL hj hk hn hinj (zs_iretJ C dJ0_charAt_5068e_15 B.returns (zs_chn j hj k hk) hQ)))))⟩)))) hn s.heap [] _ hP va_S.rf (z_fewer hl ?_)
  intro q hq
  exact hq
end ZWORD6
