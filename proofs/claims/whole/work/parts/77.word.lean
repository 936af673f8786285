/-! STRING CONSTANTS: a call on a constant -/
section ZWORD4
variable {p : Program} {l : Launch} {e : Env} {R : Room} {s : State} {m : MethodId} {args : Array Value} {below : List Frame} {meth : Method} {c : Code} {D : va_G} {ad : Nat → Nat} {cA : Nat → ClassId} {n nL : Nat} {cc : ByteArray} {own : String} {Qm : Array Value → State → Outcome → State → Prop} {pc : Nat} {L : zL} {S : List Value} {h : zH}
theorem z_preJ {H : Heap} {locs : List Loc} {vs : List Value} (C : zCx own cc nL D ad cA n p s m meth c) (hP : va_P D vwCl (zw ad cA h) H) (hS : va_S (zA ad n) s.heap H locs) (U : State) (hU : U.heap = H) (hW : s.WarmedH U.vm) : zPj D ad cA n h vs vs.toArray U := by
  refine ⟨rfl, zWd_warm hW C.2.2.2.2.1, va_K.moved hW.alike C.2.2.2.2.2.1, by rw [hU]; exact hP, ?_⟩
  rw [hU]
  exact zSt_warm hW (zSt_kept (fun a h1 h2 => hS.2.1 a h1 h2) C.2.2.2.2.2.2.2.1)
theorem zs_callS {i j f w mx : Nat} {av rest : List Value} {y : MethodName} {bytes : ByteArray} {ret : Option FieldType} (hj : j < 8) (hy : y.cls = "java/lang/String") (C : zCx own cc nL D ad cA n p s m meth c) (hd : decode cc pc = .ok (.invokevirtual i, 3)) (hlk : Cond.methodLink own i y ∈ ztb) (hcode : Cond.code y bytes mx ret ∈ ztb) (hini : Cond.initialized y.cls ∈ ztb) (hs1 : Cond.instanceMethod y ∈ ztb) (hs2 : Cond.selects y.cls y y ∈ ztb) (hd3 : y.cls ≠ "java/lang/invoke/MethodHandle" ∧ y.cls ≠ "java/lang/invoke/VarHandle" ∧ (parseMethodDescriptor y.desc).map (fun d => d.parameters.length) = some av.length) (hfr : f + 1 ≤ R.frames) (hlo : 8 + (mx + 11) + w ≤ R.locals) (hcat : zcat rest ≤ 8)
    (hM : h.length = n → Met l y [.code y bytes mx ret] { frames := f, cells := 0, slots := 0, locals := w } (zPc D ad cA n h (.ref (1000 + j) :: av)) (zQc D ad cA n (fun r h' => zAt p l e R s m args below meth c D ad cA n nL Qm (pc + 3) L (zpush r rest) h')) 0 0 (zA ad n)) : zAt p l e R s m args below meth c D ad cA n nL Qm pc L (av.reverse ++ .ref (1000 + j) :: rest) h := by
  intro hn H locs ls hP hS hl
  have hts : ∀ w ∈ ztb, w.before args s = true := fun w hw => C.2.2.2.2.1 w hw args
  have hM1 := hM hn
  have hstk : (F0 m pc ls ((av.reverse ++ .ref (1000 + j) :: rest).map (zv ad))).stack = (av.map (zv ad)).reverse ++ .ref (ad (1000 + j)) :: rest.map (zv ad) := by simp [F0, zv]
  have hroom : 2 * (F0 m pc ls ((av.reverse ++ .ref (1000 + j) :: rest).map (zv ad))).monitorRoom + (((rest.map (zv ad))).map fun v => v.category).sum ≤ 8 := lv_room (Nat.le_trans (zcat_le ad rest) hcat)
  have hrecv := vk_recv C.2.2.2.2.2.2.2.1.2.1 hj hS
  rw [← hy] at hrecv
  have fin : ∀ (r : Option Value) (h' : zH) (H1 : Heap) (locs1 : List Loc), (fun r h' => zAt p l e R s m args below meth c D ad cA n nL Qm (pc + 3) L (zpush r rest) h') r h' → h'.length = n → va_P D vwCl (zw ad cA h') H1 → va_S (zA ad n) s.heap H1 locs1 → W p l e R s m args below meth c H1 locs1 0 0 (MQ below Qm args s 0 0 (zA ad n)) (F0 m (pc + 3) ls ((r.map (zv ad)).toList ++ rest.map (zv ad))) := by
    intro r h' H1 locs1 q1 q2 q3 q4
    have := q1 q2 H1 locs1 ls q3 q4 hl
    cases r <;> exact this
  exact z_go (va_runV (n := av.length) (As := av.map (zv ad)) (C := y.cls) ⟨C.1, C.2.1, C.2.2.1, C.2.2.2.1, hts⟩ hM1 ⟨callB_of av.length hts (z_good (M := (y, bytes, mx, ret, false, av.length, f, w)) hcode) rfl rfl rfl (hts _ hini) (hts _ hlk) hd3 ⟨hfr, hlo⟩, hts _ hs1, hts _ hs2⟩ ⟨zPc_blind, hrecv, fun U hU hW => z_preJ (vs := (Value.ref (1000 + j) :: av).map (zv ad)) C hP hS U hU hW⟩ rfl (by simp) hl.1 hstk hroom hd ⟨Nat.zero_le _, Nat.zero_le _⟩) hS fin
theorem zs_sbyte {j k : Nat} (hj : j < 8) (hk : k < zsl.getD j 0) (hk2 : zsl.getD j 0 < 2 ^ 31) (C : zCx own cc nL D ad cA n p s m meth c) (hd : decode cc pc = .ok (.baload, 1)) (kk : zAt p l e R s m args below meth c D ad cA n nL Qm (pc + 1) L (.int ((zsb.getD j []).getD k 0) :: S) h) : zAt p l e R s m args below meth c D ad cA n nL Qm pc L (.int (nI k) :: .ref (2000 + j) :: S) h :=
  fun hn H locs ls hP hS hl => va_tb C.1 C.2.1 ((C.2.2.2.2.2.2.2.1.2.1.1 j hj).2.2.2) hS (vp_in_nI hk (by omega)) (v := .int ((zsb.getD j []).getD k 0)) (by rw [nI_clamp (by omega)]) hd (kk hn H locs ls hP hS hl)
end ZWORD4
