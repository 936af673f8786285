/-! THE ROWS: an instruction of the small machine, and the JVM's -/
def zstr : List (Nat × String × Nat) := [(117, "rest", 1000), (123, "cold", 1001), (125, "if", 1002), (127, "ration", 1003), (129, "or", 1004), (131, "and", 1005), (133, "wind", 1006), (135, "hour", 1007)]
def zsl : List Nat := [4, 4, 2, 6, 2, 3, 4, 4]
def zsb : List (List Int32) := [[114, 101, 115, 116], [99, 111, 108, 100], [105, 102], [114, 97, 116, 105, 111, 110], [111, 114], [97, 110, 100], [119, 105, 110, 100], [104, 111, 117, 114]]
/-- the String constants and two statics of the JDK -/
def zSt (ad : Nat → Nat) (n : Nat) (U : State) (H : Heap) : Prop := (∀ q ∈ zstr, vk_R RX4 q.1 q.2.1 (ad q.2.2) U) ∧ vk_S 8 zsl zsb (fun i => ad (1000 + i)) (fun i => ad (2000 + i)) (zA ad n) U H ∧ va_Z "java/lang/String" "COMPACT_STRINGS" "Z" (.int 1) (zA ad n) U H ∧ va_Zq "jdk/internal/util/Preconditions" "SIOOBE_FORMATTER" "Ljava/util/function/BiFunction;" (zA ad n) U H
theorem zSt_warm {ad : Nat → Nat} {n : Nat} {s U : State} {H : Heap} (hW : s.WarmedH U.vm) (h : zSt ad n s H) : zSt ad n U H :=
  ⟨fun q hq => vk_R.warm hW (h.1 q hq), vk_S.moved hW.alike h.2.1, va_Z.moved hW.alike h.2.2.1, va_Zq.moved hW.alike h.2.2.2⟩
theorem zSt_kept {ad : Nat → Nat} {n : Nat} {U : State} {H H1 : Heap} (hq : ∀ a : Nat, a < H.size → ¬ zA ad n a → H1[a]? = H[a]?) (h : zSt ad n U H) : zSt ad n U H1 :=
  ⟨h.1, vk_S.kept h.2.1 hq, va_Z.kept h.2.2.1 hq, va_Zq.kept h.2.2.2 hq⟩
/-- what a method of the small machine finds, and leaves -/
def zPc (D : va_G) (ad : Nat → Nat) (cA : Nat → ClassId) (n : Nat) (h : zH) (av : List Value) : Array Value → State → Prop := va_Pc (av.map (zv ad)) (fun U => zWd U ∧ va_K D vwCl (zty cA) U ∧ va_P D vwCl (zw ad cA h) U.heap ∧ zSt ad n U U.heap)
def zQc (D : va_G) (ad : Nat → Nat) (cA : Nat → ClassId) (n : Nat) (Q : zQ) : Array Value → State → Outcome → State → Prop := fun _ st oc t => (∃ (r : Option Value) (h' : zH), oc = .returned (r.map (zv ad)) ∧ Q r h' ∧ h'.length = n ∧ va_P D vwCl (zw ad cA h') t.heap) ∧ va_F (zA ad n) st t
def zMet (l : Launch) (j : Nat) (T : zT) : Prop := ∀ M : zM, zms[j]? = some M → ∀ (D : va_G) (ad : Nat → Nat) (cA : Nat → ClassId) (n : Nat) (av : List Value) (h : zH) (Q : zQ), h.length = n → zinj ad n → T av h Q →
  Met l M.1 [.code M.1 M.2.1 M.2.2.1 M.2.2.2.1] { frames := M.2.2.2.2.2.2.1, cells := 0, slots := 0, locals := M.2.2.2.2.2.2.2 } (zPc D ad cA n h av) (zQc D ad cA n Q) 0 0 (zA ad n)
theorem zPc_blind {D : va_G} {ad : Nat → Nat} {cA : Nat → ClassId} {n : Nat} {h : zH} {av : List Value} : FrameBlind (zPc D ad cA n h av) := by
  intro a U g mk q
  obtain ⟨q0, q1, q2, q3, q4⟩ := q
  exact ⟨q0, zWd_warm (s := U) (U := U.calling g mk a) (State.WarmedH.refl U) q1, va_K.moved (u := U) (U := U.calling g mk a) (Vm.Alike.refl U.vm) q2, q3, zSt_warm (s := U) (U := U.calling g mk a) (State.WarmedH.refl U) q4⟩
def zCx (own : String) (cc : ByteArray) (nL : Nat) (D : va_G) (ad : Nat → Nat) (cA : Nat → ClassId) (n : Nat) (p : Program) (s : State) (m : MethodId) (meth : Method) (c : Code) : Prop :=
  p.tables.exec = Jvm.exec ∧ c.code = cc ∧ c.maxLocals = nL ∧ s.vm.findClass own = some m.cls ∧ zWd s ∧ va_K D vwCl (zty cA) s ∧ zinj ad n ∧ zSt ad n s s.heap ∧ meth.locks = false
def zAt (p : Program) (l : Launch) (e : Env) (R : Room) (s : State) (m : MethodId) (args : Array Value) (below : List Frame) (meth : Method) (c : Code) (D : va_G) (ad : Nat → Nat) (cA : Nat → ClassId) (n nL : Nat) (Qm : Array Value → State → Outcome → State → Prop) : zX := fun pc L S h =>
  h.length = n → ∀ (H : Heap) (locs : List Loc) (ls : Array Slot), va_P D vwCl (zw ad cA h) H → va_S (zA ad n) s.heap H locs → lv_has ls nL (zla ad 0 L) → W p l e R s m args below meth c H locs 0 0 (MQ below Qm args s 0 0 (zA ad n)) (F0 m pc ls (S.map (zv ad)))
/-! what the tables say of the numbered things -/
theorem zX_put {ad : Nat → Nat} {cA : Nat → ClassId} {n : Nat} {D : va_G} {h : zH} {r : Nat} {e : zC} {H : Heap} (hP : va_P D vwCl ((zw ad cA h).set r (ad r, zc ad cA e)) H) : va_P D vwCl (zw ad cA (h.set r e)) H := by
  rw [← zw_set]
  exact hP
section ZSTEP
variable {p : Program} {l : Launch} {e : Env} {R : Room} {s : State} {m : MethodId} {args : Array Value} {below : List Frame} {meth : Method} {c : Code} {D : va_G} {ad : Nat → Nat} {cA : Nat → ClassId} {n nL : Nat} {cc : ByteArray} {own : String} {Qm : Array Value → State → Outcome → State → Prop} {pc : Nat} {L : zL} {S : List Value} {h : zH}
theorem zs_put {H1 : Heap} {r : Nat} {e : zC} (hn : h.length = n) : (h.set r e).length = n := by simp [hn]
theorem zs_iconst {d : Int} (C : zCx own cc nL D ad cA n p s m meth c) (hd : decode cc pc = .ok (.iconst d, 1)) (k : zAt p l e R s m args below meth c D ad cA n nL Qm (pc + 1) L (.int (Int32.ofInt d) :: S) h) : zAt p l e R s m args below meth c D ad cA n nL Qm pc L S h :=
  fun hn H locs ls hP hS hl => lv_iconst C.1 C.2.1 hd rfl (k hn H locs ls hP hS hl)
theorem zs_bipush {d : Int} (C : zCx own cc nL D ad cA n p s m meth c) (hd : decode cc pc = .ok (.bipush d, 2)) (k : zAt p l e R s m args below meth c D ad cA n nL Qm (pc + 2) L (.int (Int8.ofInt d).toInt32 :: S) h) : zAt p l e R s m args below meth c D ad cA n nL Qm pc L S h :=
  fun hn H locs ls hP hS hl => lv_bipush C.1 C.2.1 hd rfl (k hn H locs ls hP hS hl)
theorem zs_sipush {d : Int} (C : zCx own cc nL D ad cA n p s m meth c) (hd : decode cc pc = .ok (.sipush d, 3)) (k : zAt p l e R s m args below meth c D ad cA n nL Qm (pc + 3) L (.int (Int16.ofInt d).toInt32 :: S) h) : zAt p l e R s m args below meth c D ad cA n nL Qm pc L S h :=
  fun hn H locs ls hP hS hl => lv_sipush C.1 C.2.1 hd rfl (k hn H locs ls hP hS hl)
theorem zs_lconst {d : Fin 2} (C : zCx own cc nL D ad cA n p s m meth c) (hd : decode cc pc = .ok (.lconst d, 1)) (k : zAt p l e R s m args below meth c D ad cA n nL Qm (pc + 1) L (.long (Int64.ofNat (d : Nat)) :: S) h) : zAt p l e R s m args below meth c D ad cA n nL Qm pc L S h :=
  fun hn H locs ls hP hS hl => lv_lconst C.1 C.2.1 hd rfl (k hn H locs ls hP hS hl)
theorem zs_ldc {i : Nat} {v : Int32} (C : zCx own cc nL D ad cA n p s m meth c) (hw : Jvm.Cond.constant own i v ∈ ztb) (hd : decode cc pc = .ok (.ldc i, 2)) (k : zAt p l e R s m args below meth c D ad cA n nL Qm (pc + 2) L (.int v :: S) h) : zAt p l e R s m args below meth c D ad cA n nL Qm pc L S h :=
  fun hn H locs ls hP hS hl => lv_ldc C.1 C.2.1 C.2.2.2.1 (C.2.2.2.2.1 _ hw _) hd (k hn H locs ls hP hS hl)
theorem zs_ldcw {i : Nat} {v : Int32} (C : zCx own cc nL D ad cA n p s m meth c) (hw : Jvm.Cond.constant own i v ∈ ztb) (hd : decode cc pc = .ok (.ldc_w i, 3)) (k : zAt p l e R s m args below meth c D ad cA n nL Qm (pc + 3) L (.int v :: S) h) : zAt p l e R s m args below meth c D ad cA n nL Qm pc L S h :=
  fun hn H locs ls hP hS hl => lv_ldcw C.1 C.2.1 C.2.2.2.1 (C.2.2.2.2.1 _ hw _) hd (k hn H locs ls hP hS hl)
theorem zs_ldc2 {i : Nat} {v : Int64} (C : zCx own cc nL D ad cA n p s m meth c) (hw : Jvm.Cond.constantLong own i v ∈ ztb) (hd : decode cc pc = .ok (.ldc2_w i, 3)) (k : zAt p l e R s m args below meth c D ad cA n nL Qm (pc + 3) L (.long v :: S) h) : zAt p l e R s m args below meth c D ad cA n nL Qm pc L S h :=
  fun hn H locs ls hP hS hl => lv_ldc2 C.1 C.2.1 C.2.2.2.1 (C.2.2.2.2.1 _ hw _) hd (k hn H locs ls hP hS hl)
theorem zs_ldcS {q : Nat × String × Nat} (hq : q ∈ zstr) (C : zCx RX4 cc nL D ad cA n p s m meth c) (hd : decode cc pc = .ok (.ldc q.1, 2)) (k : zAt p l e R s m args below meth c D ad cA n nL Qm (pc + 2) L (.ref q.2.2 :: S) h) : zAt p l e R s m args below meth c D ad cA n nL Qm pc L S h :=
  fun hn H locs ls hP hS hl => va_ldcS C.1 C.2.1 C.2.2.2.1 (C.2.2.2.2.2.2.2.1.1 q hq) hd (k hn H locs ls hP hS hl)
theorem zs_goto {off : Int} {t : Nat} (C : zCx own cc nL D ad cA n p s m meth c) (hd : decode cc pc = .ok (.goto off, 3)) (ht : (pc : Int) + off = (t : Int)) (k : zAt p l e R s m args below meth c D ad cA n nL Qm t L S h) : zAt p l e R s m args below meth c D ad cA n nL Qm pc L S h :=
  fun hn H locs ls hP hS hl => lv_goto C.1 C.2.1 hd ht (k hn H locs ls hP hS hl)
theorem zs_dup {u : Value} (C : zCx own cc nL D ad cA n p s m meth c) (hu : (zv ad u).category = 1) (hd : decode cc pc = .ok (.dup, 1)) (k : zAt p l e R s m args below meth c D ad cA n nL Qm (pc + 1) L (u :: u :: S) h) : zAt p l e R s m args below meth c D ad cA n nL Qm pc L (u :: S) h :=
  fun hn H locs ls hP hS hl => lv_dup C.1 C.2.1 hd hu (k hn H locs ls hP hS hl)
theorem zs_dup2 {u w : Value} (C : zCx own cc nL D ad cA n p s m meth c) (hu : (zv ad u).category = 1) (hw : (zv ad w).category = 1) (hd : decode cc pc = .ok (.dup2, 1)) (k : zAt p l e R s m args below meth c D ad cA n nL Qm (pc + 1) L (u :: w :: u :: w :: S) h) : zAt p l e R s m args below meth c D ad cA n nL Qm pc L (u :: w :: S) h :=
  fun hn H locs ls hP hS hl => lv_dup2_11 C.1 C.2.1 hd hu hw (k hn H locs ls hP hS hl)
/-! locals -/
theorem zs_at {ls : Array Slot} {a : Nat} {v : Value} (hl : lv_has ls nL (zla ad 0 L)) (hm : (0 + a, zv ad v) ∈ zla ad 0 L) : ls[a]? = some (.val (zv ad v)) := by
  rw [Nat.zero_add] at hm
  exact hl.2.2 _ hm
theorem zs_iload {a : Nat} {x : Int32} (C : zCx own cc nL D ad cA n p s m meth c) (hd : decode cc pc = .ok (.iload a, 2)) (hm : (0 + a, zv ad (.int x)) ∈ zla ad 0 L) (k : zAt p l e R s m args below meth c D ad cA n nL Qm (pc + 2) L (.int x :: S) h) : zAt p l e R s m args below meth c D ad cA n nL Qm pc L S h :=
  fun hn H locs ls hP hS hl => lv_iload C.1 C.2.1 hd (zs_at hl hm) (k hn H locs ls hP hS hl)
theorem zs_iload_n {a : Nat} {i : Fin 4} {x : Int32} (C : zCx own cc nL D ad cA n p s m meth c) (hd : decode cc pc = .ok (.iload_n i, 1)) (hi : (i : Nat) = a) (hm : (0 + a, zv ad (.int x)) ∈ zla ad 0 L) (k : zAt p l e R s m args below meth c D ad cA n nL Qm (pc + 1) L (.int x :: S) h) : zAt p l e R s m args below meth c D ad cA n nL Qm pc L S h :=
  fun hn H locs ls hP hS hl => lv_iload_n C.1 C.2.1 hd hi (zs_at hl hm) (k hn H locs ls hP hS hl)
theorem zs_lload {a : Nat} {x : Int64} (C : zCx own cc nL D ad cA n p s m meth c) (hd : decode cc pc = .ok (.lload a, 2)) (hm : (0 + a, zv ad (.long x)) ∈ zla ad 0 L) (k : zAt p l e R s m args below meth c D ad cA n nL Qm (pc + 2) L (.long x :: S) h) : zAt p l e R s m args below meth c D ad cA n nL Qm pc L S h :=
  fun hn H locs ls hP hS hl => lv_lload C.1 C.2.1 hd (zs_at hl hm) (k hn H locs ls hP hS hl)
theorem zs_lload_n {a : Nat} {i : Fin 4} {x : Int64} (C : zCx own cc nL D ad cA n p s m meth c) (hd : decode cc pc = .ok (.lload_n i, 1)) (hi : (i : Nat) = a) (hm : (0 + a, zv ad (.long x)) ∈ zla ad 0 L) (k : zAt p l e R s m args below meth c D ad cA n nL Qm (pc + 1) L (.long x :: S) h) : zAt p l e R s m args below meth c D ad cA n nL Qm pc L S h :=
  fun hn H locs ls hP hS hl => lv_lload_n C.1 C.2.1 hd hi (zs_at hl hm) (k hn H locs ls hP hS hl)
theorem zs_aload {a : Nat} {x : Nat} (C : zCx own cc nL D ad cA n p s m meth c) (hd : decode cc pc = .ok (.aload a, 2)) (hm : (0 + a, zv ad (.ref x)) ∈ zla ad 0 L) (k : zAt p l e R s m args below meth c D ad cA n nL Qm (pc + 2) L (.ref x :: S) h) : zAt p l e R s m args below meth c D ad cA n nL Qm pc L S h :=
  fun hn H locs ls hP hS hl => lv_aload C.1 C.2.1 hd (zs_at hl hm) (k hn H locs ls hP hS hl)
theorem zs_aload_n {a : Nat} {i : Fin 4} {x : Nat} (C : zCx own cc nL D ad cA n p s m meth c) (hd : decode cc pc = .ok (.aload_n i, 1)) (hi : (i : Nat) = a) (hm : (0 + a, zv ad (.ref x)) ∈ zla ad 0 L) (k : zAt p l e R s m args below meth c D ad cA n nL Qm (pc + 1) L (.ref x :: S) h) : zAt p l e R s m args below meth c D ad cA n nL Qm pc L S h :=
  fun hn H locs ls hP hS hl => lv_aload_n C.1 C.2.1 hd hi (zs_at hl hm) (k hn H locs ls hP hS hl)
theorem zs_istore {a : Nat} {x : Int32} {L' : zL} (C : zCx own cc nL D ad cA n p s m meth c) (hd : decode cc pc = .ok (.istore a, 2)) (ha : a < nL) (hL : ∀ q ∈ zla ad 0 L', q = (0 + a, zv ad (.int x)) ∨ (q ∈ zla ad 0 L ∧ q.1 ≠ 0 + a ∧ ¬ (q.1 + 1 = 0 + a ∧ q.2.category = 2))) (k : zAt p l e R s m args below meth c D ad cA n nL Qm (pc + 2) L' S h) : zAt p l e R s m args below meth c D ad cA n nL Qm pc L (.int x :: S) h := by
  intro hn H locs ls hP hS hl
  refine lv_istore C.1 C.2.1 hd hl ha rfl (fun ls' hl' => k hn H locs ls' hP hS (z_fewer hl' (fun q hq => ?_)))
  rcases hL q hq with rfl | ⟨h1, h2, h3⟩
  · simp [zv]
  · refine List.mem_cons_of_mem _ (List.mem_filter.mpr ⟨h1, ?_⟩)
    rw [Nat.zero_add] at h2 h3
    simp [h2]
    omega
theorem zs_istore_n {a : Nat} {i : Fin 4} {x : Int32} {L' : zL} (C : zCx own cc nL D ad cA n p s m meth c) (hd : decode cc pc = .ok (.istore_n i, 1)) (hi : (i : Nat) = a) (ha : a < nL) (hL : ∀ q ∈ zla ad 0 L', q = (0 + a, zv ad (.int x)) ∨ (q ∈ zla ad 0 L ∧ q.1 ≠ 0 + a ∧ ¬ (q.1 + 1 = 0 + a ∧ q.2.category = 2))) (k : zAt p l e R s m args below meth c D ad cA n nL Qm (pc + 1) L' S h) : zAt p l e R s m args below meth c D ad cA n nL Qm pc L (.int x :: S) h := by
  intro hn H locs ls hP hS hl
  refine lv_istore_n C.1 C.2.1 hd hi hl ha rfl (fun ls' hl' => k hn H locs ls' hP hS (z_fewer hl' (fun q hq => ?_)))
  rcases hL q hq with rfl | ⟨h1, h2, h3⟩
  · simp [zv]
  · refine List.mem_cons_of_mem _ (List.mem_filter.mpr ⟨h1, ?_⟩)
    rw [Nat.zero_add] at h2 h3
    simp [h2]
    omega
theorem zs_astore_n {a : Nat} {i : Fin 4} {x : Nat} {L' : zL} (C : zCx own cc nL D ad cA n p s m meth c) (hd : decode cc pc = .ok (.astore_n i, 1)) (hi : (i : Nat) = a) (ha : a < nL) (hL : ∀ q ∈ zla ad 0 L', q = (0 + a, zv ad (.ref x)) ∨ (q ∈ zla ad 0 L ∧ q.1 ≠ 0 + a ∧ ¬ (q.1 + 1 = 0 + a ∧ q.2.category = 2))) (k : zAt p l e R s m args below meth c D ad cA n nL Qm (pc + 1) L' S h) : zAt p l e R s m args below meth c D ad cA n nL Qm pc L (.ref x :: S) h := by
  intro hn H locs ls hP hS hl
  refine lv_astore_n C.1 C.2.1 hd hi hl ha rfl (fun ls' hl' => k hn H locs ls' hP hS (z_fewer hl' (fun q hq => ?_)))
  rcases hL q hq with rfl | ⟨h1, h2, h3⟩
  · simp [zv]
  · refine List.mem_cons_of_mem _ (List.mem_filter.mpr ⟨h1, ?_⟩)
    rw [Nat.zero_add] at h2 h3
    simp [h2]
    omega
theorem zs_lstore {a : Nat} {x : Int64} {L' : zL} (C : zCx own cc nL D ad cA n p s m meth c) (hd : decode cc pc = .ok (.lstore a, 2)) (ha : a + 1 < nL) (hL : ∀ q ∈ zla ad 0 L', q = (0 + a, zv ad (.long x)) ∨ (q ∈ zla ad 0 L ∧ q.1 ≠ 0 + a ∧ ¬ (q.1 + 1 = 0 + a ∧ q.2.category = 2)) ∧ q.1 ≠ 0 + (a + 1)) (k : zAt p l e R s m args below meth c D ad cA n nL Qm (pc + 2) L' S h) : zAt p l e R s m args below meth c D ad cA n nL Qm pc L (.long x :: S) h := by
  intro hn H locs ls hP hS hl
  refine lv_lstore C.1 C.2.1 hd hl ha rfl (fun ls' hl' => k hn H locs ls' hP hS (z_fewer hl' (fun q hq => ?_)))
  rcases hL q hq with rfl | ⟨⟨h1, h2, h3⟩, h4⟩
  · simp [zv]
  · refine List.mem_cons_of_mem _ (List.mem_filter.mpr ⟨h1, ?_⟩)
    rw [Nat.zero_add] at h2 h3 h4
    simp [h2, h4]
    omega
theorem zs_lstore_n {a : Nat} {i : Fin 4} {x : Int64} {L' : zL} (C : zCx own cc nL D ad cA n p s m meth c) (hd : decode cc pc = .ok (.lstore_n i, 1)) (hi : (i : Nat) = a) (ha : a + 1 < nL) (hL : ∀ q ∈ zla ad 0 L', q = (0 + a, zv ad (.long x)) ∨ (q ∈ zla ad 0 L ∧ q.1 ≠ 0 + a ∧ ¬ (q.1 + 1 = 0 + a ∧ q.2.category = 2)) ∧ q.1 ≠ 0 + (a + 1)) (k : zAt p l e R s m args below meth c D ad cA n nL Qm (pc + 1) L' S h) : zAt p l e R s m args below meth c D ad cA n nL Qm pc L (.long x :: S) h := by
  intro hn H locs ls hP hS hl
  refine lv_lstore_n C.1 C.2.1 hd hi hl ha rfl (fun ls' hl' => k hn H locs ls' hP hS (z_fewer hl' (fun q hq => ?_)))
  rcases hL q hq with rfl | ⟨⟨h1, h2, h3⟩, h4⟩
  · simp [zv]
  · refine List.mem_cons_of_mem _ (List.mem_filter.mpr ⟨h1, ?_⟩)
    rw [Nat.zero_add] at h2 h3 h4
    simp [h2, h4]
    omega
theorem zs_iinc {a : Nat} {d : Int} {x : Int32} {L' : zL} (C : zCx own cc nL D ad cA n p s m meth c) (hd : decode cc pc = .ok (.iinc a d, 3)) (ha : a < nL) (hx : (0 + a, zv ad (.int x)) ∈ zla ad 0 L) (hL : ∀ q ∈ zla ad 0 L', q = (0 + a, zv ad (.int (x + Int32.ofInt d))) ∨ (q ∈ zla ad 0 L ∧ q.1 ≠ 0 + a ∧ ¬ (q.1 + 1 = 0 + a ∧ q.2.category = 2))) (k : zAt p l e R s m args below meth c D ad cA n nL Qm (pc + 3) L' S h) : zAt p l e R s m args below meth c D ad cA n nL Qm pc L S h := by
  intro hn H locs ls hP hS hl
  obtain ⟨k0, hk0⟩ := List.getElem?_of_mem hx
  rw [Nat.zero_add] at hk0
  refine lv_iinc (v := x + Int32.ofInt d) C.1 C.2.1 hd hl hk0 rfl ha rfl (fun ls' hl' => k hn H locs ls' hP hS (z_fewer hl' (fun q hq => ?_)))
  rcases hL q hq with rfl | ⟨h1, h2, h3⟩
  · simp [zv]
  · refine List.mem_cons_of_mem _ (List.mem_filter.mpr ⟨h1, ?_⟩)
    rw [Nat.zero_add] at h2 h3
    simp [h2]
    omega
/-! arithmetic -/
theorem zs_iadd {x y : Int32} (C : zCx own cc nL D ad cA n p s m meth c) (hd : decode cc pc = .ok (.iadd, 1)) (k : zAt p l e R s m args below meth c D ad cA n nL Qm (pc + 1) L (.int (x + y) :: S) h) : zAt p l e R s m args below meth c D ad cA n nL Qm pc L (.int y :: .int x :: S) h :=
  fun hn H locs ls hP hS hl => lv_iadd C.1 C.2.1 hd (k hn H locs ls hP hS hl)
theorem zs_isub {x y : Int32} (C : zCx own cc nL D ad cA n p s m meth c) (hd : decode cc pc = .ok (.isub, 1)) (k : zAt p l e R s m args below meth c D ad cA n nL Qm (pc + 1) L (.int (x - y) :: S) h) : zAt p l e R s m args below meth c D ad cA n nL Qm pc L (.int y :: .int x :: S) h :=
  fun hn H locs ls hP hS hl => lv_isub C.1 C.2.1 hd (k hn H locs ls hP hS hl)
theorem zs_imul {x y : Int32} (C : zCx own cc nL D ad cA n p s m meth c) (hd : decode cc pc = .ok (.imul, 1)) (k : zAt p l e R s m args below meth c D ad cA n nL Qm (pc + 1) L (.int (x * y) :: S) h) : zAt p l e R s m args below meth c D ad cA n nL Qm pc L (.int y :: .int x :: S) h :=
  fun hn H locs ls hP hS hl => lv_imul C.1 C.2.1 hd (k hn H locs ls hP hS hl)
theorem zs_iand {x y : Int32} (C : zCx own cc nL D ad cA n p s m meth c) (hd : decode cc pc = .ok (.iand, 1)) (k : zAt p l e R s m args below meth c D ad cA n nL Qm (pc + 1) L (.int (x &&& y) :: S) h) : zAt p l e R s m args below meth c D ad cA n nL Qm pc L (.int y :: .int x :: S) h :=
  fun hn H locs ls hP hS hl => lv_iand C.1 C.2.1 hd (k hn H locs ls hP hS hl)
theorem zs_ior {x y : Int32} (C : zCx own cc nL D ad cA n p s m meth c) (hd : decode cc pc = .ok (.ior, 1)) (k : zAt p l e R s m args below meth c D ad cA n nL Qm (pc + 1) L (.int (x ||| y) :: S) h) : zAt p l e R s m args below meth c D ad cA n nL Qm pc L (.int y :: .int x :: S) h :=
  fun hn H locs ls hP hS hl => lv_ior C.1 C.2.1 hd (k hn H locs ls hP hS hl)
theorem zs_ixor {x y : Int32} (C : zCx own cc nL D ad cA n p s m meth c) (hd : decode cc pc = .ok (.ixor, 1)) (k : zAt p l e R s m args below meth c D ad cA n nL Qm (pc + 1) L (.int (x ^^^ y) :: S) h) : zAt p l e R s m args below meth c D ad cA n nL Qm pc L (.int y :: .int x :: S) h :=
  fun hn H locs ls hP hS hl => lv_ixor C.1 C.2.1 hd (k hn H locs ls hP hS hl)
theorem zs_ishl {x y : Int32} (C : zCx own cc nL D ad cA n p s m meth c) (hd : decode cc pc = .ok (.ishl, 1)) (k : zAt p l e R s m args below meth c D ad cA n nL Qm (pc + 1) L (.int (x <<< (y &&& 31)) :: S) h) : zAt p l e R s m args below meth c D ad cA n nL Qm pc L (.int y :: .int x :: S) h :=
  fun hn H locs ls hP hS hl => lv_ishl C.1 C.2.1 hd (k hn H locs ls hP hS hl)
theorem zs_ishr {x y : Int32} (C : zCx own cc nL D ad cA n p s m meth c) (hd : decode cc pc = .ok (.ishr, 1)) (k : zAt p l e R s m args below meth c D ad cA n nL Qm (pc + 1) L (.int (x >>> (y &&& 31)) :: S) h) : zAt p l e R s m args below meth c D ad cA n nL Qm pc L (.int y :: .int x :: S) h :=
  fun hn H locs ls hP hS hl => lv_ishr C.1 C.2.1 hd (k hn H locs ls hP hS hl)
theorem zs_ladd {x y : Int64} (C : zCx own cc nL D ad cA n p s m meth c) (hd : decode cc pc = .ok (.ladd, 1)) (k : zAt p l e R s m args below meth c D ad cA n nL Qm (pc + 1) L (.long (x + y) :: S) h) : zAt p l e R s m args below meth c D ad cA n nL Qm pc L (.long y :: .long x :: S) h :=
  fun hn H locs ls hP hS hl => lv_ladd C.1 C.2.1 hd (k hn H locs ls hP hS hl)
theorem zs_lsub {x y : Int64} (C : zCx own cc nL D ad cA n p s m meth c) (hd : decode cc pc = .ok (.lsub, 1)) (k : zAt p l e R s m args below meth c D ad cA n nL Qm (pc + 1) L (.long (x - y) :: S) h) : zAt p l e R s m args below meth c D ad cA n nL Qm pc L (.long y :: .long x :: S) h :=
  fun hn H locs ls hP hS hl => lv_lsub C.1 C.2.1 hd (k hn H locs ls hP hS hl)
theorem zs_lmul {x y : Int64} (C : zCx own cc nL D ad cA n p s m meth c) (hd : decode cc pc = .ok (.lmul, 1)) (k : zAt p l e R s m args below meth c D ad cA n nL Qm (pc + 1) L (.long (x * y) :: S) h) : zAt p l e R s m args below meth c D ad cA n nL Qm pc L (.long y :: .long x :: S) h :=
  fun hn H locs ls hP hS hl => lv_lmul C.1 C.2.1 hd (k hn H locs ls hP hS hl)
theorem zs_iushr {x y : Int32} (C : zCx own cc nL D ad cA n p s m meth c) (hd : decode cc pc = .ok (.iushr, 1)) (k : zAt p l e R s m args below meth c D ad cA n nL Qm (pc + 1) L (.int (x.toUInt32 >>> (y.toUInt32 &&& Int32.toUInt32 31)).toInt32 :: S) h) : zAt p l e R s m args below meth c D ad cA n nL Qm pc L (.int y :: .int x :: S) h :=
  fun hn H locs ls hP hS hl => lv_iushr C.1 C.2.1 hd rfl (k hn H locs ls hP hS hl)
theorem zs_lshl {x : Int64} {y : Int32} (C : zCx own cc nL D ad cA n p s m meth c) (hd : decode cc pc = .ok (.lshl, 1)) (k : zAt p l e R s m args below meth c D ad cA n nL Qm (pc + 1) L (.long (x <<< (y.toInt64 &&& 63)) :: S) h) : zAt p l e R s m args below meth c D ad cA n nL Qm pc L (.int y :: .long x :: S) h :=
  fun hn H locs ls hP hS hl => lv_lshl C.1 C.2.1 hd rfl (k hn H locs ls hP hS hl)
theorem zs_lcmp {x y : Int64} (C : zCx own cc nL D ad cA n p s m meth c) (hd : decode cc pc = .ok (.lcmp, 1)) (k : zAt p l e R s m args below meth c D ad cA n nL Qm (pc + 1) L (.int (lg_cmp x y) :: S) h) : zAt p l e R s m args below meth c D ad cA n nL Qm pc L (.long y :: .long x :: S) h :=
  fun hn H locs ls hP hS hl => W.lcmp C.1 C.2.1 hd (k hn H locs ls hP hS hl)
theorem zs_ineg {x : Int32} (C : zCx own cc nL D ad cA n p s m meth c) (hd : decode cc pc = .ok (.ineg, 1)) (k : zAt p l e R s m args below meth c D ad cA n nL Qm (pc + 1) L (.int (-x) :: S) h) : zAt p l e R s m args below meth c D ad cA n nL Qm pc L (.int x :: S) h :=
  fun hn H locs ls hP hS hl => lv_ineg C.1 C.2.1 hd (k hn H locs ls hP hS hl)
theorem zs_i2b {x : Int32} (C : zCx own cc nL D ad cA n p s m meth c) (hd : decode cc pc = .ok (.i2b, 1)) (k : zAt p l e R s m args below meth c D ad cA n nL Qm (pc + 1) L (.int x.toInt8.toInt32 :: S) h) : zAt p l e R s m args below meth c D ad cA n nL Qm pc L (.int x :: S) h :=
  fun hn H locs ls hP hS hl => lv_i2b C.1 C.2.1 hd rfl (k hn H locs ls hP hS hl)
theorem zs_i2l {x : Int32} (C : zCx own cc nL D ad cA n p s m meth c) (hd : decode cc pc = .ok (.i2l, 1)) (k : zAt p l e R s m args below meth c D ad cA n nL Qm (pc + 1) L (.long x.toInt64 :: S) h) : zAt p l e R s m args below meth c D ad cA n nL Qm pc L (.int x :: S) h :=
  fun hn H locs ls hP hS hl => lv_i2l C.1 C.2.1 hd rfl (k hn H locs ls hP hS hl)
theorem zs_l2i {x : Int64} (C : zCx own cc nL D ad cA n p s m meth c) (hd : decode cc pc = .ok (.l2i, 1)) (k : zAt p l e R s m args below meth c D ad cA n nL Qm (pc + 1) L (.int x.toInt32 :: S) h) : zAt p l e R s m args below meth c D ad cA n nL Qm pc L (.long x :: S) h :=
  fun hn H locs ls hP hS hl => lv_l2i C.1 C.2.1 hd rfl (k hn H locs ls hP hS hl)
theorem zs_idiv {x y : Int32} (C : zCx own cc nL D ad cA n p s m meth c) (hd : decode cc pc = .ok (.idiv, 1)) (hy : ¬ y = 0) (k : zAt p l e R s m args below meth c D ad cA n nL Qm (pc + 1) L (.int (x / y) :: S) h) : zAt p l e R s m args below meth c D ad cA n nL Qm pc L (.int y :: .int x :: S) h :=
  fun hn H locs ls hP hS hl => lv_idiv C.1 C.2.1 hd hy (k hn H locs ls hP hS hl)
theorem zs_irem {x y : Int32} (C : zCx own cc nL D ad cA n p s m meth c) (hd : decode cc pc = .ok (.irem, 1)) (hy : ¬ y = 0) (k : zAt p l e R s m args below meth c D ad cA n nL Qm (pc + 1) L (.int (x - x / y * y) :: S) h) : zAt p l e R s m args below meth c D ad cA n nL Qm pc L (.int y :: .int x :: S) h :=
  fun hn H locs ls hP hS hl => lv_irem C.1 C.2.1 hd hy (k hn H locs ls hP hS hl)
/-! branches -/
theorem zs_if_eq {x : Int32} {off : Int} {t : Nat} (C : zCx own cc nL D ad cA n p s m meth c) (hd : decode cc pc = .ok (.ifCond .eq off, 3)) (ht : (pc : Int) + off = (t : Int)) (k : (x = 0 → zAt p l e R s m args below meth c D ad cA n nL Qm t L S h) ∧ (¬ x = 0 → zAt p l e R s m args below meth c D ad cA n nL Qm (pc + 3) L S h)) : zAt p l e R s m args below meth c D ad cA n nL Qm pc L (.int x :: S) h :=
  fun hn H locs ls hP hS hl => lv_if_eq C.1 C.2.1 hd ht (fun q => k.1 q hn H locs ls hP hS hl) (fun q => k.2 q hn H locs ls hP hS hl)
theorem zs_icmp_eq {x y : Int32} {off : Int} {t : Nat} (C : zCx own cc nL D ad cA n p s m meth c) (hd : decode cc pc = .ok (.if_icmp .eq off, 3)) (ht : (pc : Int) + off = (t : Int)) (k : (x = y → zAt p l e R s m args below meth c D ad cA n nL Qm t L S h) ∧ (¬ x = y → zAt p l e R s m args below meth c D ad cA n nL Qm (pc + 3) L S h)) : zAt p l e R s m args below meth c D ad cA n nL Qm pc L (.int y :: .int x :: S) h :=
  fun hn H locs ls hP hS hl => lv_icmp_eq C.1 C.2.1 hd ht (fun q => k.1 q hn H locs ls hP hS hl) (fun q => k.2 q hn H locs ls hP hS hl)
theorem zs_if_ne {x : Int32} {off : Int} {t : Nat} (C : zCx own cc nL D ad cA n p s m meth c) (hd : decode cc pc = .ok (.ifCond .ne off, 3)) (ht : (pc : Int) + off = (t : Int)) (k : (¬ x = 0 → zAt p l e R s m args below meth c D ad cA n nL Qm t L S h) ∧ (x = 0 → zAt p l e R s m args below meth c D ad cA n nL Qm (pc + 3) L S h)) : zAt p l e R s m args below meth c D ad cA n nL Qm pc L (.int x :: S) h :=
  fun hn H locs ls hP hS hl => lv_if_ne C.1 C.2.1 hd ht (fun q => k.1 q hn H locs ls hP hS hl) (fun q => k.2 q hn H locs ls hP hS hl)
theorem zs_icmp_ne {x y : Int32} {off : Int} {t : Nat} (C : zCx own cc nL D ad cA n p s m meth c) (hd : decode cc pc = .ok (.if_icmp .ne off, 3)) (ht : (pc : Int) + off = (t : Int)) (k : (¬ x = y → zAt p l e R s m args below meth c D ad cA n nL Qm t L S h) ∧ (x = y → zAt p l e R s m args below meth c D ad cA n nL Qm (pc + 3) L S h)) : zAt p l e R s m args below meth c D ad cA n nL Qm pc L (.int y :: .int x :: S) h :=
  fun hn H locs ls hP hS hl => lv_icmp_ne C.1 C.2.1 hd ht (fun q => k.1 q hn H locs ls hP hS hl) (fun q => k.2 q hn H locs ls hP hS hl)
theorem zs_if_lt {x : Int32} {off : Int} {t : Nat} (C : zCx own cc nL D ad cA n p s m meth c) (hd : decode cc pc = .ok (.ifCond .lt off, 3)) (ht : (pc : Int) + off = (t : Int)) (k : (x < 0 → zAt p l e R s m args below meth c D ad cA n nL Qm t L S h) ∧ (¬ x < 0 → zAt p l e R s m args below meth c D ad cA n nL Qm (pc + 3) L S h)) : zAt p l e R s m args below meth c D ad cA n nL Qm pc L (.int x :: S) h :=
  fun hn H locs ls hP hS hl => lv_if_lt C.1 C.2.1 hd ht (fun q => k.1 q hn H locs ls hP hS hl) (fun q => k.2 q hn H locs ls hP hS hl)
theorem zs_icmp_lt {x y : Int32} {off : Int} {t : Nat} (C : zCx own cc nL D ad cA n p s m meth c) (hd : decode cc pc = .ok (.if_icmp .lt off, 3)) (ht : (pc : Int) + off = (t : Int)) (k : (x < y → zAt p l e R s m args below meth c D ad cA n nL Qm t L S h) ∧ (¬ x < y → zAt p l e R s m args below meth c D ad cA n nL Qm (pc + 3) L S h)) : zAt p l e R s m args below meth c D ad cA n nL Qm pc L (.int y :: .int x :: S) h :=
  fun hn H locs ls hP hS hl => lv_icmp_lt C.1 C.2.1 hd ht (fun q => k.1 q hn H locs ls hP hS hl) (fun q => k.2 q hn H locs ls hP hS hl)
theorem zs_if_ge {x : Int32} {off : Int} {t : Nat} (C : zCx own cc nL D ad cA n p s m meth c) (hd : decode cc pc = .ok (.ifCond .ge off, 3)) (ht : (pc : Int) + off = (t : Int)) (k : (0 ≤ x → zAt p l e R s m args below meth c D ad cA n nL Qm t L S h) ∧ (¬ 0 ≤ x → zAt p l e R s m args below meth c D ad cA n nL Qm (pc + 3) L S h)) : zAt p l e R s m args below meth c D ad cA n nL Qm pc L (.int x :: S) h :=
  fun hn H locs ls hP hS hl => lv_if_ge C.1 C.2.1 hd ht (fun q => k.1 q hn H locs ls hP hS hl) (fun q => k.2 q hn H locs ls hP hS hl)
theorem zs_icmp_ge {x y : Int32} {off : Int} {t : Nat} (C : zCx own cc nL D ad cA n p s m meth c) (hd : decode cc pc = .ok (.if_icmp .ge off, 3)) (ht : (pc : Int) + off = (t : Int)) (k : (y ≤ x → zAt p l e R s m args below meth c D ad cA n nL Qm t L S h) ∧ (¬ y ≤ x → zAt p l e R s m args below meth c D ad cA n nL Qm (pc + 3) L S h)) : zAt p l e R s m args below meth c D ad cA n nL Qm pc L (.int y :: .int x :: S) h :=
  fun hn H locs ls hP hS hl => lv_icmp_ge C.1 C.2.1 hd ht (fun q => k.1 q hn H locs ls hP hS hl) (fun q => k.2 q hn H locs ls hP hS hl)
theorem zs_if_gt {x : Int32} {off : Int} {t : Nat} (C : zCx own cc nL D ad cA n p s m meth c) (hd : decode cc pc = .ok (.ifCond .gt off, 3)) (ht : (pc : Int) + off = (t : Int)) (k : (0 < x → zAt p l e R s m args below meth c D ad cA n nL Qm t L S h) ∧ (¬ 0 < x → zAt p l e R s m args below meth c D ad cA n nL Qm (pc + 3) L S h)) : zAt p l e R s m args below meth c D ad cA n nL Qm pc L (.int x :: S) h :=
  fun hn H locs ls hP hS hl => lv_if_gt C.1 C.2.1 hd ht (fun q => k.1 q hn H locs ls hP hS hl) (fun q => k.2 q hn H locs ls hP hS hl)
theorem zs_icmp_gt {x y : Int32} {off : Int} {t : Nat} (C : zCx own cc nL D ad cA n p s m meth c) (hd : decode cc pc = .ok (.if_icmp .gt off, 3)) (ht : (pc : Int) + off = (t : Int)) (k : (y < x → zAt p l e R s m args below meth c D ad cA n nL Qm t L S h) ∧ (¬ y < x → zAt p l e R s m args below meth c D ad cA n nL Qm (pc + 3) L S h)) : zAt p l e R s m args below meth c D ad cA n nL Qm pc L (.int y :: .int x :: S) h :=
  fun hn H locs ls hP hS hl => lv_icmp_gt C.1 C.2.1 hd ht (fun q => k.1 q hn H locs ls hP hS hl) (fun q => k.2 q hn H locs ls hP hS hl)
theorem zs_if_le {x : Int32} {off : Int} {t : Nat} (C : zCx own cc nL D ad cA n p s m meth c) (hd : decode cc pc = .ok (.ifCond .le off, 3)) (ht : (pc : Int) + off = (t : Int)) (k : (x ≤ 0 → zAt p l e R s m args below meth c D ad cA n nL Qm t L S h) ∧ (¬ x ≤ 0 → zAt p l e R s m args below meth c D ad cA n nL Qm (pc + 3) L S h)) : zAt p l e R s m args below meth c D ad cA n nL Qm pc L (.int x :: S) h :=
  fun hn H locs ls hP hS hl => lv_if_le C.1 C.2.1 hd ht (fun q => k.1 q hn H locs ls hP hS hl) (fun q => k.2 q hn H locs ls hP hS hl)
theorem zs_icmp_le {x y : Int32} {off : Int} {t : Nat} (C : zCx own cc nL D ad cA n p s m meth c) (hd : decode cc pc = .ok (.if_icmp .le off, 3)) (ht : (pc : Int) + off = (t : Int)) (k : (x ≤ y → zAt p l e R s m args below meth c D ad cA n nL Qm t L S h) ∧ (¬ x ≤ y → zAt p l e R s m args below meth c D ad cA n nL Qm (pc + 3) L S h)) : zAt p l e R s m args below meth c D ad cA n nL Qm pc L (.int y :: .int x :: S) h :=
  fun hn H locs ls hP hS hl => lv_icmp_le C.1 C.2.1 hd ht (fun q => k.1 q hn H locs ls hP hS hl) (fun q => k.2 q hn H locs ls hP hS hl)
theorem zs_tab {d lo hi : Int} {offs : Array Int} {len : Nat} {x : Int32} {a : Nat} (C : zCx own cc nL D ad cA n p s m meth c) (hd : decode cc pc = .ok (.tableswitch d lo hi offs, len)) (ha : (pc : Int) + d = (a : Int)) (hsz : hi = lo + (offs.size : Int) - 1) (hpos : ∀ o ∈ offs.toList, 0 ≤ (pc : Int) + o)
    (k0 : x.toInt < lo ∨ hi < x.toInt → zAt p l e R s m args below meth c D ad cA n nL Qm a L S h) (k1 : ztab x (fun t => zAt p l e R s m args below meth c D ad cA n nL Qm t L S h) lo (offs.toList.map (fun o => ((pc : Int) + o).toNat))) : zAt p l e R s m args below meth c D ad cA n nL Qm pc L (.int x :: S) h := by
  have key : ∀ (ts : List Nat) (k : Int) (j : Nat) (t : Nat), ztab x (fun t => zAt p l e R s m args below meth c D ad cA n nL Qm t L S h) k ts → ts[j]? = some t → x.toInt = k + j → zAt p l e R s m args below meth c D ad cA n nL Qm t L S h := by
    intro ts
    induction ts with
    | nil => intro k j t h1 h2; simp at h2
    | cons u ts ih =>
      intro k j t h1 h2 h3
      cases j with
      | zero =>
        simp only [List.getElem?_cons_zero, Option.some.injEq] at h2
        subst h2
        exact h1.1 (by simpa using h3)
      | succ j =>
        rw [List.getElem?_cons_succ] at h2
        exact ih (k + 1) j t h1.2 h2 (by rw [h3]; push_cast; omega)
  intro hn H locs ls hP hS hl
  by_cases hin : x.toInt < lo ∨ hi < x.toInt
  · exact lv_tableOut C.1 C.2.1 hd hin ha (k0 hin hn H locs ls hP hS hl)
  · have h1 : ¬ x.toInt < lo := fun q => hin (Or.inl q)
    have h2 : ¬ hi < x.toInt := fun q => hin (Or.inr q)
    have hj : (x.toInt - lo).toNat < offs.size := by omega
    have ho : offs[(x.toInt - lo).toNat]? = some offs[(x.toInt - lo).toNat] := Array.getElem?_eq_getElem hj
    have hm : offs[(x.toInt - lo).toNat] ∈ offs.toList := by simp
    have hp := hpos _ hm
    refine lv_tableIn C.1 C.2.1 hd h1 h2 ho (tgt := ((pc : Int) + offs[(x.toInt - lo).toNat]).toNat) (by omega) ?_
    refine key _ lo (x.toInt - lo).toNat _ k1 ?_ (by omega) hn H locs ls hP hS hl
    simp [hj]
theorem zs_lkp {d : Int} {ps : Array (Int × Int)} {len : Nat} {x : Int32} {a : Nat} (C : zCx own cc nL D ad cA n p s m meth c) (hd : decode cc pc = .ok (.lookupswitch d ps, len)) (ha : (pc : Int) + d = (a : Int)) (hord : (ps.toList.zip (ps.toList.drop 1)).all (fun (a, next) => a.1 < next.1) = true) (hpos : ∀ o ∈ ps.toList, 0 ≤ (pc : Int) + o.2)
    (k1 : zlkp x (fun t => zAt p l e R s m args below meth c D ad cA n nL Qm t L S h) a (ps.toList.map (fun q => (q.1, ((pc : Int) + q.2).toNat)))) : zAt p l e R s m args below meth c D ad cA n nL Qm pc L (.int x :: S) h := by
  have key : ∀ (qs : List (Int × Int)), (∀ o ∈ qs, 0 ≤ (pc : Int) + o.2) → zlkp x (fun t => zAt p l e R s m args below meth c D ad cA n nL Qm t L S h) a (qs.map (fun q => (q.1, ((pc : Int) + q.2).toNat))) → ∃ t : Nat, (pc : Int) + Op.lookupswitch.offset qs d x.toInt = (t : Int) ∧ zAt p l e R s m args below meth c D ad cA n nL Qm t L S h := by
    intro qs
    induction qs with
    | nil => intro _ h1; exact ⟨a, by simpa [Op.lookupswitch.offset] using ha, h1⟩
    | cons q qs ih =>
      intro hq h1
      by_cases hx : x.toInt = q.1
      · have := hq q List.mem_cons_self
        exact ⟨((pc : Int) + q.2).toNat, by simp [Op.lookupswitch.offset, hx]; omega, h1.1 hx⟩
      · obtain ⟨t, e1, e2⟩ := ih (fun o ho => hq o (List.mem_cons_of_mem _ ho)) (h1.2 hx)
        refine ⟨t, ?_, e2⟩
        have hx' : ¬ q.1 = x.toInt := fun z => hx z.symm
        simpa [Op.lookupswitch.offset, hx, hx'] using e1
  intro hn H locs ls hP hS hl
  obtain ⟨t, e1, e2⟩ := key ps.toList hpos k1
  exact lv_lookup C.1 C.2.1 hd hord rfl e1 (e2 hn H locs ls hP hS hl)
/-! arrays -/
theorem zs_iald {r : Nat} {i : Int32} {N : Nat} {f : Nat → Int32} (C : zCx own cc nL D ad cA n p s m meth c) (hd : decode cc pc = .ok (.iaload, 1)) (hr : h[r]? = some (.inl (0, N, .inl f))) (hi : vp_in i N) (k : zAt p l e R s m args below meth c D ad cA n nL Qm (pc + 1) L (.int (f i.toNatClampNeg) :: S) h) : zAt p l e R s m args below meth c D ad cA n nL Qm pc L (.int i :: .ref r :: S) h :=
  fun hn H locs ls hP hS hl => va_iald C.1 C.2.1 C.2.2.2.2.2.1 hP r 0 (zw_get hr) rfl hi hd (k hn H locs ls hP hS hl)
theorem zs_zald {r : Nat} {i : Int32} {N : Nat} {f : Nat → Int32} (C : zCx own cc nL D ad cA n p s m meth c) (hd : decode cc pc = .ok (.baload, 1)) (hr : h[r]? = some (.inl (1, N, .inl f))) (hi : vp_in i N) (k : zAt p l e R s m args below meth c D ad cA n nL Qm (pc + 1) L (.int (f i.toNatClampNeg) :: S) h) : zAt p l e R s m args below meth c D ad cA n nL Qm pc L (.int i :: .ref r :: S) h :=
  fun hn H locs ls hP hS hl => va_zald C.1 C.2.1 C.2.2.2.2.2.1 hP r 1 (zw_get hr) rfl hi hd (k hn H locs ls hP hS hl)
theorem zs_bald {r : Nat} {i : Int32} {N : Nat} {f : Nat → Int32} (C : zCx own cc nL D ad cA n p s m meth c) (hd : decode cc pc = .ok (.baload, 1)) (hr : h[r]? = some (.inl (2, N, .inl f))) (hi : vp_in i N) (k : zAt p l e R s m args below meth c D ad cA n nL Qm (pc + 1) L (.int (f i.toNatClampNeg) :: S) h) : zAt p l e R s m args below meth c D ad cA n nL Qm pc L (.int i :: .ref r :: S) h :=
  fun hn H locs ls hP hS hl => va_bald C.1 C.2.1 C.2.2.2.2.2.1 hP r 2 (zw_get hr) rfl hi hd (k hn H locs ls hP hS hl)
theorem zs_lald {r : Nat} {i : Int32} {N : Nat} {f : Nat → Int64} (C : zCx own cc nL D ad cA n p s m meth c) (hd : decode cc pc = .ok (.laload, 1)) (hr : h[r]? = some (.inl (3, N, .inr (.inl f)))) (hi : vp_in i N) (k : zAt p l e R s m args below meth c D ad cA n nL Qm (pc + 1) L (.long (f i.toNatClampNeg) :: S) h) : zAt p l e R s m args below meth c D ad cA n nL Qm pc L (.int i :: .ref r :: S) h :=
  fun hn H locs ls hP hS hl => va_lald C.1 C.2.1 C.2.2.2.2.2.1 hP r 3 (zw_get hr) rfl hi hd (k hn H locs ls hP hS hl)
theorem zs_iast {r : Nat} {i x : Int32} {N : Nat} {f : Nat → Int32} (C : zCx own cc nL D ad cA n p s m meth c) (hd : decode cc pc = .ok (.iastore, 1)) (hr : h[r]? = some (.inl (0, N, .inl f))) (hi : vp_in i N) (k : zAt p l e R s m args below meth c D ad cA n nL Qm (pc + 1) L S (h.set r (.inl (0, N, .inl (upd f i.toNatClampNeg x))))) : zAt p l e R s m args below meth c D ad cA n nL Qm pc L (.int x :: .int i :: .ref r :: S) h :=
  fun hn H locs ls hP hS hl => va_iast C.1 C.2.1 C.2.2.2.2.2.1 hP (zw_D hn C.2.2.2.2.2.2.1) hS r 0 (zw_get hr) rfl hi hd (fun H1 locs1 hP1 _ hS1 => k (by simp [hn]) H1 locs1 ls (by rw [← zw_set]; exact hP1) hS1 hl)
theorem zs_zast {r : Nat} {i x : Int32} {N : Nat} {f : Nat → Int32} (C : zCx own cc nL D ad cA n p s m meth c) (hd : decode cc pc = .ok (.bastore, 1)) (hr : h[r]? = some (.inl (1, N, .inl f))) (hi : vp_in i N) (k : zAt p l e R s m args below meth c D ad cA n nL Qm (pc + 1) L S (h.set r (.inl (1, N, .inl (upd f i.toNatClampNeg (vp_nar .boolean x)))))) : zAt p l e R s m args below meth c D ad cA n nL Qm pc L (.int x :: .int i :: .ref r :: S) h :=
  fun hn H locs ls hP hS hl => va_zast C.1 C.2.1 C.2.2.2.2.2.1 hP (zw_D hn C.2.2.2.2.2.2.1) hS r 1 (zw_get hr) rfl hi hd (fun H1 locs1 hP1 _ hS1 => k (by simp [hn]) H1 locs1 ls (by rw [← zw_set]; exact hP1) hS1 hl)
theorem zs_bast {r : Nat} {i x : Int32} {N : Nat} {f : Nat → Int32} (C : zCx own cc nL D ad cA n p s m meth c) (hd : decode cc pc = .ok (.bastore, 1)) (hr : h[r]? = some (.inl (2, N, .inl f))) (hi : vp_in i N) (k : zAt p l e R s m args below meth c D ad cA n nL Qm (pc + 1) L S (h.set r (.inl (2, N, .inl (upd f i.toNatClampNeg (vp_nar .byte x)))))) : zAt p l e R s m args below meth c D ad cA n nL Qm pc L (.int x :: .int i :: .ref r :: S) h :=
  fun hn H locs ls hP hS hl => va_bast C.1 C.2.1 C.2.2.2.2.2.1 hP (zw_D hn C.2.2.2.2.2.2.1) hS r 2 (zw_get hr) rfl hi hd (fun H1 locs1 hP1 _ hS1 => k (by simp [hn]) H1 locs1 ls (by rw [← zw_set]; exact hP1) hS1 hl)
theorem zs_last {r : Nat} {i : Int32} {x : Int64} {N : Nat} {f : Nat → Int64} (C : zCx own cc nL D ad cA n p s m meth c) (hd : decode cc pc = .ok (.lastore, 1)) (hr : h[r]? = some (.inl (3, N, .inr (.inl f)))) (hi : vp_in i N) (k : zAt p l e R s m args below meth c D ad cA n nL Qm (pc + 1) L S (h.set r (.inl (3, N, .inr (.inl (vp_updL f i.toNatClampNeg x)))))) : zAt p l e R s m args below meth c D ad cA n nL Qm pc L (.long x :: .int i :: .ref r :: S) h :=
  fun hn H locs ls hP hS hl => va_last C.1 C.2.1 C.2.2.2.2.2.1 hP (zw_D hn C.2.2.2.2.2.2.1) hS r 3 (zw_get hr) rfl hi hd (fun H1 locs1 hP1 _ hS1 => k (by simp [hn]) H1 locs1 ls (by rw [← zw_set]; exact hP1) hS1 hl)
end ZSTEP
