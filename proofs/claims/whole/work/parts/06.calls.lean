/-! FIELDS, CALLS, RETURNS; then the whole step, and a method out of its run -/
theorem zu_ws {C : String} {T : u_T} {N : Nat} (pl : List Nat) (h : (List.range N).all (fun k => zIn (pl.getD k 0) (u_lay C T k)) = true) : ∀ w ∈ u_ws C T N, w ∈ ztb := by
  intro w hw
  obtain ⟨k, hk, rfl⟩ := List.mem_map.mp hw
  exact zIn_mem (List.all_eq_true.mp h k hk)
set_option maxRecDepth 100000 in
theorem zu_0 : ∀ w ∈ u_ws RX0 TX0 14, w ∈ ztb := zu_ws [173, 175, 177, 179, 181, 183, 185, 187, 189, 191, 193, 195, 197, 199] (by decide +kernel)
set_option maxRecDepth 100000 in
theorem zu_1 : ∀ w ∈ u_ws RX1 TX1 14, w ∈ ztb := zu_ws [100, 102, 104, 106, 108, 110, 112, 114, 116, 118, 120, 122, 124, 126] (by decide +kernel)
set_option maxRecDepth 100000 in
theorem zu_2 : ∀ w ∈ u_ws RX2 TX2 14, w ∈ ztb := zu_ws [263, 265, 267, 269, 271, 273, 275, 277, 279, 281, 283, 285, 287, 289] (by decide +kernel)
set_option maxRecDepth 100000 in
theorem zu_3 : ∀ w ∈ u_ws RX3 TX3 11, w ∈ ztb := zu_ws [314, 316, 318, 320, 322, 324, 326, 328, 330, 332, 334] (by decide +kernel)
set_option maxRecDepth 100000 in
theorem zu_4 : ∀ w ∈ u_ws RX4 TX4 5, w ∈ ztb := zu_ws [229, 231, 233, 235, 237] (by decide +kernel)
set_option maxRecDepth 100000 in
theorem zu_5 : ∀ w ∈ u_ws RX5 TX5 1, w ∈ ztb := zu_ws [75] (by decide +kernel)
set_option maxRecDepth 100000 in
theorem zu_6 : ∀ w ∈ u_ws RX6 TX6 4, w ∈ ztb := zu_ws [142, 144, 146, 148] (by decide +kernel)
set_option maxRecDepth 100000 in
theorem zu_7 : ∀ w ∈ u_ws RX7 TX7 2, w ∈ ztb := zu_ws [213, 215] (by decide +kernel)
set_option maxRecDepth 100000 in
theorem zu_8 : ∀ w ∈ u_ws RX8 TX8 12, w ∈ ztb := zu_ws [350, 352, 354, 356, 358, 360, 362, 364, 366, 368, 370, 372] (by decide +kernel)
set_option maxRecDepth 100000 in
theorem zu_9 : ∀ w ∈ u_ws RX9 TX9 82, w ∈ ztb := zu_ws [959, 961, 963, 965, 967, 969, 971, 973, 975, 977, 979, 981, 983, 985, 987, 989, 991, 993, 995, 997, 999, 1001, 1003, 1005, 1007, 1009, 1011, 1013, 1015, 1017, 1019, 1021, 1023, 1025, 1027, 1029, 1031, 1033, 1035, 1037, 1039, 1041, 1043, 1045, 1047, 1049, 1051, 1053, 1055, 1057, 1059, 1061, 1063, 1065, 1067, 1069, 1071, 1073, 1075, 1077, 1079, 1081, 1083, 1085, 1087, 1089, 1091, 1093, 1095, 1097, 1099, 1101, 1103, 1105, 1107, 1109, 1111, 1113, 1115, 1117, 1119, 1121] (by decide +kernel)
def ztyp (ci : Nat) : Nat → FieldType := match ci with
  | 0 => tyX0
  | 1 => tyX1
  | 2 => tyX2
  | 3 => tyX3
  | 4 => tyX4
  | 5 => tyX5
  | 6 => tyX6
  | 7 => tyX7
  | 8 => tyX8
  | 9 => tyX9
  | _ => fun _ => .int
theorem z_cls : ∀ (ci : Nat) (q : vw_C), vwCl[ci]? = some q → (∀ w ∈ u_ws q.1 q.2.1 q.2.2, w ∈ ztb) ∧ (∀ k, k < q.2.2 → parseFieldDescriptor (q.2.1 k).2.2.1 = some (ztyp ci k)) ∧ (∀ a, a < q.2.2 → ∀ b, b < q.2.2 → a ≠ b → (q.2.1 a).2.1 ≠ (q.2.1 b).2.1)
  | 0, q, h => by cases h; exact ⟨zu_0, tyX0_ok, nmX0⟩
  | 1, q, h => by cases h; exact ⟨zu_1, tyX1_ok, nmX1⟩
  | 2, q, h => by cases h; exact ⟨zu_2, tyX2_ok, nmX2⟩
  | 3, q, h => by cases h; exact ⟨zu_3, tyX3_ok, nmX3⟩
  | 4, q, h => by cases h; exact ⟨zu_4, tyX4_ok, nmX4⟩
  | 5, q, h => by cases h; exact ⟨zu_5, tyX5_ok, nmX5⟩
  | 6, q, h => by cases h; exact ⟨zu_6, tyX6_ok, nmX6⟩
  | 7, q, h => by cases h; exact ⟨zu_7, tyX7_ok, nmX7⟩
  | 8, q, h => by cases h; exact ⟨zu_8, tyX8_ok, nmX8⟩
  | 9, q, h => by cases h; exact ⟨zu_9, tyX9_ok, nmX9⟩
  | k + 10, q, h => by simp [vwCl] at h
def ztg (ty : FieldType) (tag : Value) : Bool := match ty, tag with
  | .int, .int t => decide (t = 0)
  | .boolean, .int t => decide (t = 1)
  | .long, .long _ => true
  | .object _, .ref _ => true
  | _, _ => false
theorem zfit_ok {ty : FieldType} {tag v : Value} {k : Prop} (ad : Nat → Nat) (ht : ztg ty tag = true) (hz : zfit tag v k) : narrow ty (zv ad v) = zv ad v ∧ fits ty (zv ad v) = true ∧ k := by
  unfold ztg at ht
  split at ht
  · next t =>
    have h0 : t = 0 := by simpa using ht
    subst h0
    cases v with
    | int x => exact ⟨rfl, rfl, by simpa [zfit] using hz⟩
    | _ => simp [zfit] at hz
  · next t =>
    have h0 : t = 1 := by simpa using ht
    subst h0
    cases v with
    | int x =>
      have h1 : (x = 0 ∨ x = 1) ∧ k := by simpa [zfit] using hz
      obtain ⟨h1 | h1, h2⟩ := h1 <;> subst h1 <;> exact ⟨rfl, rfl, h2⟩
    | _ => simp [zfit] at hz
  · cases v with
    | long x => exact ⟨rfl, rfl, by simpa [zfit] using hz⟩
    | _ => simp [zfit] at hz
  · cases v with
    | ref x => exact ⟨rfl, rfl, by simpa [zfit] using hz⟩
    | _ => simp [zfit] at hz
  · cases ht
/-- the rows of code that stand right: decoded, linked, with room for their calls -/
def zlen : Instr → Nat
  | .bipush _ => 2
  | .iload _ => 2
  | .lload _ => 2
  | .aload _ => 2
  | .istore _ => 2
  | .lstore _ => 2
  | .ldc _ => 2
  | .sipush _ => 3
  | .ldc_w _ => 3
  | .ldc2_w _ => 3
  | .iinc _ _ => 3
  | .ifCond _ _ => 3
  | .if_icmp _ _ => 3
  | .goto _ => 3
  | .getfield _ => 3
  | .putfield _ => 3
  | .invokestatic _ => 3
  | .invokevirtual _ => 3
  | _ => 1
def zok1 (o nL fr lo : Nat) (ret : Option FieldType) (pc : Nat) (i : Instr) (a b : Nat) (v : Value) : Bool := match i with
  | .iconst d => decide (v = .int (Int32.ofInt d))
  | .bipush d => decide (v = .int (Int8.ofInt d).toInt32)
  | .sipush d => decide (v = .int (Int16.ofInt d).toInt32)
  | .lconst d => decide (v = .long (Int64.ofNat (d : Nat)))
  | .ldc k => match v with
    | .ref r => decide (o = 4) && zstr.any (fun q => decide (q.1 = k) && decide (q.2.2 = r))
    | .int x => (zcl o).any (fun q => decide (q.1 = (k, .int x)))
    | _ => false
  | .ldc_w k => match v with
    | .int x => (zcl o).any (fun q => decide (q.1 = (k, .int x)))
    | _ => false
  | .ldc2_w k => match v with
    | .long x => (zcl o).any (fun q => decide (q.1 = (k, .long x)))
    | _ => false
  | .iload k => decide (a = k)
  | .lload k => decide (a = k)
  | .aload k => decide (a = k)
  | .iload_n k => decide ((k : Nat) = a)
  | .lload_n k => decide ((k : Nat) = a)
  | .aload_n k => decide ((k : Nat) = a)
  | .istore k => decide (a = k) && decide (a < nL)
  | .istore_n k => decide ((k : Nat) = a) && decide (a < nL)
  | .astore_n k => decide ((k : Nat) = a) && decide (a < nL)
  | .lstore k => decide (a = k) && decide (a + 1 < nL)
  | .lstore_n k => decide ((k : Nat) = a) && decide (a + 1 < nL)
  | .iinc k d => decide (a = k) && decide (a < nL) && decide (v = .int (Int32.ofInt d))
  | .goto off => decide ((pc : Int) + off = (a : Int))
  | .ifCond _ off => decide ((pc : Int) + off = (a : Int))
  | .if_icmp _ off => decide ((pc : Int) + off = (a : Int))
  | .getfield k => (zfl o).any (fun q => decide (q.1 = (k, a, b)))
  | .putfield k => (zfl o).any (fun q => decide (q.1 = (k, a, b))) && (match vwCl[a]? with
    | some q => decide ((q.2.1 b).2.2.2 = false)
    | none => false) && ztg (ztyp a b) v
  | .bastore => decide (a = 1) || decide (a = 2)
  | .baload => decide (a = 1) || decide (a = 2)
  | .invokestatic k => match v with
    | .long _ => zIn a (.methodLink (zow o) k arraycopyName) && decide (1 ≤ fr) && decide (8 + (nativeFrameWords "java/lang/System" "arraycopy" 5 + 11) ≤ lo)
    | .float _ => zIn a (.methodLink (zow o) k Lib.Math.min.name) && decide (1 ≤ fr) && decide (8 + 13 ≤ lo)
    | .double _ => zIn a (.methodLink (zow o) k Lib.Math.max.name) && decide (1 ≤ fr) && decide (8 + 13 ≤ lo)
    | _ => (zml o).any (fun q => decide (q.1 = (k, a))) && (match zms[a]? with
      | some (_, _, mx, _, st, n, f, w) => st && decide (n = b) && decide (f + 1 ≤ fr) && decide (8 + (mx + 11) + w ≤ lo)
      | none => false)
  | .invokevirtual k => match v with
    | .ref ci => (zml o).any (fun q => decide (q.1 = (k, a))) && (match zms[a]? with
      | some (y, _, mx, _, st, n, f, w) => !st && decide (n = b) && decide (f + 1 ≤ fr) && decide (8 + (mx + 11) + w ≤ lo) && decide ((vwCl[ci]?).map (fun q => q.1) = some y.cls)
      | none => false)
    | _ => false
  | .ireturn => match ret with
    | some ty => ztg ty v
    | none => false
  | .return_ => decide (ret = none)
  | _ => true
def zokP (o : Nat) (bytes : ByteArray) (nL fr lo : Nat) (ret : Option FieldType) (pc nx : Nat) (i : Instr) (a b : Nat) (v : Value) : Bool := decide (decode bytes pc = .ok (i, zlen i)) && decide (nx = pc + zlen i) && zok1 o nL fr lo ret pc i a b v
theorem zokP_inv {o : Nat} {bytes : ByteArray} {nL fr lo : Nat} {ret : Option FieldType} {pc nx : Nat} {i : Instr} {a b : Nat} {v : Value} (h : zokP o bytes nL fr lo ret pc nx i a b v = true) : decode bytes pc = .ok (i, zlen i) ∧ nx = pc + zlen i ∧ zok1 o nL fr lo ret pc i a b v = true := by
  unfold zokP at h
  rw [Bool.and_eq_true, Bool.and_eq_true, decide_eq_true_eq, decide_eq_true_eq] at h
  exact ⟨h.1.1, h.1.2, h.2⟩
def zok (o : Nat) (bytes : ByteArray) (nL fr lo : Nat) (ret : Option FieldType) (r : zE) : Bool := match r with
  | (pc, nx, i, a, b, v) => match i with
    | .tableswitch d lo hi offs => decide (decode bytes pc = .ok (.tableswitch d lo hi offs, b)) && decide ((pc : Int) + d = (a : Int)) && decide (hi = lo + (offs.size : Int) - 1) && offs.toList.all (fun o => decide (0 ≤ (pc : Int) + o))
    | .lookupswitch d ps => decide (decode bytes pc = .ok (.lookupswitch d ps, b)) && decide ((pc : Int) + d = (a : Int)) && (ps.toList.zip (ps.toList.drop 1)).all (fun (a, next) => a.1 < next.1) && ps.toList.all (fun o => decide (0 ≤ (pc : Int) + o.2))
    | i => zokP o bytes nL fr lo ret pc nx i a b v
theorem zn_native : Cond.native arraycopyName ∈ ztb := zt_2 218 rfl rfl
theorem zn_static : Cond.static arraycopyName ∈ ztb := zt_2 217 rfl rfl
theorem zn_init : Cond.initialized "java/lang/System" ∈ ztb := zt_1 12 rfl rfl
theorem zn_math : Cond.initialized "java/lang/Math" ∈ ztb := zt_1 11 rfl rfl
theorem zn_mins : Cond.static Lib.Math.min.name ∈ ztb := zt_2 111 rfl rfl
theorem zn_maxs : Cond.static Lib.Math.max.name ∈ ztb := zt_2 209 rfl rfl
theorem zn_minc : Cond.code Lib.Math.min.name Lib.Math.min.code 2 (some .int) ∈ ztb := zt_2 112 rfl rfl
theorem zn_maxc : Cond.code Lib.Math.max.name Lib.Math.max.code 2 (some .int) ∈ ztb := zt_2 210 rfl rfl
section ZCALL
variable {p : Program} {l : Launch} {e : Env} {R : Room} {s : State} {m : MethodId} {args : Array Value} {below : List Frame} {meth : Method} {c : Code} {D : va_G} {ad : Nat → Nat} {cA : Nat → ClassId} {n nL : Nat} {cc : ByteArray} {o : Nat} {Qm : Array Value → State → Outcome → State → Prop} {pc : Nat} {L : zL} {S : List Value} {h : zH}
theorem zf_inv {q : (Nat × Nat × Nat) × Bool × Nat} (hq : q ∈ zfl o) : ∃ (C : String) (T : u_T) (N : Nat), vwCl[q.1.2.1]? = some (C, T, N) ∧ q.1.2.2 < N ∧ ((q.2.1 = true ∧ Cond.fieldLinkNest (zow o) q.1.1 (T q.1.2.2).1 (T q.1.2.2).2.1 (T q.1.2.2).2.2.1 "WinterStation" ∈ ztb) ∨ (q.2.1 = false ∧ Cond.fieldLink (zow o) q.1.1 (T q.1.2.2).1 (T q.1.2.2).2.1 (T q.1.2.2).2.2.1 ∈ ztb)) := by
  have hb := List.all_eq_true.mp (zf_all o) _ hq
  unfold zFb at hb
  split at hb
  · next C T N e =>
    rw [Bool.and_eq_true, decide_eq_true_eq] at hb
    refine ⟨C, T, N, e, hb.1, ?_⟩
    cases hn : q.2.1 with
    | true => exact Or.inl ⟨rfl, zIn_mem (by simpa [hn] using hb.2)⟩
    | false => exact Or.inr ⟨rfl, zIn_mem (by simpa [hn] using hb.2)⟩
  · cases hb
theorem zs_get {i ci k r : Nat} {fs : List Value} {v : Value} {z : Bool × Nat} (C : zCx (zow o) cc nL D ad cA n p s m meth c) (hd : decode cc pc = .ok (.getfield i, 3)) (hq : ((i, ci, k), z) ∈ zfl o) (hr : h[r]? = some (.inr (ci, fs))) (hv : fs[k]? = some v) (kk : zAt p l e R s m args below meth c D ad cA n nL Qm (pc + 3) L (v :: S) h) : zAt p l e R s m args below meth c D ad cA n nL Qm pc L (.ref r :: S) h := by
  intro hn H locs ls hP hS hl
  obtain ⟨C0, T, N, e1, e2, e3⟩ := zf_inv hq
  obtain ⟨hws, -, -⟩ := z_cls ci _ e1
  have hts : ∀ w ∈ ztb, w.before args s = true := fun w hw => C.2.2.2.2.1 w hw args
  have hv' : (fs.map (zv ad))[k]? = some (zv ad v) := by rw [List.getElem?_map, hv]; rfl
  rcases e3 with ⟨-, e3⟩ | ⟨-, e3⟩
  · exact va_getN (C := C0) (T := T) (N := N) C.1 C.2.1 hts hws C.2.2.2.1 C.2.2.2.2.2.1 hP r (zw_get hr) e1 k e2 (hts _ e3) (fun _ h9 => h9) hv' hd (kk hn H locs ls hP hS hl)
  · exact va_get (C := C0) (T := T) (N := N) C.1 C.2.1 hts hws C.2.2.2.1 C.2.2.2.2.2.1 hP r (zw_get hr) e1 k e2 (hts _ e3) (fun _ h9 => h9) hv' hd (kk hn H locs ls hP hS hl)
theorem zs_putf {i ci k r : Nat} {fs : List Value} {v w tag : Value} {z : Bool × Nat} {K : Prop} {q0 : vw_C} (C : zCx (zow o) cc nL D ad cA n p s m meth c) (hd : decode cc pc = .ok (.putfield i, 3)) (hq : ((i, ci, k), z) ∈ zfl o) (hq0 : vwCl[ci]? = some q0) (hfin : (q0.2.1 k).2.2.2 = false) (htg : ztg (ztyp ci k) tag = true) (hr : h[r]? = some (.inr (ci, fs))) (hv : fs[k]? = some w) (hz : zfit tag v (zAt p l e R s m args below meth c D ad cA n nL Qm (pc + 3) L S (h.set r (.inr (ci, fs.set k v))))) : zAt p l e R s m args below meth c D ad cA n nL Qm pc L (v :: .ref r :: S) h := by
  intro hn H locs ls hP hS hl
  obtain ⟨C0, T, N, e1, e2, e3⟩ := zf_inv hq
  obtain ⟨hws, hty, hnm⟩ := z_cls ci _ e1
  have hq1 : q0 = (C0, T, N) := Option.some.inj (hq0.symm.trans e1)
  subst hq1
  obtain ⟨h1, h2, h3⟩ := zfit_ok ad htg hz
  have hts : ∀ w ∈ ztb, w.before args s = true := fun w hw => C.2.2.2.2.1 w hw args
  have hlen : k < (fs.map (zv ad)).length := by
    rw [List.length_map]
    exact (List.getElem?_eq_some_iff.mp hv).1
  have fin : ∀ (H1 : Heap) (locs1 : List Loc), va_P D vwCl ((zw ad cA h).set r (ad r, .inr (ci, (fs.map (zv ad)).set k (zv ad v)))) H1 → va_D (zA ad n) ((zw ad cA h).set r (ad r, .inr (ci, (fs.map (zv ad)).set k (zv ad v)))) → va_S (zA ad n) s.heap H1 locs1 → W p l e R s m args below meth c H1 locs1 0 0 (MQ below Qm args s 0 0 (zA ad n)) (F0 m (pc + 3) ls (S.map (zv ad))) := by
    intro H1 locs1 hP1 _ hS1
    refine h3 (by simp [hn]) H1 locs1 ls ?_ hS1 hl
    rw [← zw_set]
    have e5 : zc ad cA (.inr (ci, fs.set k v)) = .inr (ci, (fs.map (zv ad)).set k (zv ad v)) := by simp [zc, List.map_set]
    rw [e5]
    exact hP1
  rcases e3 with ⟨-, e3⟩ | ⟨-, e3⟩
  · exact va_putN (C := C0) (T := T) (N := N) C.1 C.2.1 hts hws (ztyp ci) hty hnm C.2.2.2.1 C.2.2.2.2.2.1 hP (zw_D hn C.2.2.2.2.2.2.1) hS r (zw_get hr) e1 k e2 (hts _ e3) (fun _ h9 => h9) hfin (hty k e2) h1 h2 hlen hd fin
  · exact va_put (C := C0) (T := T) (N := N) C.1 C.2.1 hts hws (ztyp ci) hty hnm C.2.2.2.1 C.2.2.2.2.2.1 hP (zw_D hn C.2.2.2.2.2.2.1) hS r (zw_get hr) e1 k e2 (hts _ e3) (fun _ h9 => h9) hfin (hty k e2) h1 h2 hlen hd fin
/-- behind a call -/
theorem z_go {H : Heap} {locs : List Loc} {ls : Array Slot} {st0 rest : List Value} {Q : State → Prop} {Q' : zQ} {a : Array Value} (hr : va_Run p l e R s m args below meth c H locs 0 0 0 0 (F0 m pc ls st0) rest (zQc D ad cA n Q' a) (zA ad n)) (hS : va_S (zA ad n) s.heap H locs)
    (kk : ∀ (r : Option Value) (h' : zH) (H1 : Heap) (locs1 : List Loc), Q' r h' → h'.length = n → va_P D vwCl (zw ad cA h') H1 → va_S (zA ad n) s.heap H1 locs1 → W p l e R s m args below meth c H1 locs1 0 0 Q (F0 m (pc + 3) ls ((r.map (zv ad)).toList ++ rest))) : W p l e R s m args below meth c H locs 0 0 Q (F0 m pc ls st0) := by
  intro T hT X
  obtain ⟨v, st₀, t, T', L, h0, X', hL, e1, e2, ⟨⟨r, h', hv, hq, hn, hp⟩, hz, hk⟩, st⟩ := hr T hT X
  have hv' : v = r.map (zv ad) := by injection hv
  subst hv'
  rw [h0] at hz hk
  obtain ⟨t2, a1, b1⟩ := kk r h' T'.heap (locs ++ L) hq hn (by rw [e1]; exact hp)
    ⟨Nat.le_trans hS.1 (by rw [e1]; exact hz), fun q h1 h2 => by rw [e1, hk q (Nat.lt_of_lt_of_le h1 hS.1) h2]; exact hS.2.1 q h1 h2, fun q hq => by
      rcases List.mem_append.mp hq with h | h
      · exact hS.2.2 q h
      · exact hL q h⟩ T' rfl X'
  exact ⟨t2, st t2 a1, b1⟩
theorem zm_inv {q : (Nat × Nat) × Bool × Nat × Nat × Nat × Nat × Nat} (hq : q ∈ zml o) {M : zM} (hM : zms[q.1.2]? = some M) : ((q.2.1 = true ∧ Cond.methodLinkNest (zow o) q.1.1 M.1 "WinterStation" ∈ ztb) ∨ (q.2.1 = false ∧ Cond.methodLink (zow o) q.1.1 M.1 ∈ ztb)) ∧ Cond.code M.1 M.2.1 M.2.2.1 M.2.2.2.1 ∈ ztb ∧ Cond.initialized M.1.cls ∈ ztb ∧ (M.2.2.2.2.1 = true → Cond.static M.1 ∈ ztb) ∧ (M.2.2.2.2.1 = false → Cond.instanceMethod M.1 ∈ ztb ∧ Cond.selects M.1.cls M.1 M.1 ∈ ztb) ∧ (M.1.cls ≠ "java/lang/invoke/MethodHandle" ∧ M.1.cls ≠ "java/lang/invoke/VarHandle" ∧ (parseMethodDescriptor M.1.desc).map (fun d => d.parameters.length) = some M.2.2.2.2.2.1) := by
  have hb := List.all_eq_true.mp (zm_all o) _ hq
  obtain ⟨y, bytes, mx, ret, st, nn, fr, lo⟩ := M
  unfold zMb at hb
  rw [hM] at hb
  simp only [Bool.and_eq_true, decide_eq_true_eq] at hb
  obtain ⟨⟨⟨h1, h2⟩, h3⟩, ⟨h4, h5⟩, h6⟩ := hb
  refine ⟨?_, zcw _ (List.mem_of_getElem? hM), zIn_mem h2, ?_, ?_, h4, h5, h6⟩
  · cases hn : q.2.1 with
    | true => exact Or.inl ⟨rfl, zIn_mem (by simpa [hn] using h1)⟩
    | false => exact Or.inr ⟨rfl, zIn_mem (by simpa [hn] using h1)⟩
  · intro hs
    have hs : st = true := hs
    subst hs
    exact zIn_mem (by simpa using h3)
  · intro hs
    have hs : st = false := hs
    subst hs
    rw [if_neg (by decide), Bool.and_eq_true] at h3
    exact ⟨zIn_mem h3.1, zIn_mem h3.2⟩
theorem z_good {M : zM} (hM : Cond.code M.1 M.2.1 M.2.2.1 M.2.2.2.1 ∈ ztb) : GoodIn ztb [Cond.code M.1 M.2.1 M.2.2.1 M.2.2.2.1] := by
  intro w hw
  rw [List.mem_singleton] at hw
  subst hw
  exact ⟨hM, Or.inl rfl⟩
theorem z_pre {H : Heap} {locs : List Loc} {av : List Value} (C : zCx (zow o) cc nL D ad cA n p s m meth c) (hn : h.length = n) (hP : va_P D vwCl (zw ad cA h) H) (hS : va_S (zA ad n) s.heap H locs) (U : State) (hU : U.heap = H) (hW : s.WarmedH U.vm) : zPc D ad cA n h av (av.map (zv ad)).toArray U := by
  refine ⟨rfl, zWd_warm hW C.2.2.2.2.1, va_K.moved hW.alike C.2.2.2.2.2.1, by rw [hU]; exact hP, ?_⟩
  rw [hU]
  exact zSt_warm hW (zSt_kept hS.2.1 C.2.2.2.2.2.2.2.1)
theorem zs_static {i j : Nat} {av rest : List Value} {M : zM} {T : zT} {z : Bool × Nat × Nat × Nat × Nat × Nat} (C : zCx (zow o) cc nL D ad cA n p s m meth c) (hd : decode cc pc = .ok (.invokestatic i, 3)) (hq : ((i, j), z) ∈ zml o) (hM : zms[j]? = some M) (hst : M.2.2.2.2.1 = true) (hnn : M.2.2.2.2.2.1 = av.length) (hfr : M.2.2.2.2.2.2.1 + 1 ≤ R.frames) (hlo : 8 + (M.2.2.1 + 11) + M.2.2.2.2.2.2.2 ≤ R.locals) (hmet : zMet l j T) (hcat : zcat rest ≤ 8) (hT : T av h (fun r h' => zAt p l e R s m args below meth c D ad cA n nL Qm (pc + 3) L (zpush r rest) h')) : zAt p l e R s m args below meth c D ad cA n nL Qm pc L (av.reverse ++ rest) h := by
  intro hn H locs ls hP hS hl
  obtain ⟨hlk, hcode, hini, hs, -, hd1, hd2, hd3⟩ := zm_inv hq hM
  have hts : ∀ w ∈ ztb, w.before args s = true := fun w hw => C.2.2.2.2.1 w hw args
  have hM1 := hmet M hM D ad cA n av h _ hn C.2.2.2.2.2.2.1 hT
  have hstk : (F0 m pc ls ((av.reverse ++ rest).map (zv ad))).stack = (av.map (zv ad)).reverse ++ rest.map (zv ad) := by simp [F0]
  have hroom : 2 * (F0 m pc ls ((av.reverse ++ rest).map (zv ad))).monitorRoom + (((rest.map (zv ad))).map fun v => v.category).sum ≤ 8 := lv_room (Nat.le_trans (zcat_le ad rest) hcat)
  have fin : ∀ (r : Option Value) (h' : zH) (H1 : Heap) (locs1 : List Loc), (fun r h' => zAt p l e R s m args below meth c D ad cA n nL Qm (pc + 3) L (zpush r rest) h') r h' → h'.length = n → va_P D vwCl (zw ad cA h') H1 → va_S (zA ad n) s.heap H1 locs1 → W p l e R s m args below meth c H1 locs1 0 0 (MQ below Qm args s 0 0 (zA ad n)) (F0 m (pc + 3) ls ((r.map (zv ad)).toList ++ rest.map (zv ad))) := by
    intro r h' H1 locs1 q1 q2 q3 q4
    have := q1 q2 H1 locs1 ls q3 q4 hl
    cases r <;> exact this
  rcases hlk with ⟨-, hlk⟩ | ⟨-, hlk⟩
  · exact z_go (va_runSN (n := av.length) (As := av.map (zv ad)) ⟨C.1, C.2.1, C.2.2.1, C.2.2.2.1, hts⟩ hM1 ⟨va_cnB av.length hts (z_good hcode) rfl rfl rfl (va_Nw.of rfl (hts _ hlk)) (hts _ hini) ⟨hd1, hd2, by rw [hd3, hnn]⟩ ⟨hfr, hlo⟩, hts _ (hs hst), trivial⟩ ⟨zPc_blind, fun U hU hW => z_pre C hn hP hS U hU hW⟩ rfl (by simp) hl.1 hstk hroom hd ⟨Nat.zero_le _, Nat.zero_le _⟩) hS fin
  · exact z_go (va_runS (n := av.length) (As := av.map (zv ad)) ⟨C.1, C.2.1, C.2.2.1, C.2.2.2.1, hts⟩ hM1 ⟨callB_of av.length hts (z_good hcode) rfl rfl rfl (hts _ hini) (hts _ hlk) ⟨hd1, hd2, by rw [hd3, hnn]⟩ ⟨hfr, hlo⟩, hts _ (hs hst)⟩ ⟨zPc_blind, fun U hU hW => z_pre C hn hP hS U hU hW⟩ rfl (by simp) hl.1 hstk hroom hd ⟨Nat.zero_le _, Nat.zero_le _⟩) hS fin
theorem zs_virtual {i j r0 ci : Nat} {av rest fs : List Value} {M : zM} {T : zT} {z : Bool × Nat × Nat × Nat × Nat × Nat} (C : zCx (zow o) cc nL D ad cA n p s m meth c) (hd : decode cc pc = .ok (.invokevirtual i, 3)) (hq : ((i, j), z) ∈ zml o) (hM : zms[j]? = some M) (hst : M.2.2.2.2.1 = false) (hnn : M.2.2.2.2.2.1 = av.length) (hfr : M.2.2.2.2.2.2.1 + 1 ≤ R.frames) (hlo : 8 + (M.2.2.1 + 11) + M.2.2.2.2.2.2.2 ≤ R.locals) (hci : (vwCl[ci]?).map (fun q => q.1) = some M.1.cls) (hr : h[r0]? = some (.inr (ci, fs))) (hmet : zMet l j T) (hcat : zcat rest ≤ 8) (hT : T (.ref r0 :: av) h (fun r h' => zAt p l e R s m args below meth c D ad cA n nL Qm (pc + 3) L (zpush r rest) h')) : zAt p l e R s m args below meth c D ad cA n nL Qm pc L (av.reverse ++ .ref r0 :: rest) h := by
  intro hn H locs ls hP hS hl
  obtain ⟨hlk, hcode, hini, -, hs, hd1, hd2, hd3⟩ := zm_inv hq hM
  have hts : ∀ w ∈ ztb, w.before args s = true := fun w hw => C.2.2.2.2.1 w hw args
  have hM1 := hmet M hM D ad cA n (.ref r0 :: av) h _ hn C.2.2.2.2.2.2.1 hT
  have hstk : (F0 m pc ls ((av.reverse ++ .ref r0 :: rest).map (zv ad))).stack = (av.map (zv ad)).reverse ++ .ref (ad r0) :: rest.map (zv ad) := by simp [F0, zv]
  have hroom : 2 * (F0 m pc ls ((av.reverse ++ .ref r0 :: rest).map (zv ad))).monitorRoom + (((rest.map (zv ad))).map fun v => v.category).sum ≤ 8 := lv_room (Nat.le_trans (zcat_le ad rest) hcat)
  obtain ⟨q0, hq0, hq1⟩ : ∃ q0 : vw_C, vwCl[ci]? = some q0 ∧ q0.1 = M.1.cls := by
    cases hc : vwCl[ci]? with
    | none => rw [hc] at hci; cases hci
    | some q0 => rw [hc] at hci; exact ⟨q0, rfl, Option.some.inj hci⟩
  have hrecv := va_recv C.2.2.2.2.2.1 hP hq0 (zw_get hr)
  rw [hq1] at hrecv
  have fin : ∀ (r : Option Value) (h' : zH) (H1 : Heap) (locs1 : List Loc), (fun r h' => zAt p l e R s m args below meth c D ad cA n nL Qm (pc + 3) L (zpush r rest) h') r h' → h'.length = n → va_P D vwCl (zw ad cA h') H1 → va_S (zA ad n) s.heap H1 locs1 → W p l e R s m args below meth c H1 locs1 0 0 (MQ below Qm args s 0 0 (zA ad n)) (F0 m (pc + 3) ls ((r.map (zv ad)).toList ++ rest.map (zv ad))) := by
    intro r h' H1 locs1 q1 q2 q3 q4
    have := q1 q2 H1 locs1 ls q3 q4 hl
    cases r <;> exact this
  rcases hlk with ⟨-, hlk⟩ | ⟨-, hlk⟩
  · exact z_go (va_runVN (n := av.length) (As := av.map (zv ad)) (C := M.1.cls) ⟨C.1, C.2.1, C.2.2.1, C.2.2.2.1, hts⟩ hM1 ⟨va_cnB av.length hts (z_good hcode) rfl rfl rfl (va_Nw.of rfl (hts _ hlk)) (hts _ hini) ⟨hd1, hd2, by rw [hd3, hnn]⟩ ⟨hfr, hlo⟩, hts _ (hs hst).1, hts _ (hs hst).2⟩ ⟨zPc_blind, hrecv, fun U hU hW => z_pre (av := .ref r0 :: av) C hn hP hS U hU hW⟩ rfl (by simp) hl.1 hstk hroom hd ⟨Nat.zero_le _, Nat.zero_le _⟩) hS fin
  · exact z_go (va_runV (n := av.length) (As := av.map (zv ad)) (C := M.1.cls) ⟨C.1, C.2.1, C.2.2.1, C.2.2.2.1, hts⟩ hM1 ⟨callB_of av.length hts (z_good hcode) rfl rfl rfl (hts _ hini) (hts _ hlk) ⟨hd1, hd2, by rw [hd3, hnn]⟩ ⟨hfr, hlo⟩, hts _ (hs hst).1, hts _ (hs hst).2⟩ ⟨zPc_blind, hrecv, fun U hU hW => z_pre (av := .ref r0 :: av) C hn hP hS U hU hW⟩ rfl (by simp) hl.1 hstk hroom hd ⟨Nat.zero_le _, Nat.zero_le _⟩) hS fin
theorem zs_copy {i pos : Nat} {q0 q1 n0 n1 : Nat} {f g : Nat → Int32} {nn dp sp : Int32} {rest : List Value} (C : zCx (zow o) cc nL D ad cA n p s m meth c) (hd : decode cc pc = .ok (.invokestatic i, 3)) (hlk : Cond.methodLink (zow o) i arraycopyName ∈ ztb) (hfr : 1 ≤ R.frames) (hlo : 8 + (nativeFrameWords "java/lang/System" "arraycopy" 5 + 11) ≤ R.locals) (hcat : zcat rest ≤ 8) (h0 : h[q0]? = some (.inl (0, n0, .inl f))) (h1 : h[q1]? = some (.inl (0, n1, .inl g))) (hb : ¬ sp < 0 ∧ ¬ dp < 0 ∧ ¬ nn < 0 ∧ sp.toNatClampNeg + nn.toNatClampNeg ≤ n0 ∧ dp.toNatClampNeg + nn.toNatClampNeg ≤ n1) (k : zAt p l e R s m args below meth c D ad cA n nL Qm (pc + 3) L rest (h.set q1 (.inl (0, n1, .inl (va_cpy f g sp.toNatClampNeg dp.toNatClampNeg nn.toNatClampNeg))))) : zAt p l e R s m args below meth c D ad cA n nL Qm pc L (.int nn :: .int dp :: .ref q1 :: .int sp :: .ref q0 :: rest) h := by
  intro hn H locs ls hP hS hl
  have hts : ∀ w ∈ ztb, w.before args s = true := fun w hw => C.2.2.2.2.1 w hw args
  have hc2 := Nat.le_trans (zcat_le ad rest) hcat
  refine va_copyi C.1 C.2.1 (by rw [C.2.2.1, hl.1]) C.2.2.2.1 (hts _ hlk) (hts _ zn_native) (hts _ zn_static) (hts _ zn_init) C.2.2.2.2.2.1 hP (zw_D hn C.2.2.2.2.2.2.1) hS q0 q1 0 0 (zw_get h0) (zw_get h1) rfl rfl rfl hb.1 hb.2.1 hb.2.2.1 hb.2.2.2.1 hb.2.2.2.2 (fun _ _ => rfl) hfr (by omega) hd ?_
  intro H1 locs1 hP1 _ hS1
  exact k (by simp [hn]) H1 locs1 ls (by rw [← zw_set]; exact hP1) hS1 hl
theorem zs_min {i : Nat} {x y : Int32} {rest : List Value} (C : zCx (zow o) cc nL D ad cA n p s m meth c) (hd : decode cc pc = .ok (.invokestatic i, 3)) (hlk : Cond.methodLink (zow o) i Lib.Math.min.name ∈ ztb) (hfr : 1 ≤ R.frames) (hlo : 8 + 13 ≤ R.locals) (hcat : zcat rest ≤ 8) (k : zAt p l e R s m args below meth c D ad cA n nL Qm (pc + 3) L (.int (if y < x then y else x) :: rest) h) : zAt p l e R s m args below meth c D ad cA n nL Qm pc L (.int y :: .int x :: rest) h := by
  intro hn H locs ls hP hS hl
  have hts : ∀ w ∈ ztb, w.before args s = true := fun w hw => C.2.2.2.2.1 w hw args
  have hc2 := Nat.le_trans (zcat_le ad rest) hcat
  exact va_mmin C.1 C.2.1 (by rw [C.2.2.1, hl.1]) C.2.2.2.1 (hts _ hlk) (hts _ zn_mins) (hts _ zn_math) (hts _ zn_minc) hfr (by omega) (Nat.zero_le _) (Nat.zero_le _) hd (k hn H locs ls hP hS hl)
theorem zs_max {i : Nat} {x y : Int32} {rest : List Value} (C : zCx (zow o) cc nL D ad cA n p s m meth c) (hd : decode cc pc = .ok (.invokestatic i, 3)) (hlk : Cond.methodLink (zow o) i Lib.Math.max.name ∈ ztb) (hfr : 1 ≤ R.frames) (hlo : 8 + 13 ≤ R.locals) (hcat : zcat rest ≤ 8) (k : zAt p l e R s m args below meth c D ad cA n nL Qm (pc + 3) L (.int (if x < y then y else x) :: rest) h) : zAt p l e R s m args below meth c D ad cA n nL Qm pc L (.int y :: .int x :: rest) h := by
  intro hn H locs ls hP hS hl
  have hts : ∀ w ∈ ztb, w.before args s = true := fun w hw => C.2.2.2.2.1 w hw args
  have hc2 := Nat.le_trans (zcat_le ad rest) hcat
  exact va_mmax C.1 C.2.1 (by rw [C.2.2.1, hl.1]) C.2.2.2.1 (hts _ hlk) (hts _ zn_maxs) (hts _ zn_math) (hts _ zn_maxc) hfr (by omega) (Nat.zero_le _) (Nat.zero_le _) hd (k hn H locs ls hP hS hl)
theorem zs_iret {Q : zQ} {x : Int32} {ty : FieldType} {tag : Value} (C : zCx (zow o) cc nL D ad cA n p s m meth c) (hd : decode cc pc = .ok (.ireturn, 1)) (hret : meth.sig.returnType = some ty) (htg : ztg ty tag = true) (hz : zfit tag (.int x) (Q (some (.int x)) h)) : zAt p l e R s m args below meth c D ad cA n nL (zQc D ad cA n Q) pc L [.int x] h := by
  intro hn H locs ls hP hS hl
  obtain ⟨h1, -, h3⟩ := zfit_ok ad htg hz
  exact W.zret C.1 C.2.1 hret h1 (fun t ht hW => ⟨⟨some (.int x), h, rfl, h3, hn, by rw [ht]; exact hP⟩, hS.F ht⟩) hS.2.2 hd C.2.2.2.2.2.2.2.2
theorem zs_vret {Q : zQ} (C : zCx (zow o) cc nL D ad cA n p s m meth c) (hd : decode cc pc = .ok (.return_, 1)) (hret : meth.sig.returnType = none) (hz : Q none h) : zAt p l e R s m args below meth c D ad cA n nL (zQc D ad cA n Q) pc L [] h := by
  intro hn H locs ls hP hS hl
  exact W.vret C.1 C.2.1 hret (fun t ht hW => ⟨⟨none, h, rfl, hz, hn, by rw [ht]; exact hP⟩, hS.F ht⟩) hS.2.2 hd C.2.2.2.2.2.2.2.2
end ZCALL
