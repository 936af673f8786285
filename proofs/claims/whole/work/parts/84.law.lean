/-! THE LAW: its steps between the calls, and a call of either side -/
def R_law : String := "WinterStationLaw"
def lw_P (b : Addr) (xs : List Int32) (args : Array Value) (s : State) : Prop := args = #[.ref b] ∧ s.IntsAt b xs ∧ xs.length ≤ 3072 ∧ (Jvm.Cond.and given_1 narrow_1).before args s = true
def lw_Q (_ : Array Value) (s : State) (o : Outcome) (t : State) : Prop := o = .returned (some (.int 1)) ∧ Framed s o t [] 104 27566
def lw_Z (below : List Frame) (a : Array Value) (s : State) : State → Prop := fun t => ∃ o, t.status = .running ∧ Ended t below o ∧ lw_Q a s o t
/-- the law's own end, with 1 on the stack, nothing written that was there before, its room as the claim has it -/
theorem lw_ret {p : Program} {l : Launch} {e : Env} {s : State} {m : MethodId} {below : List Frame} {meth : Method} {c : Code} {b : Nat} (hx : p.tables.exec = Jvm.exec) (hb : c.code = code) (hr : meth.sig.returnType = ret) (hlocks : meth.locks = false) {pc : Nat} {H : Heap} {ls : Array Slot} (hdg : decode code pc = .ok (.ireturn, 1)) : W p l e room_1 s m #[Value.ref b] below meth c H [] 104 27566 (lw_Z below #[Value.ref b] s) (F0 m pc ls [.int 1]) := by
  intro T hT X
  obtain ⟨fs, hret, hrun, hended, hW, hframe⟩ := X.leave (v := some (.int 1)) (hlocks := hlocks) (fun h => by rw [hr] at h; cases h)
  have hmeth' : T.vm.method? m = some meth := X.method'
  refine ⟨T.setFrames fs, ?_, .returned (some (.int 1)), hrun, hended, rfl, ⟨_, rfl⟩, hW, hframe⟩
  jvm_step X.here [X.here.top, hx, hb, hdg, hmeth', hr, ret, narrow_b1]
  (try refine ⟨rfl, ?_⟩); (try refine ⟨rfl, ?_⟩)
  first | (intro acts; rw [hret _ acts rfl rfl rfl]) | rw [hret _ _ rfl rfl rfl]
  exact Steps.refl _
def lw_At (p : Program) (s : State) (m : MethodId) (meth : Method) (c : Code) (b L : Nat) (xs : Nat → Int32) : Prop :=
  p.tables.exec = Jvm.exec ∧ c.code = code ∧ meth.sig.returnType = ret ∧ c.maxLocals = 4 ∧ s.vm.findClass R_law = some m.cls ∧ (∀ w ∈ lw_tbl, w.before #[Value.ref b] s = true) ∧ va_X b L xs s s.heap ∧ b < s.heap.size ∧ meth.locks = false ∧ (Jvm.Cond.and given_1 narrow_1).before #[Value.ref b] s = true
/-- a contract, and that no old cell changes its class -/
theorem met_cls {l : Launch} {y : MethodName} {ws : List Cond} {rm : Room} {Pc : Array Value → State → Prop} {Qc : Array Value → State → Outcome → State → Prop} {mc ms : Nat} {free : Addr → Prop} (h : Met l y ws rm Pc Qc mc ms free) : Met l y ws rm Pc (fun a st o t => Qc a st o t ∧ ∀ (q : Nat) (c : Cell), st.heap[q]? = some c → ∃ c' : Cell, t.heap[q]? = some c' ∧ c' = { c with slots := c'.slots }) mc ms free := by
  refine MetFree.mono h (fun _ _ h => h) (fun _ _ _ _ _ h => h) (fun a s o t _ hq => ⟨⟨hq.1, ?_⟩, hq.2⟩)
  obtain ⟨L, hF, -⟩ := hq.2
  intro q c hc
  obtain ⟨c', h1, h2, -⟩ := hF.2.2.2.2.2.2.2 q c hc
  exact ⟨c', h1, h2⟩
section LAW
variable {p : Program} {l : Launch} {e : Env} {s : State} {m : MethodId} {below : List Frame} {meth : Method} {c : Code} {D : va_G} {ad : Nat → Nat} {cA : Nat → ClassId} {b L : Nat} {xs : Nat → Int32}
def lwC (p : Program) (s : State) (m : MethodId) (meth : Method) (c : Code) (D : va_G) (ad : Nat → Nat) (cA : Nat → ClassId) (b L : Nat) (xs : Nat → Int32) : Prop := zCx R_law code 4 D ad cA 104 p s m meth c ∧ lw_At p s m meth c b L xs ∧ (∀ i, i < 104 → s.heap.size ≤ ad i) ∧ L ≤ 3072
def lwO (s : State) (C : String) (q : Nat) (H : Heap) : Prop := ∃ cell : Cell, H[q]? = some cell ∧ cell.vm.isStatics = false ∧ s.vm.findClass C = some cell.cls
/-- the law, with i ints read, its stack S, both worlds in h -/
def lwW (p : Program) (l : Launch) (e : Env) (s : State) (m : MethodId) (below : List Frame) (meth : Method) (c : Code) (D : va_G) (ad : Nat → Nat) (cA : Nat → ClassId) (b : Nat) (pc i : Nat) (S : List Value) (h : zH) : Prop := ∀ (H : Heap) (locs : List Loc) (ls : Array Slot), va_P D vwCl (zw ad cA h) H → h.length = 104 → lwO s RX8 (ad 0) H → lwO s RX9 (ad 56) H → va_S (zA ad 104) s.heap H locs → lv_has ls 4 [(0, .ref b), (1, .ref (ad 0)), (2, .ref (ad 56)), (3, .int (nI i))] → W p l e room_1 s m #[.ref b] below meth c H locs 104 27566 (lw_Z below #[.ref b] s) (F0 m pc ls S)
theorem lwC_b (C : lwC p s m meth c D ad cA b L xs) : ¬ zA ad 104 b := by
  rintro ⟨i, hi, e⟩
  have := C.2.2.1 i hi
  have := C.2.1.2.2.2.2.2.2.2.1
  omega
theorem lw_x {pc i : Nat} {S : List Value} {h : zH} (C : lwC p s m meth c D ad cA b L xs) (hd : decode code pc = .ok (.aload_n 1, 1)) (kk : lwW p l e s m below meth c D ad cA b (pc + 1) i (.ref (ad 0) :: S) h) : lwW p l e s m below meth c D ad cA b pc i S h :=
  fun H locs ls hP hn h0 h1 hS hl => lv_aload_n C.1.1 C.1.2.1 hd rfl (lv_at hl 1 rfl) (kk H locs ls hP hn h0 h1 hS hl)
theorem lw_y {pc i : Nat} {S : List Value} {h : zH} (C : lwC p s m meth c D ad cA b L xs) (hd : decode code pc = .ok (.aload_n 2, 1)) (kk : lwW p l e s m below meth c D ad cA b (pc + 1) i (.ref (ad 56) :: S) h) : lwW p l e s m below meth c D ad cA b pc i S h :=
  fun H locs ls hP hn h0 h1 hS hl => lv_aload_n C.1.1 C.1.2.1 hd rfl (lv_at hl 2 rfl) (kk H locs ls hP hn h0 h1 hS hl)
def lwA (pc : Nat) (k : Nat) : Bool := decide (decode code pc = .ok (.aload_n 0, 1)) && (decide (decode code (pc + 1) = .ok (.iload_n 3, 1)) && (decide (decode code (pc + 2) = .ok (.iconst (k : Int), 1)) && (decide (decode code (pc + 3) = .ok (.iadd, 1)) && decide (decode code (pc + 4) = .ok (.iaload, 1)))))
theorem lw_arg {pc i : Nat} {S : List Value} {h : zH} (k : Nat) (C : lwC p s m meth c D ad cA b L xs) (hi : i + 5 < L) (hk : k ≤ 5) (hd : lwA pc k = true) (kk : lwW p l e s m below meth c D ad cA b (pc + 5) i (.int (xs (i + k)) :: S) h) : lwW p l e s m below meth c D ad cA b pc i S h := by
  intro H locs ls hP hn h0 h1 hS hl
  simp only [lwA, Bool.and_eq_true, decide_eq_true_eq] at hd
  obtain ⟨d0, d1, d2, d3, d4⟩ := hd
  have hL := C.2.2.2
  refine lv_aload_n C.1.1 C.1.2.1 d0 rfl (lv_at hl 0 rfl) (lv_iload_n C.1.1 C.1.2.1 d1 rfl (lv_at hl 3 rfl) (lv_iconst (v := nI k) C.1.1 C.1.2.1 d2 rfl (lv_iadd C.1.1 C.1.2.1 d3 ?_)))
  rw [nI_add]
  refine va_sld C.1.1 C.1.2.1 C.2.1.2.2.2.2.2.2.1 C.2.1.2.2.2.2.2.2.2.1 (lwC_b C) hS (vp_in_nI (show i + k < L by omega) (by omega)) d4 ?_
  rw [nI_clamp (by omega)]
  exact kk H locs ls hP hn h0 h1 hS hl
def lwB (pc : Nat) : Bool := decide (decode code pc = .ok (.ifCond .eq 7, 3)) && (decide (decode code (pc + 3) = .ok (.iconst 1, 1)) && (decide (decode code (pc + 4) = .ok (.goto 4, 3)) && decide (decode code (pc + 7) = .ok (.iconst 0, 1))))
theorem lw_bool {pc i : Nat} {S : List Value} {h : zH} {x : Int32} (C : lwC p s m meth c D ad cA b L xs) (hd : lwB pc = true) (kk : lwW p l e s m below meth c D ad cA b (pc + 8) i (.int (if x = 0 then 0 else 1) :: S) h) : lwW p l e s m below meth c D ad cA b pc i (.int x :: S) h := by
  intro H locs ls hP hn h0 h1 hS hl
  simp only [lwB, Bool.and_eq_true, decide_eq_true_eq] at hd
  obtain ⟨d0, d1, d2, d3⟩ := hd
  have K := kk H locs ls hP hn h0 h1 hS hl
  refine lv_if_eq (tgt := pc + 7) C.1.1 C.1.2.1 d0 (by omega) (fun hx => ?_) (fun hx => ?_)
  · rw [if_pos hx] at K
    exact lv_iconst C.1.1 C.1.2.1 d3 rfl K
  · rw [if_neg hx] at K
    exact lv_iconst (v := 1) C.1.1 C.1.2.1 d1 rfl (lv_goto (tgt := pc + 8) C.1.1 C.1.2.1 d2 (by omega) K)
theorem lwO_kept {C : String} {q : Nat} {H H1 : Heap} (h : lwO s C q H) (hk : ∀ (q : Nat) (c : Cell), H[q]? = some c → ∃ c' : Cell, H1[q]? = some c' ∧ c' = { c with slots := c'.slots }) : lwO s C q H1 := by
  obtain ⟨cell, h1, h2, h3⟩ := h
  obtain ⟨c', g1, g2⟩ := hk q cell h1
  refine ⟨c', g1, ?_, ?_⟩
  · rw [g2]
    exact h2
  · rw [g2]
    exact h3
theorem zPcE {h : zH} {n : Nat} {av : List Value} : zPc D ad cA n h av = zPj D ad cA n h (av.map (zv ad)) := rfl
set_option maxHeartbeats 1000000 in
theorem lw_call {idx j r0 f w mx pc i : Nat} {av rest : List Value} {y : MethodName} {bytes : ByteArray} {rt : Option FieldType} {Q1 : zQ} {h : zH} (C : lwC p s m meth c D ad cA b L xs) (hr : (r0 = 0 ∧ y.cls = RX8) ∨ (r0 = 56 ∧ y.cls = RX9)) (hM : zms[j]? = some (y, bytes, mx, rt, false, av.length, f, w)) (hd : decode code pc = .ok (.invokevirtual idx, 3)) (hlk : Cond.methodLink R_law idx y ∈ ztb) (hini : Cond.initialized y.cls ∈ ztb) (hs1 : Cond.instanceMethod y ∈ ztb) (hs2 : Cond.selects y.cls y y ∈ ztb) (hd3 : y.cls ≠ "java/lang/invoke/MethodHandle" ∧ y.cls ≠ "java/lang/invoke/VarHandle" ∧ (parseMethodDescriptor y.desc).map (fun d => d.parameters.length) = some av.length) (hfr : f + 1 ≤ 13) (hlo : 8 + (mx + 11) + w ≤ 488) (hcat : (rest.map fun v => v.category).sum ≤ 8) (hT : zG 12 j (.ref r0 :: av) h Q1)
    (kk : ∀ (r : Option Value) (h' : zH), Q1 r h' → lwW p l e s m below meth c D ad cA b (pc + 3) i ((r.map (zv ad)).toList ++ rest) h') : lwW p l e s m below meth c D ad cA b pc i ((av.map (zv ad)).reverse ++ .ref (ad r0) :: rest) h := by
  intro H locs ls hP hn h0 h1 hS hl T hTT X
  have hts : ∀ w ∈ ztb, w.before #[Value.ref b] s = true := fun w hw => C.1.2.2.2.2.1 w hw _
  have hM1 := met_cls (zG_met_open (l := l) isWord_met 12 j _ hM D ad cA 104 (.ref r0 :: av) h Q1 hn C.1.2.2.2.2.2.2.1 hT)
  have hrecv : lwO s y.cls (ad r0) H := by
    rcases hr with ⟨rfl, e⟩ | ⟨rfl, e⟩ <;> rw [e] <;> assumption
  have hroom : 2 * (F0 m pc ls ((av.map (zv ad)).reverse ++ .ref (ad r0) :: rest)).monitorRoom + (rest.map fun v => v.category).sum ≤ 8 := lv_room hcat
  have hcode : Cond.code y bytes mx rt ∈ ztb := zcw _ (List.mem_of_getElem? hM)
  obtain ⟨v, st₀, t, T', L', q0, X', hL', e1, e2, ⟨⟨⟨r, h', hv, hq, hn', hp⟩, hz, hk⟩, hcl⟩, st⟩ := va_runV (R := room_1) (n := av.length) (As := av.map (zv ad)) (C := y.cls) ⟨C.1.1, C.1.2.1, C.1.2.2.1, C.1.2.2.2.1, hts⟩ hM1 ⟨callB_of av.length hts (z_good (M := (y, bytes, mx, rt, false, av.length, f, w)) hcode) rfl rfl rfl (hts _ hini) (hts _ hlk) hd3 ⟨hfr, hlo⟩, hts _ hs1, hts _ hs2⟩ ⟨zPc_blind, hrecv, fun U hU hW => z_preJ (vs := (Value.ref r0 :: av).map (zv ad)) C.1 hP hS U hU hW⟩ rfl (by simp) hl.1 rfl hroom hd ⟨Nat.le_refl 104, Nat.le_refl 27566⟩ T hTT X
  have hv' : v = r.map (zv ad) := by injection hv
  subst hv'
  rw [q0] at hz hk hcl
  rw [← e1] at hz hk hcl hp
  obtain ⟨t2, a1, b1⟩ := kk r h' hq T'.heap (locs ++ L') ls hp hn' (lwO_kept h0 hcl) (lwO_kept h1 hcl)
    ⟨Nat.le_trans hS.1 hz, fun q h1 h2 => by rw [hk q (Nat.lt_of_lt_of_le h1 hS.1) h2]; exact hS.2.1 q h1 h2, fun q hq => by
      rcases List.mem_append.mp hq with h | h
      · exact hS.2.2 q h
      · exact hL' q h⟩ hl T' rfl X'
  exact ⟨t2, st t2 a1, b1⟩
theorem lw_cat {r : Option Value} : (((r.map (zv ad)).toList).map fun v => v.category).sum ≤ 8 := by
  cases r with
  | none => exact Nat.le_of_ble_eq_true rfl
  | some v => cases v <;> exact Nat.le_of_ble_eq_true rfl
theorem lw_cmp {pc i : Nat} {off : Int} {h : zH} {v : Int32} (C : lwC p s m meth c D ad cA b L xs) (hd : decode code pc = .ok (.if_icmp .eq off, 3)) (ht : (pc : Int) + off = ((1087 : Nat) : Int)) (kk : lwW p l e s m below meth c D ad cA b 1087 i [] h) : lwW p l e s m below meth c D ad cA b pc i [.int v, .int v] h :=
  fun H locs ls hP hn h0 h1 hS hl => lv_icmp_eq C.1.1 C.1.2.1 hd ht (fun _ => kk H locs ls hP hn h0 h1 hS hl) (fun z => absurd rfl z)
/-- both sides are called; they answer alike, and go together behind it -/
def lwN (p : Program) (l : Launch) (e : Env) (s : State) (m : MethodId) (below : List Frame) (meth : Method) (c : Code) (D : va_G) (ad : Nat → Nat) (cA : Nat → ClassId) (b : Nat) (i : Nat) : Prop := ∀ (s' : Nat → Int32) (a : Nat → Nat → Int32) (w : Bool) (t : Nat → Int32) (b' : Nat → Nat → Int32) (u : Nat → Int64) (c' : Nat → Nat → Int64), Inv s' a w t b' u → lwW p l e s m below meth c D ad cA b 1087 i [] (HX s' a w ++ HM t b' u c')
end LAW
