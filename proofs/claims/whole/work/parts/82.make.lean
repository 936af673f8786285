/-! CONSTRUCTORS: WinterStation(), which makes nine objects (generated: wip/gen/p82.py) -/
theorem k_isR {α : Type} (xs : List α) (x : α) : (List.range xs.length).map (fun i => (xs ++ [x])[i]?) = xs.map some := by
  apply List.ext_getElem?
  intro i
  rw [List.getElem?_map, List.getElem?_map]
  by_cases h : i < xs.length
  · rw [List.getElem?_range h]
    simp [List.getElem?_append_left h, h]
  · simp [h]
theorem va_nd_of : ∀ (l : List Nat), l.Nodup → va_nd l = true
  | [], _ => rfl
  | a :: l, h => by
    rw [List.nodup_cons] at h
    simp [va_nd, h.1, va_nd_of l h.2]
section KSUB
variable {p : Program} {l : Launch} {e : Env} {R : Room} {s : State} {m : MethodId} {args : Array Value} {below : List Frame} {meth : Method} {c : Code} {D : va_G} {cA : Nat → ClassId} {cc : ByteArray} {Q : State → Prop} {A : Nat → Prop} {ls : Array Slot} {h0 ci : Nat}
set_option maxHeartbeats 1000000 in
/-- a field's object: made, built by its constructor, kept -/
theorem k_sub {iN iI iF k cj nj pc cells slots : Nat} {H : Heap} {locs : List Loc} {fs fsj : List Value} {as : va_W} {ops : List zop} {y : MethodName} {bj : ByteArray} {Cj : String} {Tj : u_T} (C : kCx ci cc D cA p s m meth c) (hml : c.maxLocals = 1) (hA : ∀ q, s.heap.size ≤ q → A q) (hl : lv_has ls 1 [(0, .ref h0)])
    (hM : ∀ q sz : Nat, Met l y [.code y bj 1 none] { frames := 1, cells := knum ops, slots := ksum ops, locals := 12 } (kPc D cA q sz cj fsj) (kQc D cA q sz cj ops fsj) (knum ops) (ksum ops) (va_A [(q, .inr (cj, fsj))] sz))
    (hcl : Cond.classLink (zow ci) iN Cj ∈ ztb) (hinst : Cond.instantiable Cj nj ∈ ztb) (hini : Cond.initialized Cj ∈ ztb) (hlk : Cond.methodLinkNest (zow ci) iI y "WinterStation" ∈ ztb) (hinm : Cond.instanceMethod y ∈ ztb) (hcode : Cond.code y bj 1 none ∈ ztb) (hyc : y.cls = Cj ∧ y.name = "<init>") (hd3 : y.cls ≠ "java/lang/invoke/MethodHandle" ∧ y.cls ≠ "java/lang/invoke/VarHandle" ∧ (parseMethodDescriptor y.desc).map (fun d => d.parameters.length) = some 0)
    (hc : vwCl[cj]? = some (Cj, Tj, nj)) (hfs : ∀ j, j < nj → defaultValue (ztyp cj j) = vp_V fsj j) (hf : kfld ci iF k = true) (hty : kref (ztyp ci k) = true) (hlen : ∀ q, vwCl[ci]? = some q → q.2.2 = fs.length) (hP : va_P D vwCl ((h0, .inr (ci, fs)) :: as) H) (hD : va_D A ((h0, .inr (ci, fs)) :: as)) (hS : va_S A s.heap H locs)
    (hfr : 2 ≤ R.frames) (hlo : 32 ≤ R.locals) (hcells : cells + 1 + knum ops ≤ R.cells) (hslots : slots + nj + ksum ops ≤ R.slots)
    (d0 : decode cc pc = .ok (.aload_n 0, 1)) (d1 : decode cc (pc + 1) = .ok (.new iN, 3)) (d2 : decode cc (pc + 1 + 3) = .ok (.dup, 1)) (d3 : decode cc (pc + 1 + 3 + 1) = .ok (.invokespecial iI, 3)) (d4 : decode cc (pc + 1 + 3 + 1 + 3) = .ok (.putfield iF, 3))
    (kk : ∀ (q : Nat) (g : Nat → Nat) (H1 : Heap) (locs1 : List Loc), va_P D vwCl ((h0, .inr (ci, fs.set k (.ref q))) :: (as ++ kW cA q cj ops fsj g)) H1 → va_D A ((h0, .inr (ci, fs.set k (.ref q))) :: (as ++ kW cA q cj ops fsj g)) → va_S A s.heap H1 locs1 → W p l e R s m args below meth c H1 locs1 (cells + 1 + knum ops) (slots + nj + ksum ops) Q (F0 m (pc + 11) ls [])) : W p l e R s m args below meth c H locs cells slots Q (F0 m pc ls []) := by
  have hts : ∀ w ∈ ztb, w.before args s = true := fun w hw => C.2.2.2.1 w hw args
  obtain ⟨hws, htyj, -⟩ := z_cls cj _ hc
  have hK := C.2.2.2.2.1
  refine lv_aload_n C.1 C.2.1 d0 rfl (lv_at hl 0 rfl) ?_
  refine va_new (ci := cj) (fs := fsj) (C := Cj) (T := Tj) (N := nj) C.1 C.2.1 hts hws (ztyp cj) htyj C.2.2.1 (hts _ hcl) (hts _ hinst) (hts _ hini) hK hP hD hS hA hc hfs (by omega) (by omega) d1 (fun q H1 hP hD hS => ?_)
  refine lv_dup C.1 C.2.1 d2 rfl ?_
  have eC : [((h0, (Sum.inr (ci, fs) : va_E)) :: as).length].map (fun i => (((h0, (Sum.inr (ci, fs) : va_E)) :: as) ++ [(q, .inr (cj, fsj))])[i]?) = [(q, (Sum.inr (cj, fsj) : va_E))].map some := by simp
  have hPc : va_P D vwCl [(q, .inr (cj, fsj))] H1 := hP.sub [((h0, (Sum.inr (ci, fs) : va_E)) :: as).length] (by simp)
  have hFc := va_free (wc := [(q, .inr (cj, fsj))]) hD hS hA [((h0, (Sum.inr (ci, fs) : va_E)) :: as).length] eC
  refine va_callv (va_runIN (n := 0) (As := []) (rest := [.ref q, .ref h0]) ⟨C.1, C.2.1, hml, C.2.2.1, hts⟩ (hM q H1.size) ⟨va_cnB 0 hts (z_good (M := (y, bj, 1, none, false, 0, 1, 12)) hcode) rfl rfl rfl (va_Nw.of rfl (hts _ hlk)) (by rw [hyc.1]; exact hts _ hini) hd3 ⟨hfr, hlo⟩, hyc.2, hts _ hinm⟩ ⟨kPc_blind, fun U hU hW => ⟨rfl, zWd_warm hW C.2.2.2.1, va_K.moved hW.alike hK, by rw [hU], by rw [hU]; exact hPc⟩⟩ rfl rfl hl.1 rfl (lv_room (Nat.le_of_ble_eq_true rfl)) d3 ⟨hcells, hslots⟩) hS (fun q _ h => hFc q h) hFc (fun g t H2 locs2 ht hvm hw hB hz1 hk1 hS => ?_)
  obtain ⟨hP1, hD1⟩ := hB
  rw [ht] at hP1
  obtain ⟨hP, hD⟩ := va_join (wr := (h0, .inr (ci, fs)) :: as) (w1 := kW cA q cj ops fsj g) hP hD [((h0, (Sum.inr (ci, fs) : va_E)) :: as).length] (List.range ((h0, (Sum.inr (ci, fs) : va_E)) :: as).length) eC (k_isR _ _) (va_nd_of _ List.nodup_range) (fun i hi => by
    rw [List.mem_range] at hi
    rw [List.mem_singleton]
    omega) hk1 hFc hP1 hD1
  refine k_put (as := as ++ kW cA q cj ops fsj g) C hf hlen (kref_ok hty q) hP hD hS d4 (fun H3 locs3 hP hD hS => ?_)
  exact kk q g H3 locs3 hP hD hS
end KSUB

def kf8 : List Value := [.null, .null, .null, .null, .null, .null, .null, .null, .null, .int 0, .int 0, .int 0]
def ko8 : List zop := [(none, -1, 10, 68, 1, -1)]
theorem kb8 : kB 8 cX8_init 103 ko8 = true := by decide +kernel
theorem kl8 : Cond.methodLink (zow 8) 1 Lib.objectInit ∈ ztb := zt_1 23 rfl rfl
theorem kc5 : Cond.classLink (zow 8) 7 RX5 ∈ ztb := zt_1 26 rfl rfl
theorem ki5 : Cond.instantiable RX5 1 ∈ ztb := zt_1 27 rfl rfl
theorem kj5 : Cond.initialized RX5 ∈ ztb := zt_1 2 rfl rfl
theorem kk5 : Cond.methodLinkNest (zow 8) 9 yX5_init "WinterStation" ∈ ztb := zt_1 28 rfl rfl
theorem kn5 : Cond.instanceMethod yX5_init ∈ ztb := zt_1 29 rfl rfl
theorem ke5 : Cond.code yX5_init cX5_init 1 none ∈ ztb := zt_1 30 rfl rfl
theorem kd5 : ∀ j, j < 1 → defaultValue (ztyp 5 j) = vp_V kf5 j := by decide +kernel
theorem kc1 : Cond.classLink (zow 8) 16 RX1 ∈ ztb := zt_1 37 rfl rfl
theorem ki1 : Cond.instantiable RX1 14 ∈ ztb := zt_1 38 rfl rfl
theorem kj1 : Cond.initialized RX1 ∈ ztb := zt_1 3 rfl rfl
theorem kk1 : Cond.methodLinkNest (zow 8) 18 yX1_init "WinterStation" ∈ ztb := zt_1 39 rfl rfl
theorem kn1 : Cond.instanceMethod yX1_init ∈ ztb := zt_1 40 rfl rfl
theorem ke1 : Cond.code yX1_init cX1_init 1 none ∈ ztb := zt_1 41 rfl rfl
theorem kd1 : ∀ j, j < 14 → defaultValue (ztyp 1 j) = vp_V kf1 j := by decide +kernel
theorem kc6 : Cond.classLink (zow 8) 23 RX6 ∈ ztb := zt_1 88 rfl rfl
theorem ki6 : Cond.instantiable RX6 4 ∈ ztb := zt_1 89 rfl rfl
theorem kj6 : Cond.initialized RX6 ∈ ztb := zt_1 4 rfl rfl
theorem kk6 : Cond.methodLinkNest (zow 8) 25 yX6_init "WinterStation" ∈ ztb := zt_1 90 rfl rfl
theorem kn6 : Cond.instanceMethod yX6_init ∈ ztb := zt_1 91 rfl rfl
theorem ke6 : Cond.code yX6_init cX6_init 1 none ∈ ztb := zt_1 92 rfl rfl
theorem kd6 : ∀ j, j < 4 → defaultValue (ztyp 6 j) = vp_V kf6 j := by decide +kernel
theorem kc0 : Cond.classLink (zow 8) 30 RX0 ∈ ztb := zt_1 109 rfl rfl
theorem ki0 : Cond.instantiable RX0 14 ∈ ztb := zt_1 110 rfl rfl
theorem kj0 : Cond.initialized RX0 ∈ ztb := zt_1 5 rfl rfl
theorem kk0 : Cond.methodLinkNest (zow 8) 32 yX0_init "WinterStation" ∈ ztb := zt_1 111 rfl rfl
theorem kn0 : Cond.instanceMethod yX0_init ∈ ztb := zt_1 112 rfl rfl
theorem ke0 : Cond.code yX0_init cX0_init 1 none ∈ ztb := zt_1 113 rfl rfl
theorem kd0 : ∀ j, j < 14 → defaultValue (ztyp 0 j) = vp_V kf0 j := by decide +kernel
theorem kc7 : Cond.classLink (zow 8) 37 RX7 ∈ ztb := zt_1 160 rfl rfl
theorem ki7 : Cond.instantiable RX7 2 ∈ ztb := zt_1 161 rfl rfl
theorem kj7 : Cond.initialized RX7 ∈ ztb := zt_1 6 rfl rfl
theorem kk7 : Cond.methodLinkNest (zow 8) 39 yX7_init "WinterStation" ∈ ztb := zt_1 162 rfl rfl
theorem kn7 : Cond.instanceMethod yX7_init ∈ ztb := zt_1 163 rfl rfl
theorem ke7 : Cond.code yX7_init cX7_init 1 none ∈ ztb := zt_1 164 rfl rfl
theorem kd7 : ∀ j, j < 2 → defaultValue (ztyp 7 j) = vp_V kf7 j := by decide +kernel
theorem kc4 : Cond.classLink (zow 8) 44 RX4 ∈ ztb := zt_1 176 rfl rfl
theorem ki4 : Cond.instantiable RX4 5 ∈ ztb := zt_1 177 rfl rfl
theorem kj4 : Cond.initialized RX4 ∈ ztb := zt_1 7 rfl rfl
theorem kk4 : Cond.methodLinkNest (zow 8) 46 yX4_init "WinterStation" ∈ ztb := zt_1 178 rfl rfl
theorem kn4 : Cond.instanceMethod yX4_init ∈ ztb := zt_1 179 rfl rfl
theorem ke4 : Cond.code yX4_init cX4_init 1 none ∈ ztb := zt_1 180 rfl rfl
theorem kd4 : ∀ j, j < 5 → defaultValue (ztyp 4 j) = vp_V kf4 j := by decide +kernel
theorem kc2 : Cond.classLink (zow 8) 51 RX2 ∈ ztb := zt_1 198 rfl rfl
theorem ki2 : Cond.instantiable RX2 14 ∈ ztb := zt_1 199 rfl rfl
theorem kj2 : Cond.initialized RX2 ∈ ztb := zt_1 8 rfl rfl
theorem kk2 : Cond.methodLinkNest (zow 8) 53 yX2_init "WinterStation" ∈ ztb := zt_1 200 rfl rfl
theorem kn2 : Cond.instanceMethod yX2_init ∈ ztb := zt_1 201 rfl rfl
theorem ke2 : Cond.code yX2_init cX2_init 1 none ∈ ztb := zt_1 202 rfl rfl
theorem kd2 : ∀ j, j < 14 → defaultValue (ztyp 2 j) = vp_V kf2 j := by decide +kernel
theorem kc3 : Cond.classLink (zow 8) 58 RX3 ∈ ztb := zt_2 10 rfl rfl
theorem ki3 : Cond.instantiable RX3 11 ∈ ztb := zt_2 11 rfl rfl
theorem kj3 : Cond.initialized RX3 ∈ ztb := zt_1 9 rfl rfl
theorem kk3 : Cond.methodLinkNest (zow 8) 60 yX3_init "WinterStation" ∈ ztb := zt_2 12 rfl rfl
theorem kn3 : Cond.instanceMethod yX3_init ∈ ztb := zt_2 13 rfl rfl
theorem ke3 : Cond.code yX3_init cX3_init 1 none ∈ ztb := zt_2 14 rfl rfl
theorem kd3 : ∀ j, j < 11 → defaultValue (ztyp 3 j) = vp_V kf3 j := by decide +kernel
def kf8G (G : Nat → Nat × (Nat → Nat)) : List Value := (((((((((kf8.set 0 (Value.ref (G 0).1)).set 1 (Value.ref (G 1).1)).set 2 (Value.ref (G 2).1)).set 3 (Value.ref (G 3).1)).set 4 (Value.ref (G 4).1)).set 5 (Value.ref (G 5).1)).set 6 (Value.ref (G 6).1)).set 7 (Value.ref (G 7).1)).set 8 (Value.ref (G 8).1)).set 10 (Value.int (-1))
def kW8 (cA : Nat → ClassId) (h0 : Nat) (G : Nat → Nat × (Nat → Nat)) : va_W := (h0, .inr (8, kf8G G)) :: ((((((((([] ++ kW cA (G 0).1 5 ko5 kf5 (G 0).2) ++ kW cA (G 1).1 1 ko1 kf1 (G 1).2) ++ kW cA (G 2).1 6 ko6 kf6 (G 2).2) ++ kW cA (G 3).1 0 ko0 kf0 (G 3).2) ++ kW cA (G 4).1 7 ko7 kf7 (G 4).2) ++ kW cA (G 5).1 4 ko4 kf4 (G 5).2) ++ kW cA (G 6).1 2 ko2 kf2 (G 6).2) ++ kW cA (G 7).1 3 ko3 kf3 (G 7).2) ++ kW cA (G 8).1 3 ko3 kf3 (G 8).2)
set_option maxRecDepth 100000 in
set_option maxHeartbeats 4000000 in
/-- WinterStation() -/
theorem km8 {l : Launch} {D : va_G} {cA : Nat → ClassId} {h0 sz : Nat} : Met l yX8_init [.code yX8_init cX8_init 1 none] { frames := 2, cells := 55, slots := 9583, locals := 32 } (kPc D cA h0 sz 8 kf8) (va_Qv (fun _ : Nat → Nat × (Nat → Nat) => True) (fun G t => va_P D vwCl (kW8 cA h0 G) t.heap ∧ va_D (va_A [(h0, .inr (8, kf8))] sz) (kW8 cA h0 G)) (va_A [(h0, .inr (8, kf8))] sz)) 55 9583 (va_A [(h0, .inr (8, kf8))] sz) := by
  refine Met.ofW (cc := cX8_init) (maxL := 1) (ret := none) (by decide +kernel) rfl ?_
  intro p e s m args below meth c s₁ B hml hv
  obtain ⟨rfl, hWd, hK, hsz, hP⟩ := hv
  have hown : s.vm.findClass (zow 8) = some m.cls := findClass_of_methodNamed B.named
  have hlocks := B.notSynchronized
  have hin : meth.name = "<init>" := (name_of_methodNamed B.named B.method).1
  have C : kCx 8 cX8_init D cA p s m meth c := ⟨B.exec, B.bytes, hown, hWd, hK, hin⟩
  have hts : ∀ w ∈ ztb, w.before (#[.ref h0] : Array Value) s = true := fun w hw => hWd w hw _
  subst hsz
  have hD : va_D (va_A [(h0, .inr (8, kf8))] s.heap.size) [(h0, .inr (8, kf8))] := va_D1
  have hA : ∀ q : Nat, s.heap.size ≤ q → va_A [(h0, .inr (8, kf8))] s.heap.size q := fun q h => Or.inr h
  have hl := lv_entry ([.ref h0]) (n := 1) (Nat.le_of_ble_eq_true rfl)
  rw [lg_entry_eq]
  generalize (lg_sl ([.ref h0]) ++ List.replicate (1 - (lg_sl ([.ref h0])).length) Slot.unset).toArray = ls at hl ⊢
  have hl : lv_has ls 1 [(0, .ref h0)] := hl
  refine lv_aload_n (k := 0) (i := 0) B.exec B.bytes (by decide +kernel) rfl (lv_at hl 0 rfl) ?_
  refine W.objInit (idx := 1) B.exec B.bytes hown (hts _ kl8) (hts _ kn_inst) (hts _ kn_code) rfl (by rw [hml]; exact hl.1) rfl (show decode cX8_init 1 = .ok (.invokespecial 1, 3) by decide +kernel) (Nat.le_of_ble_eq_true rfl) (Nat.le_of_ble_eq_true rfl) ?_
  refine W.eq (g2 := F0 m 4 ls []) rfl ?_
  have hS : va_S (va_A [(h0, .inr (8, kf8))] s.heap.size) s.heap s.heap [] := va_S.rf
  refine k_sub (iN := 7) (iI := 9) (iF := 10) (k := 0) (cj := 5) (nj := 1) C hml hA hl (fun q sz => km5) kc5 ki5 kj5 kk5 kn5 ke5 ⟨rfl, rfl⟩ (by decide +kernel) rfl kd5 (by decide +kernel) rfl (fun _ h => by cases h; rfl) hP hD hS (Nat.le_of_ble_eq_true rfl) (Nat.le_of_ble_eq_true rfl) (Nat.le_of_ble_eq_true rfl) (Nat.le_of_ble_eq_true rfl) (by decide +kernel) (by decide +kernel) (by decide +kernel) (by decide +kernel) (by decide +kernel) (fun q0 g0 H locs hP hD hS => ?_)
  refine W.widen (k := 2) (n := 2401) (Nat.le_of_ble_eq_true rfl) (Nat.le_of_ble_eq_true rfl) ?_
  refine k_sub (iN := 16) (iI := 18) (iF := 19) (k := 1) (cj := 1) (nj := 14) C hml hA hl (fun q sz => km1) kc1 ki1 kj1 kk1 kn1 ke1 ⟨rfl, rfl⟩ (by decide +kernel) rfl kd1 (by decide +kernel) rfl (fun _ h => by cases h; rfl) hP hD hS (Nat.le_of_ble_eq_true rfl) (Nat.le_of_ble_eq_true rfl) (Nat.le_of_ble_eq_true rfl) (Nat.le_of_ble_eq_true rfl) (by decide +kernel) (by decide +kernel) (by decide +kernel) (by decide +kernel) (by decide +kernel) (fun q1 g1 H locs hP hD hS => ?_)
  refine W.widen (k := 13) (n := 4380) (Nat.le_of_ble_eq_true rfl) (Nat.le_of_ble_eq_true rfl) ?_
  refine k_sub (iN := 23) (iI := 25) (iF := 26) (k := 2) (cj := 6) (nj := 4) C hml hA hl (fun q sz => km6) kc6 ki6 kj6 kk6 kn6 ke6 ⟨rfl, rfl⟩ (by decide +kernel) rfl kd6 (by decide +kernel) rfl (fun _ h => by cases h; rfl) hP hD hS (Nat.le_of_ble_eq_true rfl) (Nat.le_of_ble_eq_true rfl) (Nat.le_of_ble_eq_true rfl) (Nat.le_of_ble_eq_true rfl) (by decide +kernel) (by decide +kernel) (by decide +kernel) (by decide +kernel) (by decide +kernel) (fun q2 g2 H locs hP hD hS => ?_)
  refine W.widen (k := 16) (n := 4462) (Nat.le_of_ble_eq_true rfl) (Nat.le_of_ble_eq_true rfl) ?_
  refine k_sub (iN := 30) (iI := 32) (iF := 33) (k := 3) (cj := 0) (nj := 14) C hml hA hl (fun q sz => km0) kc0 ki0 kj0 kk0 kn0 ke0 ⟨rfl, rfl⟩ (by decide +kernel) rfl kd0 (by decide +kernel) rfl (fun _ h => by cases h; rfl) hP hD hS (Nat.le_of_ble_eq_true rfl) (Nat.le_of_ble_eq_true rfl) (Nat.le_of_ble_eq_true rfl) (Nat.le_of_ble_eq_true rfl) (by decide +kernel) (by decide +kernel) (by decide +kernel) (by decide +kernel) (by decide +kernel) (fun q3 g3 H locs hP hD hS => ?_)
  refine W.widen (k := 27) (n := 4760) (Nat.le_of_ble_eq_true rfl) (Nat.le_of_ble_eq_true rfl) ?_
  refine k_sub (iN := 37) (iI := 39) (iF := 40) (k := 4) (cj := 7) (nj := 2) C hml hA hl (fun q sz => km7) kc7 ki7 kj7 kk7 kn7 ke7 ⟨rfl, rfl⟩ (by decide +kernel) rfl kd7 (by decide +kernel) rfl (fun _ h => by cases h; rfl) hP hD hS (Nat.le_of_ble_eq_true rfl) (Nat.le_of_ble_eq_true rfl) (Nat.le_of_ble_eq_true rfl) (Nat.le_of_ble_eq_true rfl) (by decide +kernel) (by decide +kernel) (by decide +kernel) (by decide +kernel) (by decide +kernel) (fun q4 g4 H locs hP hD hS => ?_)
  refine W.widen (k := 29) (n := 5162) (Nat.le_of_ble_eq_true rfl) (Nat.le_of_ble_eq_true rfl) ?_
  refine k_sub (iN := 44) (iI := 46) (iF := 47) (k := 5) (cj := 4) (nj := 5) C hml hA hl (fun q sz => km4) kc4 ki4 kj4 kk4 kn4 ke4 ⟨rfl, rfl⟩ (by decide +kernel) rfl kd4 (by decide +kernel) rfl (fun _ h => by cases h; rfl) hP hD hS (Nat.le_of_ble_eq_true rfl) (Nat.le_of_ble_eq_true rfl) (Nat.le_of_ble_eq_true rfl) (Nat.le_of_ble_eq_true rfl) (by decide +kernel) (by decide +kernel) (by decide +kernel) (by decide +kernel) (by decide +kernel) (fun q5 g5 H locs hP hD hS => ?_)
  refine W.widen (k := 32) (n := 5967) (Nat.le_of_ble_eq_true rfl) (Nat.le_of_ble_eq_true rfl) ?_
  refine k_sub (iN := 51) (iI := 53) (iF := 54) (k := 6) (cj := 2) (nj := 14) C hml hA hl (fun q sz => km2) kc2 ki2 kj2 kk2 kn2 ke2 ⟨rfl, rfl⟩ (by decide +kernel) rfl kd2 (by decide +kernel) rfl (fun _ h => by cases h; rfl) hP hD hS (Nat.le_of_ble_eq_true rfl) (Nat.le_of_ble_eq_true rfl) (Nat.le_of_ble_eq_true rfl) (Nat.le_of_ble_eq_true rfl) (by decide +kernel) (by decide +kernel) (by decide +kernel) (by decide +kernel) (by decide +kernel) (fun q6 g6 H locs hP hD hS => ?_)
  refine W.widen (k := 41) (n := 9001) (Nat.le_of_ble_eq_true rfl) (Nat.le_of_ble_eq_true rfl) ?_
  refine k_sub (iN := 58) (iI := 60) (iF := 61) (k := 7) (cj := 3) (nj := 11) C hml hA hl (fun q sz => km3) kc3 ki3 kj3 kk3 kn3 ke3 ⟨rfl, rfl⟩ (by decide +kernel) rfl kd3 (by decide +kernel) rfl (fun _ h => by cases h; rfl) hP hD hS (Nat.le_of_ble_eq_true rfl) (Nat.le_of_ble_eq_true rfl) (Nat.le_of_ble_eq_true rfl) (Nat.le_of_ble_eq_true rfl) (by decide +kernel) (by decide +kernel) (by decide +kernel) (by decide +kernel) (by decide +kernel) (fun q7 g7 H locs hP hD hS => ?_)
  refine W.widen (k := 48) (n := 9292) (Nat.le_of_ble_eq_true rfl) (Nat.le_of_ble_eq_true rfl) ?_
  refine k_sub (iN := 58) (iI := 60) (iF := 65) (k := 8) (cj := 3) (nj := 11) C hml hA hl (fun q sz => km3) kc3 ki3 kj3 kk3 kn3 ke3 ⟨rfl, rfl⟩ (by decide +kernel) rfl kd3 (by decide +kernel) rfl (fun _ h => by cases h; rfl) hP hD hS (Nat.le_of_ble_eq_true rfl) (Nat.le_of_ble_eq_true rfl) (Nat.le_of_ble_eq_true rfl) (Nat.le_of_ble_eq_true rfl) (by decide +kernel) (by decide +kernel) (by decide +kernel) (by decide +kernel) (by decide +kernel) (fun q8 g8 H locs hP hD hS => ?_)
  refine W.widen (k := 55) (n := 9583) (Nat.le_of_ble_eq_true rfl) (Nat.le_of_ble_eq_true rfl) ?_
  refine k_walk C hA (lv_at hl 0 rfl) ko8 103 _ _ _ _ H locs kb8 (fun _ h => by cases h; rfl) hP hD hS (Nat.le_of_ble_eq_true rfl) (Nat.le_of_ble_eq_true rfl) (fun g pc' H locs hd hP hD hS => ?_)
  obtain ⟨G, hG⟩ : ∃ G : Nat → Nat × (Nat → Nat), G 0 = (q0, g0) ∧ G 1 = (q1, g1) ∧ G 2 = (q2, g2) ∧ G 3 = (q3, g3) ∧ G 4 = (q4, g4) ∧ G 5 = (q5, g5) ∧ G 6 = (q6, g6) ∧ G 7 = (q7, g7) ∧ G 8 = (q8, g8) := ⟨fun j => match j with | 0 => (q0, g0) | 1 => (q1, g1) | 2 => (q2, g2) | 3 => (q3, g3) | 4 => (q4, g4) | 5 => (q5, g5) | 6 => (q6, g6) | 7 => (q7, g7) | _ => (q8, g8), ⟨rfl, rfl, rfl, rfl, rfl, rfl, rfl, rfl, rfl⟩⟩
  obtain ⟨e0, e1, e2, e3, e4, e5, e6, e7, e8⟩ := hG
  have hE : (h0, (Sum.inr (8, kfin ko8 g (((((((((kf8.set 0 (Value.ref q0)).set 1 (Value.ref q1)).set 2 (Value.ref q2)).set 3 (Value.ref q3)).set 4 (Value.ref q4)).set 5 (Value.ref q5)).set 6 (Value.ref q6)).set 7 (Value.ref q7)).set 8 (Value.ref q8))) : va_E)) :: (((((((((([] ++ kW cA q0 5 ko5 kf5 g0) ++ kW cA q1 1 ko1 kf1 g1) ++ kW cA q2 6 ko6 kf6 g2) ++ kW cA q3 0 ko0 kf0 g3) ++ kW cA q4 7 ko7 kf7 g4) ++ kW cA q5 4 ko4 kf4 g5) ++ kW cA q6 2 ko2 kf2 g6) ++ kW cA q7 3 ko3 kf3 g7) ++ kW cA q8 3 ko3 kf3 g8) ++ karr cA ko8 g) = kW8 cA h0 G := by
    simp only [kW8, kf8G, e0, e1, e2, e3, e4, e5, e6, e7, e8, kfin, karr, ko8, List.append_nil]
  have hP : va_P D vwCl (kW8 cA h0 G) H := hE ▸ hP
  have hD : va_D (va_A [(h0, .inr (8, kf8))] s.heap.size) (kW8 cA h0 G) := hE ▸ hD
  refine W.widen (k := 55) (n := 9583) (Nat.le_of_ble_eq_true rfl) (Nat.le_of_ble_eq_true rfl) ?_
  exact W.vret B.exec B.bytes B.returns (fun t ht hW => ⟨⟨G, rfl, trivial, by rw [ht]; exact hP, hD⟩, hS.F ht⟩) hS.2.2 hd hlocks
