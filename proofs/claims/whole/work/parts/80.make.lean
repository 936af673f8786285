/-! CONSTRUCTORS: straight code that makes arrays and sets fields -/
/-- a field's making: the kind of its array (none: a number), the number pushed, the field, the link, the bytes of the push, what it says -/
abbrev zop : Type := Option Nat × Int32 × Nat × Nat × Nat × Int
def zat : Nat → ArrayType
  | 0 => .int
  | 1 => .boolean
  | 2 => .byte
  | _ => .long
def za0 : Nat → Nat → vp_A
  | 0, N => (N, .inl (fun _ => 0))
  | 1, N => (N, .inl (fun _ => 0))
  | 2, N => (N, .inl (fun _ => 0))
  | _, N => (N, .inr (.inl (fun _ => 0)))
def kfin : List zop → (Nat → Nat) → List Value → List Value
  | [], _, fs => fs
  | (some _, _, k, _) :: r, g, fs => kfin r (fun i => g (i + 1)) (fs.set k (.ref (g 0)))
  | (none, x, k, _) :: r, g, fs => kfin r g (fs.set k (.int x))
def karr (cA : Nat → ClassId) : List zop → (Nat → Nat) → va_W
  | [], _ => []
  | (some t, x, _) :: r, g => (g 0, .inl (cA t, za0 t x.toNatClampNeg)) :: karr cA r (fun i => g (i + 1))
  | (none, _) :: r, g => karr cA r g
def knum : List zop → Nat
  | [] => 0
  | (some _, _) :: r => knum r + 1
  | (none, _) :: r => knum r
def ksum : List zop → Nat
  | [] => 0
  | (some _, x, _) :: r => ksum r + x.toNatClampNeg
  | (none, _) :: r => ksum r
def kpush (cc : ByteArray) (pc len : Nat) (d : Int) (x : Int32) : Bool := match len with
  | 1 => decide (decode cc pc = .ok (.iconst d, 1)) && decide (Int32.ofInt d = x)
  | 2 => decide (decode cc pc = .ok (.bipush d, 2)) && decide ((Int8.ofInt d).toInt32 = x)
  | 3 => decide (decode cc pc = .ok (.sipush d, 3)) && decide ((Int16.ofInt d).toInt32 = x)
  | _ => false
def kref : FieldType → Bool
  | .array _ => true
  | .object _ => true
  | _ => false
def kfld (ci i k : Nat) : Bool := (zfl ci).any (fun q => decide (q.1 = (i, ci, k)) && !q.2.1) && (match vwCl[ci]? with
  | some q => decide ((q.2.1 k).1 = zow ci)
  | none => false)
def kB (ci : Nat) (cc : ByteArray) : Nat → List zop → Bool
  | pc, [] => decide (decode cc pc = .ok (.return_, 1))
  | pc, (o, x, k, i, len, d) :: r => decide (decode cc pc = .ok (.aload_n 0, 1)) && (kpush cc (pc + 1) len d x && (kfld ci i k && (match o with
    | some t => decide (t < 4) && (decide (¬ x < 0) && (decide (x.toNatClampNeg ≤ 10000) && (kref (ztyp ci k) && (decide (decode cc (pc + 1 + len) = .ok (.newarray (zat t), 2)) && (decide (decode cc (pc + 1 + len + 2) = .ok (.putfield i, 3)) && kB ci cc (pc + 1 + len + 2 + 3) r)))))
    | none => decide (narrow (ztyp ci k) (.int x) = .int x) && (decide (fits (ztyp ci k) (.int x) = true) && (decide (decode cc (pc + 1 + len) = .ok (.putfield i, 3)) && kB ci cc (pc + 1 + len + 3) r)))))
theorem kw {D : va_G} {cA : Nat → ClassId} {U : State} {A : Array Value} (hK : va_K D vwCl (zty cA) U) {k : Nat} {c : ClassId} {ty : FieldType} (h : (zty cA)[k]? = some (c, ty)) (ho : ∀ C, ty ≠ .object C) : (Cond.arrayClass ty).before A U = true := by
  obtain ⟨h1, h2⟩ := hK.2 k _ h
  obtain ⟨-, kA, h3, comp, h4⟩ := h1 0 (fun _ => .null)
  have h5 : U.vm.findClass ("[" ++ ty.toString) = some c := by
    cases ty <;> first | exact h2 | exact absurd rfl (ho _)
  have h3 : U.vm.classes[c]? = some kA := h3
  simp [Cond.before, Cond.holds, Cond.value, h5, h3, h4]
theorem kref_ok {ty : FieldType} (h : kref ty = true) (a : Nat) : narrow ty (.ref a) = .ref a ∧ fits ty (.ref a) = true := by
  cases ty <;> first | exact ⟨rfl, rfl⟩ | cases h
section KMAKE
variable {p : Program} {l : Launch} {e : Env} {R : Room} {s : State} {m : MethodId} {args : Array Value} {below : List Frame} {meth : Method} {c : Code} {D : va_G} {cA : Nat → ClassId} {cc : ByteArray} {Q : State → Prop} {A : Nat → Prop} {ls : Array Slot} {h0 ci : Nat}
def kCx (ci : Nat) (cc : ByteArray) (D : va_G) (cA : Nat → ClassId) (p : Program) (s : State) (m : MethodId) (meth : Method) (c : Code) : Prop :=
  p.tables.exec = Jvm.exec ∧ c.code = cc ∧ s.vm.findClass (zow ci) = some m.cls ∧ zWd s ∧ va_K D vwCl (zty cA) s ∧ meth.name = "<init>"
theorem k_push {pc len cells slots : Nat} {d : Int} {x : Int32} {H : Heap} {locs : List Loc} {rest : List Value} (C : kCx ci cc D cA p s m meth c) (h : kpush cc pc len d x = true) (kk : W p l e R s m args below meth c H locs cells slots Q (F0 m (pc + len) ls (.int x :: rest))) : W p l e R s m args below meth c H locs cells slots Q (F0 m pc ls rest) := by
  unfold kpush at h
  split at h
  · simp only [Bool.and_eq_true, decide_eq_true_eq] at h
    exact lv_iconst C.1 C.2.1 h.1 h.2 kk
  · simp only [Bool.and_eq_true, decide_eq_true_eq] at h
    exact lv_bipush C.1 C.2.1 h.1 h.2 kk
  · simp only [Bool.and_eq_true, decide_eq_true_eq] at h
    exact lv_sipush C.1 C.2.1 h.1 h.2 kk
  · cases h
theorem k_new {t N pc cells slots : Nat} {x : Int32} {H : Heap} {locs : List Loc} {rest : List Value} {ws : va_W} (C : kCx ci cc D cA p s m meth c) (hA : ∀ q, s.heap.size ≤ q → A q) (ht : t < 4) (hx : ¬ x < 0) (hN : x.toNatClampNeg = N) (hN2 : N ≤ 10000) (hP : va_P D vwCl ws H) (hD : va_D A ws) (hS : va_S A s.heap H locs) (hc : cells + 1 ≤ R.cells) (hs : slots + N ≤ R.slots) (hd : decode cc pc = .ok (.newarray (zat t), 2))
    (kk : ∀ (q : Nat) (H1 : Heap), va_P D vwCl (ws ++ [(q, .inl (cA t, za0 t N))]) H1 → va_D A (ws ++ [(q, .inl (cA t, za0 t N))]) → va_S A s.heap H1 locs → W p l e R s m args below meth c H1 locs (cells + 1) (slots + N) Q (F0 m (pc + 2) ls (.ref q :: rest))) : W p l e R s m args below meth c H locs cells slots Q (F0 m pc ls (.int x :: rest)) := by
  have key : ∀ (ty : FieldType) (c1 c2 : ClassId), va_RA s c1 ty → va_RA s c2 ty → (∀ C, ty ≠ .object C) → c1 = c2 := by
    intro ty c1 c2 h1 h2 h3
    cases ty <;> first | exact Option.some.inj (h1.symm.trans h2) | exact absurd rfl (h3 _)
  have hK := C.2.2.2.2.1
  have fin : ∀ (q : Nat) (c2 : ClassId) (H1 : Heap), c2 = cA t → va_P D vwCl (ws ++ [(q, .inl (c2, za0 t N))]) H1 → va_D A (ws ++ [(q, .inl (c2, za0 t N))]) → va_S A s.heap H1 locs → W p l e R s m args below meth c H1 locs (cells + 1) (slots + N) Q (F0 m (pc + 2) ls (.ref q :: rest)) := by
    intro q c2 H1 hc2 h1 h2 h3
    subst hc2
    exact kk q H1 h1 h2 h3
  match t, ht, hd, fin with
  | 0, _, hd, fin =>
    exact va_newa (ty := .int) (a0 := za0 0 N) C.1 C.2.1 (kw hK (k := 0) rfl (fun _ h => by cases h)) rfl hK hP hD hS hA (fun _ => rfl) hx hN (by show N * 4 ≤ _; omega) hc hs hd (fun q c2 H1 hK2 h1 h2 h3 => fin q c2 H1 (key .int _ _ (hK2.2 4 _ rfl).2 (hK2.2 0 _ rfl).2 (fun _ h => by cases h)) h1 h2 h3)
  | 1, _, hd, fin =>
    exact va_newa (ty := .boolean) (a0 := za0 1 N) C.1 C.2.1 (kw hK (k := 1) rfl (fun _ h => by cases h)) rfl hK hP hD hS hA (fun _ => rfl) hx hN (by show N * 1 ≤ _; omega) hc hs hd (fun q c2 H1 hK2 h1 h2 h3 => fin q c2 H1 (key .boolean _ _ (hK2.2 4 _ rfl).2 (hK2.2 1 _ rfl).2 (fun _ h => by cases h)) h1 h2 h3)
  | 2, _, hd, fin =>
    exact va_newa (ty := .byte) (a0 := za0 2 N) C.1 C.2.1 (kw hK (k := 2) rfl (fun _ h => by cases h)) rfl hK hP hD hS hA (fun _ => rfl) hx hN (by show N * 1 ≤ _; omega) hc hs hd (fun q c2 H1 hK2 h1 h2 h3 => fin q c2 H1 (key .byte _ _ (hK2.2 4 _ rfl).2 (hK2.2 2 _ rfl).2 (fun _ h => by cases h)) h1 h2 h3)
  | 3, _, hd, fin =>
    exact va_newa (ty := .long) (a0 := za0 3 N) C.1 C.2.1 (kw hK (k := 3) rfl (fun _ h => by cases h)) rfl hK hP hD hS hA (fun _ => rfl) hx hN (by show N * 8 ≤ _; omega) hc hs hd (fun q c2 H1 hK2 h1 h2 h3 => fin q c2 H1 (key .long _ _ (hK2.2 4 _ rfl).2 (hK2.2 3 _ rfl).2 (fun _ h => by cases h)) h1 h2 h3)
theorem k_put {i k pc cells slots : Nat} {v : Value} {H : Heap} {locs : List Loc} {rest fs : List Value} {as : va_W} (C : kCx ci cc D cA p s m meth c) (hf : kfld ci i k = true) (hlen : ∀ q, vwCl[ci]? = some q → q.2.2 = fs.length) (hv : narrow (ztyp ci k) v = v ∧ fits (ztyp ci k) v = true) (hP : va_P D vwCl ((h0, .inr (ci, fs)) :: as) H) (hD : va_D A ((h0, .inr (ci, fs)) :: as)) (hS : va_S A s.heap H locs) (hd : decode cc pc = .ok (.putfield i, 3))
    (kk : ∀ (H1 : Heap) (locs1 : List Loc), va_P D vwCl ((h0, .inr (ci, fs.set k v)) :: as) H1 → va_D A ((h0, .inr (ci, fs.set k v)) :: as) → va_S A s.heap H1 locs1 → W p l e R s m args below meth c H1 locs1 cells slots Q (F0 m (pc + 3) ls rest)) : W p l e R s m args below meth c H locs cells slots Q (F0 m pc ls (v :: .ref h0 :: rest)) := by
  unfold kfld at hf
  rw [Bool.and_eq_true, List.any_eq_true] at hf
  obtain ⟨⟨q, hq, hq2⟩, hf2⟩ := hf
  rw [Bool.and_eq_true, decide_eq_true_eq, Bool.not_eq_true'] at hq2
  obtain ⟨C0, T, N, e1, e2, e3⟩ := zf_inv hq
  rw [hq2.1] at e1 e2 e3
  obtain ⟨hws, hty, hnm⟩ := z_cls ci _ e1
  have hts : ∀ w ∈ ztb, w.before args s = true := fun w hw => C.2.2.2.1 w hw args
  have e3 : Cond.fieldLink (zow ci) i (T k).1 (T k).2.1 (T k).2.2.1 ∈ ztb := by
    rcases e3 with ⟨h1, -⟩ | ⟨-, h2⟩
    · rw [hq2.2] at h1
      cases h1
    · exact h2
  rw [e1] at hf2
  have hdecl : (T k).1 = zow ci := by simpa using hf2
  have hl : k < fs.length := by rw [← hlen _ e1]; exact e2
  cases hfin : (T k).2.2.2 with
  | false => exact va_put (C := C0) (T := T) (N := N) C.1 C.2.1 hts hws (ztyp ci) hty hnm C.2.2.1 C.2.2.2.2.1 hP hD hS 0 rfl e1 k e2 (hts _ e3) (fun _ h9 => h9) hfin (hty k e2) hv.1 hv.2 hl hd kk
  | true => exact va_putF (C := C0) (T := T) (N := N) C.1 C.2.1 hts hws (ztyp ci) hty hnm C.2.2.1 C.2.2.2.2.1 hP hD hS 0 rfl e1 k e2 (hts _ e3) (fun _ h9 => h9) hfin C.2.2.2.2.2 hdecl (hty k e2) hv.1 hv.2 hl hd kk
theorem k_walk (C : kCx ci cc D cA p s m meth c) (hA : ∀ q, s.heap.size ≤ q → A q) (hl : ls[0]? = some (.val (.ref h0))) : ∀ (ops : List zop) (pc : Nat) (fs : List Value) (as : va_W) (cells slots : Nat) (H : Heap) (locs : List Loc), kB ci cc pc ops = true → (∀ q, vwCl[ci]? = some q → q.2.2 = fs.length) → va_P D vwCl ((h0, .inr (ci, fs)) :: as) H → va_D A ((h0, .inr (ci, fs)) :: as) → va_S A s.heap H locs → cells + knum ops ≤ R.cells → slots + ksum ops ≤ R.slots →
    (∀ (g : Nat → Nat) (pc' : Nat) (H1 : Heap) (locs1 : List Loc), decode cc pc' = .ok (.return_, 1) → va_P D vwCl ((h0, .inr (ci, kfin ops g fs)) :: (as ++ karr cA ops g)) H1 → va_D A ((h0, .inr (ci, kfin ops g fs)) :: (as ++ karr cA ops g)) → va_S A s.heap H1 locs1 → W p l e R s m args below meth c H1 locs1 (cells + knum ops) (slots + ksum ops) Q (F0 m pc' ls [])) → W p l e R s m args below meth c H locs cells slots Q (F0 m pc ls [])
  | [], pc, fs, as, cells, slots, H, locs, hB, hlen, hP, hD, hS, hc, hs, kk => by
    have hB : decode cc pc = .ok (.return_, 1) := by simpa [kB] using hB
    exact kk (fun _ => 0) pc H locs hB (by simpa [kfin, karr] using hP) (by simpa [kfin, karr] using hD) hS
  | (some t, x, k, i, len, d) :: r, pc, fs, as, cells, slots, H, locs, hB, hlen, hP, hD, hS, hc, hs, kk => by
    simp only [kB, Bool.and_eq_true, decide_eq_true_eq] at hB
    obtain ⟨b1, b2, b3, b4, b5, b6, b7, b8, b9, b10⟩ := hB
    simp only [knum, ksum] at hc hs kk
    refine lv_aload_n C.1 C.2.1 b1 rfl hl (k_push C b2 (k_new C hA b4 b5 rfl b6 hP hD hS (by omega) (by omega) b8 (fun q H1 hP1 hD1 hS1 => ?_)))
    refine k_put (as := as ++ [(q, (Sum.inl (cA t, za0 t x.toNatClampNeg) : va_E))]) C b3 hlen (kref_ok b7 q) hP1 hD1 hS1 b9 (fun H2 locs2 hP2 hD2 hS2 => ?_)
    refine k_walk C hA hl r _ _ _ _ _ H2 locs2 b10 (fun z hz => by rw [hlen z hz, List.length_set]) hP2 hD2 hS2 (by omega) (by omega) (fun g pc' H3 locs3 hd hP3 hD3 hS3 => ?_)
    have h := kk (fun j => match j with
      | 0 => q
      | j + 1 => g j) pc' H3 locs3 hd (by rw [List.append_assoc] at hP3; exact hP3) (by rw [List.append_assoc] at hD3; exact hD3) hS3
    rw [show cells + 1 + knum r = cells + (knum r + 1) by omega, show slots + x.toNatClampNeg + ksum r = slots + (ksum r + x.toNatClampNeg) by omega]
    exact h
  | (none, x, k, i, len, d) :: r, pc, fs, as, cells, slots, H, locs, hB, hlen, hP, hD, hS, hc, hs, kk => by
    simp only [kB, Bool.and_eq_true, decide_eq_true_eq] at hB
    obtain ⟨b1, b2, b3, b4, b5, b6, b7⟩ := hB
    simp only [knum, ksum] at hc hs kk
    refine lv_aload_n C.1 C.2.1 b1 rfl hl (k_push C b2 (k_put C b3 hlen ⟨b4, b5⟩ hP hD hS b6 (fun H2 locs2 hP2 hD2 hS2 => ?_)))
    exact k_walk C hA hl r _ _ _ _ _ H2 locs2 b7 (fun z hz => by rw [hlen z hz, List.length_set]) hP2 hD2 hS2 hc hs kk
end KMAKE
/-- what a constructor finds, and leaves -/
def kPc (D : va_G) (cA : Nat → ClassId) (h0 sz ci : Nat) (fs : List Value) : Array Value → State → Prop := va_Pc [.ref h0] (fun U => zWd U ∧ va_K D vwCl (zty cA) U ∧ U.heap.size = sz ∧ va_P D vwCl [(h0, .inr (ci, fs))] U.heap)
def kW (cA : Nat → ClassId) (h0 ci : Nat) (ops : List zop) (fs : List Value) (g : Nat → Nat) : va_W := (h0, .inr (ci, kfin ops g fs)) :: karr cA ops g
def kQc (D : va_G) (cA : Nat → ClassId) (h0 sz ci : Nat) (ops : List zop) (fs : List Value) : Array Value → State → Outcome → State → Prop := va_Qv (fun _ : Nat → Nat => True) (fun g t => va_P D vwCl (kW cA h0 ci ops fs g) t.heap ∧ va_D (va_A [(h0, .inr (ci, fs))] sz) (kW cA h0 ci ops fs g)) (va_A [(h0, .inr (ci, fs))] sz)
theorem kPc_blind {D : va_G} {cA : Nat → ClassId} {h0 sz ci : Nat} {fs : List Value} : FrameBlind (kPc D cA h0 sz ci fs) := by
  intro a U g mk q
  obtain ⟨q0, q1, q2, q3, q4⟩ := q
  exact ⟨q0, zWd_warm (s := U) (U := U.calling g mk a) (State.WarmedH.refl U) q1, va_K.moved (u := U) (U := U.calling g mk a) (Vm.Alike.refl U.vm) q2, q3, q4⟩
theorem va_D1 {h0 sz : Nat} {e : va_E} : va_D (va_A [(h0, e)] sz) [(h0, e)] := by
  refine ⟨fun i j p q h1 h2 _ => ?_, fun k q h => va_A.in h⟩
  have a := (List.getElem?_eq_some_iff.mp h1).1
  have b := (List.getElem?_eq_some_iff.mp h2).1
  simp at a b
  omega
theorem kn_inst : Cond.instanceMethod Lib.objectInit ∈ ztb := zt_1 24 rfl rfl
theorem kn_code : Cond.code Lib.objectInit ⟨#[0xb1]⟩ 1 none ∈ ztb := zt_1 25 rfl rfl
set_option maxHeartbeats 4000000 in
/-- a constructor that makes arrays only -/
theorem k_leaf {l : Launch} {D : va_G} {cA : Nat → ClassId} {h0 sz ci i0 : Nat} {y : MethodName} {cc : ByteArray} {ops : List zop} {fs : List Value} (hpl : plainName y.cls = true) (hy : y.cls = zow ci) (hnm : y.name = "<init>") (hlk : Cond.methodLink (zow ci) i0 Lib.objectInit ∈ ztb) (hd0 : decode cc 0 = .ok (.aload_n 0, 1)) (hd1 : decode cc 1 = .ok (.invokespecial i0, 3)) (hB : kB ci cc 4 ops = true) (hN : ∀ q, vwCl[ci]? = some q → q.2.2 = fs.length) :
    Met l y [.code y cc 1 none] { frames := 1, cells := knum ops, slots := ksum ops, locals := 12 } (kPc D cA h0 sz ci fs) (kQc D cA h0 sz ci ops fs) (knum ops) (ksum ops) (va_A [(h0, .inr (ci, fs))] sz) := by
  refine Met.ofW (cc := cc) (maxL := 1) (ret := none) hpl rfl ?_
  intro p e s m args below meth c s₁ B hml hv
  obtain ⟨rfl, hWd, hK, hsz, hP⟩ := hv
  have hown : s.vm.findClass (zow ci) = some m.cls := by rw [← hy]; exact findClass_of_methodNamed B.named
  have hlocks := B.notSynchronized
  have hin : meth.name = "<init>" := by rw [← hnm]; exact (name_of_methodNamed B.named B.method).1
  have C : kCx ci cc D cA p s m meth c := ⟨B.exec, B.bytes, hown, hWd, hK, hin⟩
  have hts : ∀ w ∈ ztb, w.before (#[.ref h0] : Array Value) s = true := fun w hw => hWd w hw _
  subst hsz
  have hD : va_D (va_A [(h0, .inr (ci, fs))] s.heap.size) [(h0, .inr (ci, fs))] := va_D1
  have hA : ∀ q : Nat, s.heap.size ≤ q → va_A [(h0, .inr (ci, fs))] s.heap.size q := fun q h => Or.inr h
  have hl := lv_entry ([.ref h0]) (n := 1) (Nat.le_of_ble_eq_true rfl)
  rw [lg_entry_eq]
  generalize (lg_sl ([.ref h0]) ++ List.replicate (1 - (lg_sl ([.ref h0])).length) Slot.unset).toArray = ls at hl ⊢
  have hl : lv_has ls 1 [(0, .ref h0)] := hl
  refine lv_aload_n B.exec B.bytes hd0 rfl (lv_at hl 0 rfl) ?_
  refine W.objInit B.exec B.bytes hown (hts _ hlk) (hts _ kn_inst) (hts _ kn_code) rfl (by rw [hml]; exact hl.1) rfl hd1 (Nat.le_of_ble_eq_true rfl) (Nat.le_of_ble_eq_true rfl) ?_
  refine W.eq (g2 := F0 m 4 ls []) rfl ?_
  refine k_walk C hA (lv_at hl 0 rfl) ops 4 fs [] 0 0 s.heap [] hB hN hP hD va_S.rf (by simp [headSpec]) (by simp [headSpec]) (fun g pc' H1 locs1 hd hP1 hD1 hS1 => ?_)
  rw [Nat.zero_add, Nat.zero_add]
  exact W.vret B.exec B.bytes B.returns (fun t ht hW => ⟨⟨g, rfl, trivial, by rw [ht]; exact hP1, hD1⟩, hS1.F ht⟩) hS1.2.2 hd hlocks
