/-! A STEP OF THE SMALL MACHINE IS A STEP OF THE JVM -/
def zv (ad : Nat → Nat) : Value → Value
  | .ref a => .ref (ad a)
  | v => v
def zc (ad : Nat → Nat) (cA : Nat → ClassId) : zC → va_E
  | .inl (t, x) => .inl (cA t, x)
  | .inr (ci, fs) => .inr (ci, fs.map (zv ad))
def zw (ad : Nat → Nat) (cA : Nat → ClassId) (h : zH) : va_W := h.mapIdx (fun k c => (ad k, zc ad cA c))
def zty (cA : Nat → ClassId) : List (ClassId × FieldType) := [(cA 0, .int), (cA 1, .boolean), (cA 2, .byte), (cA 3, .long)]
def zla (ad : Nat → Nat) : Nat → zL → List (Nat × Value)
  | _, [] => []
  | n, none :: L => zla ad (n + 1) L
  | n, some v :: L => (n, zv ad v) :: zla ad (n + 1) L
theorem zw_get {ad : Nat → Nat} {cA : Nat → ClassId} {h : zH} {k : Nat} {c : zC} (hk : h[k]? = some c) : (zw ad cA h)[k]? = some (ad k, zc ad cA c) := by
  simp [zw, List.getElem?_mapIdx, hk]
theorem zw_set (ad : Nat → Nat) (cA : Nat → ClassId) (h : zH) (k : Nat) (c : zC) : (zw ad cA h).set k (ad k, zc ad cA c) = zw ad cA (h.set k c) := by
  apply List.ext_getElem?
  intro j
  simp only [zw, List.getElem?_mapIdx, List.getElem?_set, List.length_mapIdx]
  by_cases hj : k = j
  · subst hj
    by_cases hl : k < h.length <;> simp [hl]
  · simp [hj]
theorem zw_len (ad : Nat → Nat) (cA : Nat → ClassId) (h : zH) : (zw ad cA h).length = h.length := by simp [zw]
/-- the cells that a method may write -/
def zA (ad : Nat → Nat) (n : Nat) : Nat → Prop := fun q => ∃ i, i < n ∧ q = ad i
def zinj (ad : Nat → Nat) (n : Nat) : Prop := ∀ i j, i < n → j < n → ad i = ad j → i = j
theorem zw_D {ad : Nat → Nat} {cA : Nat → ClassId} {h : zH} {n : Nat} (hn : h.length = n) (hi : zinj ad n) : va_D (zA ad n) (zw ad cA h) := by
  have key : ∀ (i : Nat) (p : Nat × va_E), (zw ad cA h)[i]? = some p → i < n ∧ p.1 = ad i := by
    intro i p hp
    have hl : i < (zw ad cA h).length := (List.getElem?_eq_some_iff.mp hp).1
    rw [zw_len, hn] at hl
    refine ⟨hl, ?_⟩
    simp only [zw, List.getElem?_mapIdx, Option.map_eq_some_iff] at hp
    obtain ⟨c, -, rfl⟩ := hp
    rfl
  refine ⟨fun i j p q h1 h2 h3 => ?_, fun k q h1 => ?_⟩
  · obtain ⟨a1, a2⟩ := key i p h1
    obtain ⟨b1, b2⟩ := key j q h2
    exact hi i j a1 b1 (by rw [← a2, ← b2, h3])
  · obtain ⟨a1, a2⟩ := key k q h1
    exact ⟨k, a1, a2⟩
/-! the words -/
def zWd (U : State) : Prop := ∀ w ∈ ztb, ∀ A : Array Value, w.before A U = true
theorem zWd_warm {s U : State} (hW : s.WarmedH U.vm) (h : zWd s) : zWd U := by
  intro w hw A
  have hg : zgood w = true := (List.mem_filter.mp hw).2
  have h0 := h w hw #[]
  cases w <;> first | exact va_Nw.use rfl (va_Nw.warmM hW h0) | exact va_Nw.use rfl (va_Nw.warmF hW h0) | exact word_at hW (Or.inl hg) h0
/-! stack and locals -/
theorem z1i_inv {S : List Value} {k : Int32 → List Value → Prop} (h : z1i S k) : ∃ x S', S = .int x :: S' ∧ k x S' := by
  unfold z1i at h
  split at h
  · exact ⟨_, _, rfl, h⟩
  · exact h.elim
theorem z2i_inv {S : List Value} {k : Int32 → Int32 → List Value → Prop} (h : z2i S k) : ∃ x y S', S = .int y :: .int x :: S' ∧ k x y S' := by
  unfold z2i at h
  split at h
  · exact ⟨_, _, _, rfl, h⟩
  · exact h.elim
theorem z1l_inv {S : List Value} {k : Int64 → List Value → Prop} (h : z1l S k) : ∃ x S', S = .long x :: S' ∧ k x S' := by
  unfold z1l at h
  split at h
  · exact ⟨_, _, rfl, h⟩
  · exact h.elim
theorem z2l_inv {S : List Value} {k : Int64 → Int64 → List Value → Prop} (h : z2l S k) : ∃ x y S', S = .long y :: .long x :: S' ∧ k x y S' := by
  unfold z2l at h
  split at h
  · exact ⟨_, _, _, rfl, h⟩
  · exact h.elim
theorem zil_inv {S : List Value} {k : Int64 → Int32 → List Value → Prop} (h : zil S k) : ∃ x y S', S = .int y :: .long x :: S' ∧ k x y S' := by
  unfold zil at h
  split at h
  · exact ⟨_, _, _, rfl, h⟩
  · exact h.elim
theorem z1r_inv {S : List Value} {k : Nat → List Value → Prop} (h : z1r S k) : ∃ x S', S = .ref x :: S' ∧ k x S' := by
  unfold z1r at h
  split at h
  · exact ⟨_, _, rfl, h⟩
  · exact h.elim
theorem zir_inv {S : List Value} {k : Nat → Int32 → List Value → Prop} (h : zir S k) : ∃ x i S', S = .int i :: .ref x :: S' ∧ k x i S' := by
  unfold zir at h
  split at h
  · exact ⟨_, _, _, rfl, h⟩
  · exact h.elim
theorem ziir_inv {S : List Value} {k : Nat → Int32 → Int32 → List Value → Prop} (h : ziir S k) : ∃ x i v S', S = .int v :: .int i :: .ref x :: S' ∧ k x i v S' := by
  unfold ziir at h
  split at h
  · exact ⟨_, _, _, _, rfl, h⟩
  · exact h.elim
theorem zlir_inv {S : List Value} {k : Nat → Int32 → Int64 → List Value → Prop} (h : zlir S k) : ∃ x i v S', S = .long v :: .int i :: .ref x :: S' ∧ k x i v S' := by
  unfold zlir at h
  split at h
  · exact ⟨_, _, _, _, rfl, h⟩
  · exact h.elim
theorem zvr_inv {S : List Value} {k : Nat → Value → List Value → Prop} (h : zvr S k) : ∃ x v S', S = v :: .ref x :: S' ∧ k x v S' := by
  unfold zvr at h
  split at h
  · exact ⟨_, _, _, rfl, h⟩
  · exact h.elim
theorem zobj_inv {h : zH} {r ci : Nat} {k : List Value → Prop} (hz : zobj h r ci k) : ∃ fs, h[r]? = some (.inr (ci, fs)) ∧ k fs := by
  unfold zobj at hz
  split at hz
  · next c fs e =>
    split at hz
    · next hc => subst hc; exact ⟨fs, e, hz⟩
    · exact hz.elim
  · exact hz.elim
theorem zarr_inv {h : zH} {r t : Nat} {k : Nat → (Nat → Int32) → Prop} (hz : zarr h r t k) : ∃ n f, h[r]? = some (.inl (t, n, .inl f)) ∧ k n f := by
  unfold zarr at hz
  split at hz
  · next t' n f e =>
    split at hz
    · next hc => subst hc; exact ⟨n, f, e, hz⟩
    · exact hz.elim
  · exact hz.elim
theorem zarl_inv {h : zH} {r t : Nat} {k : Nat → (Nat → Int64) → Prop} (hz : zarl h r t k) : ∃ n f, h[r]? = some (.inl (t, n, .inr (.inl f))) ∧ k n f := by
  unfold zarl at hz
  split at hz
  · next t' n f e =>
    split at hz
    · next hc => subst hc; exact ⟨n, f, e, hz⟩
    · exact hz.elim
  · exact hz.elim
theorem zfld_inv {fs : List Value} {b : Nat} {k : Value → Prop} (hz : zfld fs b k) : ∃ v, fs[b]? = some v ∧ k v := by
  unfold zfld at hz
  split at hz
  · next v e => exact ⟨v, e, hz⟩
  · exact hz.elim
theorem z1w_inv {v : Value} {k : Prop} (ad : Nat → Nat) (h : z1w v k) : (zv ad v).category = 1 ∧ k := by
  unfold z1w at h
  split at h
  · exact ⟨rfl, h⟩
  · exact ⟨rfl, h⟩
  · exact h.elim
theorem zget_inv (ad : Nat → Nat) : ∀ (L : zL) (a n : Nat) (k : Value → Prop), zget L a k → ∃ v, (n + a, zv ad v) ∈ zla ad n L ∧ k v
  | some v :: L, 0, n, k, h => ⟨v, by simp [zla], h⟩
  | none :: L, 0, n, k, h => h.elim
  | some w :: L, a + 1, n, k, h => by
    obtain ⟨v, h1, h2⟩ := zget_inv ad L a (n + 1) k h
    exact ⟨v, by simp only [zla]; rw [show n + (a + 1) = n + 1 + a by omega]; exact List.mem_cons_of_mem _ h1, h2⟩
  | none :: L, a + 1, n, k, h => by
    obtain ⟨v, h1, h2⟩ := zget_inv ad L a (n + 1) k h
    exact ⟨v, by simp only [zla]; rw [show n + (a + 1) = n + 1 + a by omega]; exact h1, h2⟩
  | [], 0, n, k, h => h.elim
  | [], a + 1, n, k, h => h.elim
theorem zla_ge (ad : Nat → Nat) : ∀ (L : zL) (n : Nat) (q : Nat × Value), q ∈ zla ad n L → n ≤ q.1
  | [], n, q, h => by simp [zla] at h
  | none :: L, n, q, h => by
    have := zla_ge ad L (n + 1) q h
    omega
  | some v :: L, n, q, h => by
    simp only [zla, List.mem_cons] at h
    rcases h with rfl | h
    · exact Nat.le_refl _
    · have := zla_ge ad L (n + 1) q h
      omega
theorem zset_inv (ad : Nat → Nat) : ∀ (L : zL) (a n : Nat) (v : Value) (k : zL → Prop), zset L a v k → ∃ L', k L' ∧ ∀ q ∈ zla ad n L', q = (n + a, zv ad v) ∨ (q ∈ zla ad n L ∧ q.1 ≠ n + a ∧ ¬ (q.1 + 1 = n + a ∧ q.2.category = 2))
  | [], 0, n, v, k, h => h.elim
  | [], 1, n, v, k, h => h.elim
  | [], a + 2, n, v, k, h => h.elim
  | o :: L, 0, n, v, k, h => by
    refine ⟨some v :: L, h, fun q hq => ?_⟩
    simp only [zla, List.mem_cons] at hq
    rcases hq with rfl | hq
    · exact Or.inl rfl
    · have h1 := zla_ge ad L (n + 1) q hq
      refine Or.inr ⟨?_, by omega, by omega⟩
      cases o with
      | none => exact hq
      | some w => exact List.mem_cons_of_mem _ hq
  | o :: L, 1, n, v, k, h => by
    obtain ⟨L', h1, h2⟩ := zset_inv ad L 0 (n + 1) v _ h
    refine ⟨zo o :: L', h1, fun q hq => ?_⟩
    have rest : ∀ q ∈ zla ad (n + 1) L', q = (n + 1, zv ad v) ∨ (q ∈ zla ad n (o :: L) ∧ q.1 ≠ n + 1 ∧ ¬ (q.1 + 1 = n + 1 ∧ q.2.category = 2)) := by
      intro q hq
      rcases h2 q hq with e | ⟨e1, e2, e3⟩
      · exact Or.inl (by simpa using e)
      · have h5 := zla_ge ad L' (n + 1) q hq
        refine Or.inr ⟨?_, by simpa using e2, by omega⟩
        cases o with
        | none => exact e1
        | some w => exact List.mem_cons_of_mem _ e1
    match o, hq with
    | none, hq => exact rest q hq
    | some (.int x), hq =>
      simp only [zo, zla, List.mem_cons] at hq
      rcases hq with rfl | hq
      · exact Or.inr ⟨by simp [zla], by simp, by simp [zv, Value.category]⟩
      · exact rest q hq
    | some (.ref x), hq =>
      simp only [zo, zla, List.mem_cons] at hq
      rcases hq with rfl | hq
      · exact Or.inr ⟨by simp [zla], by simp, by simp [zv, Value.category]⟩
      · exact rest q hq
    | some (.long x), hq => exact rest q hq
    | some (.float x), hq => exact rest q hq
    | some (.double x), hq => exact rest q hq
    | some .null, hq => exact rest q hq
    | some (.retAddr x), hq => exact rest q hq
  | o :: L, a + 2, n, v, k, h => by
    obtain ⟨L', h1, h2⟩ := zset_inv ad L (a + 1) (n + 1) v _ h
    refine ⟨o :: L', h1, fun q hq => ?_⟩
    have rest : ∀ q ∈ zla ad (n + 1) L', q = (n + (a + 2), zv ad v) ∨ (q ∈ zla ad n (o :: L) ∧ q.1 ≠ n + (a + 2) ∧ ¬ (q.1 + 1 = n + (a + 2) ∧ q.2.category = 2)) := by
      intro q hq
      rcases h2 q hq with e | ⟨e1, e2, e3⟩
      · exact Or.inl (by rw [e]; congr 1; omega)
      · refine Or.inr ⟨?_, by omega, by omega⟩
        cases o with
        | none => exact e1
        | some w => exact List.mem_cons_of_mem _ e1
    cases o with
    | none => exact rest q hq
    | some w =>
      simp only [zla, List.mem_cons] at hq
      rcases hq with rfl | hq
      · exact Or.inr ⟨by simp [zla], (by simp <;> omega), (by simp <;> omega)⟩
      · exact rest q hq
theorem zclr_inv (ad : Nat → Nat) : ∀ (L : zL) (a n : Nat) (k : zL → Prop), zclr L a k → ∃ L', k L' ∧ ∀ q ∈ zla ad n L', q ∈ zla ad n L ∧ q.1 ≠ n + a
  | [], 0, n, k, h => h.elim
  | [], a + 1, n, k, h => h.elim
  | o :: L, 0, n, k, h => by
    refine ⟨none :: L, h, fun q hq => ?_⟩
    simp only [zla] at hq
    have h1 := zla_ge ad L (n + 1) q hq
    refine ⟨?_, by omega⟩
    cases o with
    | none => exact hq
    | some w => exact List.mem_cons_of_mem _ hq
  | o :: L, a + 1, n, k, h => by
    obtain ⟨L', h1, h2⟩ := zclr_inv ad L a (n + 1) _ h
    refine ⟨o :: L', h1, fun q hq => ?_⟩
    cases o with
    | none => exact ⟨(h2 q hq).1, by have := (h2 q hq).2; omega⟩
    | some w =>
      simp only [zla, List.mem_cons] at hq
      rcases hq with rfl | hq
      · exact ⟨by simp [zla], (by simp <;> omega)⟩
      · exact ⟨List.mem_cons_of_mem _ (h2 q hq).1, by have := (h2 q hq).2; omega⟩
theorem z_fewer {ls : Array Slot} {nL : Nat} {l l' : List (Nat × Value)} (h : lv_has ls nL l) (hs : ∀ q ∈ l', q ∈ l) : lv_has ls nL l' := ⟨h.1, h.2.1, fun q hq => h.2.2 q (hs q hq)⟩
theorem zpop_inv : ∀ (n : Nat) (acc S : List Value) (k : List Value → List Value → Prop), zpop n acc S k → ∃ X S', X.length = n ∧ S = X ++ S' ∧ k (X.reverse ++ acc) S'
  | 0, acc, S, k, h => ⟨[], S, rfl, rfl, h⟩
  | n + 1, acc, [], k, h => h.elim
  | n + 1, acc, v :: S, k, h => by
    obtain ⟨X, S', h1, h2, h3⟩ := zpop_inv n (v :: acc) S k h
    exact ⟨v :: X, S', by simp [h1], by simp [h2], by simpa using h3⟩
theorem zcat_le (ad : Nat → Nat) : ∀ S : List Value, ((S.map (zv ad)).map fun v => v.category).sum ≤ zcat S
  | [] => Nat.le_refl _
  | v :: S => by
    have ih := zcat_le ad S
    simp only [List.map_cons, List.sum_cons]
    cases v <;> simp only [zcat, zv] <;> first | (show 1 + _ ≤ _; omega) | (show 2 + _ ≤ _; omega)
