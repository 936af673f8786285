/-! THE LAW'S START: the tables' words, the String constants, the classes -/
def ztm (i : Nat) : Term := .string "WinterStation$RuleReader" ([117, 123, 125, 127, 129, 131, 133, 135].getD i 0)
theorem zq_3 {w : Cond} (i : Nat) (h : tables_1_3[i]? = some w) : w ∈ lw_tbl := List.mem_append_right _ (List.mem_append_right _ (List.mem_append_right _ (List.mem_append_left _ (List.mem_of_getElem? h))))
theorem zq_1 {w : Cond} (i : Nat) (h : tables_1_1[i]? = some w) : w ∈ lw_tbl := List.mem_append_right _ (List.mem_append_left _ (List.mem_of_getElem? h))
theorem zq_2 {w : Cond} (i : Nat) (h : tables_1_2[i]? = some w) : w ∈ lw_tbl := List.mem_append_right _ (List.mem_append_right _ (List.mem_append_left _ (List.mem_of_getElem? h)))
theorem zq_5 {w : Cond} (i : Nat) (h : tables_1_5[i]? = some w) : w ∈ lw_tbl := List.mem_append_right _ (List.mem_append_right _ (List.mem_append_right _ (List.mem_append_right _ (List.mem_append_right _ (List.mem_append_left _ (List.mem_of_getElem? h))))))
theorem zq_t {w : Cond} (h : w ∈ ztb) : w ∈ lw_tbl := (List.mem_filter.mp h).1
theorem zWd_of {s : State} {b : Nat} (hts : ∀ w ∈ lw_tbl, w.before #[Value.ref b] s = true) : zWd s := by
  intro w hw A
  have hg : zgood w = true := (List.mem_filter.mp hw).2
  have h0 := hts w (zq_t hw)
  have hW := State.WarmedH.refl s
  cases w <;> first | exact va_Nw.use rfl (va_Nw.warmM hW h0) | exact va_Nw.use rfl (va_Nw.warmF hW h0) | exact word_at hW (Or.inl hg) h0
theorem zst_ref : ∀ q ∈ zstr, Cond.stringRef RX4 q.1 q.2.1 ∈ lw_tbl := by
  intro q hq
  rcases List.mem_cons.mp hq with rfl | hq
  · exact zq_3 148 rfl
  rcases List.mem_cons.mp hq with rfl | hq
  · exact zq_3 200 rfl
  rcases List.mem_cons.mp hq with rfl | hq
  · exact zq_3 201 rfl
  rcases List.mem_cons.mp hq with rfl | hq
  · exact zq_3 202 rfl
  rcases List.mem_cons.mp hq with rfl | hq
  · exact zq_3 203 rfl
  rcases List.mem_cons.mp hq with rfl | hq
  · exact zq_3 204 rfl
  rcases List.mem_cons.mp hq with rfl | hq
  · exact zq_3 205 rfl
  rcases List.mem_cons.mp hq with rfl | hq
  · exact zq_3 206 rfl
  · cases hq
theorem zst_i : ∀ q ∈ zstr, ∃ i, i < 8 ∧ q.2.2 = 1000 + i ∧ Term.string RX4 q.1 = ztm i := by
  intro q hq
  rcases List.mem_cons.mp hq with rfl | hq
  · exact ⟨0, by decide, rfl, rfl⟩
  rcases List.mem_cons.mp hq with rfl | hq
  · exact ⟨1, by decide, rfl, rfl⟩
  rcases List.mem_cons.mp hq with rfl | hq
  · exact ⟨2, by decide, rfl, rfl⟩
  rcases List.mem_cons.mp hq with rfl | hq
  · exact ⟨3, by decide, rfl, rfl⟩
  rcases List.mem_cons.mp hq with rfl | hq
  · exact ⟨4, by decide, rfl, rfl⟩
  rcases List.mem_cons.mp hq with rfl | hq
  · exact ⟨5, by decide, rfl, rfl⟩
  rcases List.mem_cons.mp hq with rfl | hq
  · exact ⟨6, by decide, rfl, rfl⟩
  rcases List.mem_cons.mp hq with rfl | hq
  · exact ⟨7, by decide, rfl, rfl⟩
  · cases hq
set_option maxRecDepth 100000 in
set_option maxHeartbeats 4000000 in
theorem zSt_of {s : State} {b : Nat} (hts : ∀ w ∈ lw_tbl, w.before #[Value.ref b] s = true) (hgv : (Jvm.Cond.and given_1 narrow_1).before #[Value.ref b] s = true) : ∃ adK adV : Nat → Nat, ∀ (ad : Nat → Nat) (n : Nat), (∀ i, i < 8 → ad (1000 + i) = adK i ∧ ad (2000 + i) = adV i) → (∀ i, i < n → s.heap.size ≤ ad i) → zSt ad n s s.heap := by
  have hs := flat_of_before _ hgv
  obtain ⟨adK, adV, hK, hE⟩ := vk_Sof (args := #[Value.ref b]) (s := s) (N := 8) (tm := ztm) (len := zsl) (byt := zsb) (A := fun q => s.heap.size ≤ q) (by decide)
    (fun i hi => hs _ ((by decide +kernel : ∀ i, i < 8 → Cond.exactly (ztm i) "java/lang/String" ∈ _) i hi))
    (fun i hi => hs _ ((by decide +kernel : ∀ i, i < 8 → Cond.eq (.field (ztm i) "java/lang/String" "coder" "B") (.int 0) ∈ _) i hi))
    (fun i hi => hs _ ((by decide +kernel : ∀ i, i < 8 → Cond.arrayOf (.field (ztm i) "java/lang/String" "value" "[B") .byte ∈ _) i hi))
    (fun i hi => hs _ ((by decide +kernel : ∀ i, i < 8 → Cond.eq (.length (.field (ztm i) "java/lang/String" "value" "[B")) (.int (Int32.ofNat (zsl.getD i 0))) ∈ _) i hi))
    (fun i hi j hj => hs _ ((by decide +kernel : ∀ i, i < 8 → ∀ j, j < zsl.getD i 0 → Cond.eq (.elem (.field (ztm i) "java/lang/String" "value" "[B") (.int (Int32.ofNat j))) (.int ((zsb.getD i []).getD j 0)) ∈ _) i hi j hj))
    (fun i j hi hj hij => by
      rcases (by decide +kernel : ∀ i, i < 8 → ∀ j, j < 8 → i ≠ j → Cond.not (Cond.eq (ztm i) (ztm j)) ∈ flatC (Jvm.Cond.and given_1 narrow_1) ∨ Cond.not (Cond.eq (ztm j) (ztm i)) ∈ flatC (Jvm.Cond.and given_1 narrow_1)) i hi j hj hij with h | h
      · exact Or.inl (hs _ h)
      · exact Or.inr (hs _ h))
    (fun a h => Nat.not_le.mpr h)
  have hZ : va_Z "java/lang/String" "COMPACT_STRINGS" "Z" (.int 1) (fun q => s.heap.size ≤ q) s s.heap := va_Zof (hts _ (zq_3 161 rfl)) (hts _ (zq_t zl_ini0)) (va_eqi (hs _ (by decide +kernel))) (fun a h => Nat.not_le.mpr h)
  have hZq : va_Zq "jdk/internal/util/Preconditions" "SIOOBE_FORMATTER" "Ljava/util/function/BiFunction;" (fun q => s.heap.size ≤ q) s s.heap := va_Zqof (hts _ (zq_3 177 rfl)) (hts _ (zq_t zl_ini3)) (hs _ (by decide +kernel)) (fun a h => Nat.not_le.mpr h)
  refine ⟨adK, adV, fun ad n h1 h2 => ?_⟩
  have hAB : ∀ q, zA ad n q → s.heap.size ≤ q := by
    rintro q ⟨i, hi, rfl⟩
    exact h2 i hi
  refine ⟨fun q hq => ?_, ⟨fun i hi => ?_, fun i j hi hj e => ?_⟩, va_Z.narrow hZ hAB, va_Zq.narrow hZq hAB⟩
  · obtain ⟨i, hi, e1, e2⟩ := zst_i q hq
    refine vk_R.of (hts _ (zst_ref q hq)) ?_
    rw [e1, e2, (h1 i hi).1]
    exact hE i hi
  · have h := (vk_S.narrow hK hAB).1 i hi
    dsimp only
    rw [(h1 i hi).1, (h1 i hi).2]
    exact h
  · dsimp only at e
    rw [(h1 i hi).1, (h1 j hj).1] at e
    exact hK.2 i j hi hj e
/-- the kinds of arrays -/
theorem karr_of {s : State} {b : Nat} {ty : FieldType} (h : (Cond.arrayClass ty).before #[Value.ref b] s = true) (ho : ∀ C, ty ≠ .object C) : ∃ cA : ClassId, ArrOfT s cA ty ∧ va_RA s cA ty := by
  obtain ⟨c, k, comp, h1, h2, h3⟩ := Cond.arrayClass_spec h
  refine ⟨c, fun n z => ⟨fun k h => (by cases h), k, h2, comp, h3⟩, ?_⟩
  cases ty <;> first | exact h1 | exact absurd rfl (ho _)
theorem kcls_of {s : State} {b : Nat} (hts : ∀ w ∈ lw_tbl, w.before #[Value.ref b] s = true) : ∃ (D : va_G) (cA : Nat → ClassId), va_K D vwCl (zty cA) s := by
  have hin : ∀ (k : Nat) (q : vw_C), vwCl[k]? = some q → ∃ cI : ClassId × (Nat → Nat), u_Kn s q.1 q.2.1 q.2.2 cI.1 cI.2 := by
    intro k q hq
    obtain ⟨hws, -, -⟩ := z_cls k q hq
    have hinst : Cond.instantiable q.1 q.2.2 ∈ ztb := by
      match k, hq with
      | 0, hq => cases hq; exact ki0
      | 1, hq => cases hq; exact ki1
      | 2, hq => cases hq; exact ki2
      | 3, hq => cases hq; exact ki3
      | 4, hq => cases hq; exact ki4
      | 5, hq => cases hq; exact ki5
      | 6, hq => cases hq; exact ki6
      | 7, hq => cases hq; exact ki7
      | 8, hq => cases hq; exact zt_1 19 rfl rfl
      | 9, hq => cases hq; exact zt_4 110 rfl rfl
      | k + 10, hq => simp [vwCl] at hq
    obtain ⟨c, iS, h⟩ := u_known (C := q.1) (T := q.2.1) (N := q.2.2) (n := q.2.2) hts (fun w hw => zq_t (hws w hw)) (hts _ (zq_t hinst))
    exact ⟨(c, iS), h⟩
  have hall : ∀ k : Nat, ∃ cI : ClassId × (Nat → Nat), ∀ q : vw_C, vwCl[k]? = some q → u_Kn s q.1 q.2.1 q.2.2 cI.1 cI.2 := by
    intro k
    cases hq : vwCl[k]? with
    | none => exact ⟨(Classical.choice (by obtain ⟨cI, -⟩ := hin 0 _ rfl; exact ⟨cI.1⟩), fun _ => 0), fun q h => by cases h⟩
    | some q =>
      obtain ⟨cI, h⟩ := hin k q hq
      exact ⟨cI, fun q' h' => by cases h'; exact h⟩
  obtain ⟨f, hf⟩ := Classical.axiomOfChoice hall
  obtain ⟨c0, a0, r0⟩ := karr_of (ty := .int) (hts _ (zq_1 36 rfl)) (fun _ h => by cases h)
  obtain ⟨c1, a1, r1⟩ := karr_of (ty := .boolean) (hts _ (zq_2 55 rfl)) (fun _ h => by cases h)
  obtain ⟨c2, a2, r2⟩ := karr_of (ty := .byte) (hts _ (zq_1 87 rfl)) (fun _ h => by cases h)
  obtain ⟨c3, a3, r3⟩ := karr_of (ty := .long) (hts _ (zq_5 122 rfl)) (fun _ h => by cases h)
  refine ⟨(fun k => (f k).1, fun k => (f k).2), fun j => match j with
    | 0 => c0
    | 1 => c1
    | 2 => c2
    | _ => c3, fun k q hq => hf k q hq, fun k q hq => ?_⟩
  match k, hq with
  | 0, hq => cases hq; exact ⟨a0, r0⟩
  | 1, hq => cases hq; exact ⟨a1, r1⟩
  | 2, hq => cases hq; exact ⟨a2, r2⟩
  | 3, hq => cases hq; exact ⟨a3, r3⟩
  | k + 4, hq => simp [zty] at hq
