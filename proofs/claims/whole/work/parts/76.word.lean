/-! STRING CONSTANTS: coder, isLatin1 -/
section ZWORD3
variable {l : Launch} {D : va_G} {ad : Nat → Nat} {cA : Nat → ClassId} {n : Nat} {h : zH}
theorem zl_38 : Jvm.Cond.fieldLink RJ0 38 "java/lang/String" "COMPACT_STRINGS" "Z" ∈ ztb := zt_3 160 rfl rfl
theorem zl_15 : Jvm.Cond.fieldLink RJ0 15 "java/lang/String" "coder" "B" ∈ ztb := zt_6 112 rfl rfl
theorem zl_9 : Jvm.Cond.fieldLink RJ0 9 "java/lang/String" "value" "[B" ∈ ztb := zt_6 111 rfl rfl
set_option maxRecDepth 100000 in
set_option maxHeartbeats 4000000 in
theorem j_coder {j : Nat} {Q : zQ} (hj : j < 8) (hn : h.length = n) (hinj : zinj ad n) (hQ : Q (some (.int 0)) h) : Met l yJ0_coder_7d493 [.code yJ0_coder_7d493 cJ0_coder_7d493 1 (some .byte)] { frames := 0, cells := 0, slots := 0, locals := 0 } (zPc D ad cA n h [.ref (1000 + j)]) (zQc D ad cA n Q) 0 0 (zA ad n) := by
  refine Met.ofW (cc := cJ0_coder_7d493) (maxL := 1) (ret := some .byte) (by decide) rfl ?_
  intro p e s m args below meth c s₁ B hml hvv
  obtain ⟨rfl, hWd, hK, hP, hSt⟩ := hvv
  have hown' : s.vm.findClass RJ0 = some m.cls := findClass_of_methodNamed B.named
  have C : zCx RJ0 cJ0_coder_7d493 1 D ad cA n p s m meth c := ⟨B.exec, B.bytes, hml, hown', hWd, hK, hinj, hSt, B.notSynchronized⟩
  have hl := lv_entry [.ref (ad (1000 + j))] (n := 1) (Nat.le_refl 1)
  rw [lg_entry_eq]
  have hx : (0 + 0, zv ad (.ref (1000 + j))) ∈ zla ad 0 [some (.ref (1000 + j))] := List.mem_cons_self
  refine (zs_compact (L := [some (.ref (1000 + j))]) C zl_38 dJ0_coder_7d493_0 (zs_if_eq (t := 13) C dJ0_coder_7d493_3 rfl ⟨fun z => absurd z (by decide), fun _ => zs_aload_n (a := 0) C dJ0_coder_7d493_6 rfl hx (zs_coder hj C zl_15 dJ0_coder_7d493_7 (zs_goto (t := 14) C dJ0_coder_7d493_10 rfl (zs_iretJ C dJ0_coder_7d493_14 B.returns rfl hQ)))⟩)) hn s.heap [] _ hP va_S.rf (z_fewer hl ?_)
  intro q hq
  exact hq
set_option maxRecDepth 100000 in
set_option maxHeartbeats 4000000 in
theorem j_latin {j : Nat} {Q : zQ} (hj : j < 8) (hn : h.length = n) (hinj : zinj ad n) (hQ : Q (some (.int 1)) h) : Met l yJ0_isLatin1_aae02 [.code yJ0_isLatin1_aae02 cJ0_isLatin1_aae02 1 (some .boolean)] { frames := 0, cells := 0, slots := 0, locals := 0 } (zPc D ad cA n h [.ref (1000 + j)]) (zQc D ad cA n Q) 0 0 (zA ad n) := by
  refine Met.ofW (cc := cJ0_isLatin1_aae02) (maxL := 1) (ret := some .boolean) (by decide) rfl ?_
  intro p e s m args below meth c s₁ B hml hvv
  obtain ⟨rfl, hWd, hK, hP, hSt⟩ := hvv
  have hown' : s.vm.findClass RJ0 = some m.cls := findClass_of_methodNamed B.named
  have C : zCx RJ0 cJ0_isLatin1_aae02 1 D ad cA n p s m meth c := ⟨B.exec, B.bytes, hml, hown', hWd, hK, hinj, hSt, B.notSynchronized⟩
  have hl := lv_entry [.ref (ad (1000 + j))] (n := 1) (Nat.le_refl 1)
  rw [lg_entry_eq]
  have hx : (0 + 0, zv ad (.ref (1000 + j))) ∈ zla ad 0 [some (.ref (1000 + j))] := List.mem_cons_self
  refine (zs_compact (L := [some (.ref (1000 + j))]) C zl_38 dJ0_isLatin1_aae02_0 (zs_if_eq (t := 17) C dJ0_isLatin1_aae02_3 rfl ⟨fun z => absurd z (by decide), fun _ => zs_aload_n (a := 0) C dJ0_isLatin1_aae02_6 rfl hx (zs_coder hj C zl_15 dJ0_isLatin1_aae02_7 (zs_if_ne (t := 17) C dJ0_isLatin1_aae02_10 rfl ⟨fun z => absurd rfl z, fun _ => zs_iconst C dJ0_isLatin1_aae02_13 (zs_goto (t := 18) C dJ0_isLatin1_aae02_14 rfl (zs_iretJ C dJ0_isLatin1_aae02_18 B.returns rfl hQ))⟩))⟩)) hn s.heap [] _ hP va_S.rf (z_fewer hl ?_)
  intro q hq
  exact hq
end ZWORD3
