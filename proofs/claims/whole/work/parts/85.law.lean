/-! THE LAW: its 29 cases (generated: wip/gen/p85.py) -/
theorem lj8 : Cond.initialized RX8 ∈ ztb := zt_1 1 rfl rfl
theorem lj9 : Cond.initialized RX9 ∈ ztb := zt_1 10 rfl rfl
theorem lk8_weather : Cond.methodLink R_law 13 yX8_weather ∈ ztb := zt_2 93 rfl rfl
theorem lin8_weather : Cond.instanceMethod yX8_weather ∈ ztb := zt_2 94 rfl rfl
theorem lse8_weather : Cond.selects RX8 yX8_weather yX8_weather ∈ ztb := zt_2 95 rfl rfl
theorem ldd8_weather : yX8_weather.cls ≠ "java/lang/invoke/MethodHandle" ∧ yX8_weather.cls ≠ "java/lang/invoke/VarHandle" ∧ (parseMethodDescriptor yX8_weather.desc).map (fun d => d.parameters.length) = some 5 := by decide +kernel
theorem lk9_weather : Cond.methodLink R_law 17 yX9_weather ∈ ztb := zt_5 123 rfl rfl
theorem lin9_weather : Cond.instanceMethod yX9_weather ∈ ztb := zt_5 124 rfl rfl
theorem lse9_weather : Cond.selects RX9 yX9_weather yX9_weather ∈ ztb := zt_5 125 rfl rfl
theorem ldd9_weather : yX9_weather.cls ≠ "java/lang/invoke/MethodHandle" ∧ yX9_weather.cls ≠ "java/lang/invoke/VarHandle" ∧ (parseMethodDescriptor yX9_weather.desc).map (fun d => d.parameters.length) = some 5 := by decide +kernel
set_option maxRecDepth 100000 in
set_option maxHeartbeats 4000000 in
theorem lw_weather {p : Program} {l : Launch} {e : Env} {s : State} {m : MethodId} {below : List Frame} {meth : Method} {c : Code} {D : va_G} {ad : Nat → Nat} {cA : Nat → ClassId} {b L : Nat} {xs : Nat → Int32} {i : Nat} (C : lwC p s m meth c D ad cA b L xs) (hi : i + 5 < L) (nx : lwN p l e s m below meth c D ad cA b i) {s' : Nat → Int32} {a : Nat → Nat → Int32} {w : Bool} {t : Nat → Int32} {b' : Nat → Nat → Int32} {u : Nat → Int64} {c' : Nat → Nat → Int64} (hI : Inv s' a w t b' u) : lwW p l e s m below meth c D ad cA b 164 i [] (HX s' a w ++ HM t b' u c') := by
  have hT := L_weather ((xs (i + 1))) ((xs (i + 2))) ((xs (i + 3))) ((if xs (i + 4) = 0 then 0 else 1)) ((xs (i + 5))) (by by_cases hx : xs (i + 4) = 0 <;> simp [hx]) s' a w t b' u c' hI
  refine lw_x C (by decide +kernel) ?_
  refine lw_arg 1 C hi (by decide) (by decide +kernel) ?_
  refine lw_arg 2 C hi (by decide) (by decide +kernel) ?_
  refine lw_arg 3 C hi (by decide) (by decide +kernel) ?_
  refine lw_arg 4 C hi (by decide) (by decide +kernel) ?_
  refine lw_bool C (by decide +kernel) ?_
  refine lw_arg 5 C hi (by decide) (by decide +kernel) ?_
  refine lw_call (idx := 13) (j := 76) (r0 := 0) (f := 3) (w := 63) (mx := 8) (av := [.int (xs (i + 1)), .int (xs (i + 2)), .int (xs (i + 3)), .int (if xs (i + 4) = 0 then 0 else 1), .int (xs (i + 5))]) (rest := []) C (Or.inl ⟨rfl, rfl⟩) rfl (by decide +kernel) lk8_weather lj8 lin8_weather lse8_weather ldd8_weather (by decide) (by decide) (by decide) hT (fun r h1 hT1 => ?_)
  rw [List.append_nil]
  refine lw_y C (by decide +kernel) ?_
  refine lw_arg 1 C hi (by decide) (by decide +kernel) ?_
  refine lw_arg 2 C hi (by decide) (by decide +kernel) ?_
  refine lw_arg 3 C hi (by decide) (by decide +kernel) ?_
  refine lw_arg 4 C hi (by decide) (by decide +kernel) ?_
  refine lw_bool C (by decide +kernel) ?_
  refine lw_arg 5 C hi (by decide) (by decide +kernel) ?_
  refine lw_call (idx := 17) (j := 108) (r0 := 56) (f := 2) (w := 45) (mx := 7) (av := [.int (xs (i + 1)), .int (xs (i + 2)), .int (xs (i + 3)), .int (if xs (i + 4) = 0 then 0 else 1), .int (xs (i + 5))]) (rest := (r.map (zv ad)).toList) C (Or.inr ⟨rfl, rfl⟩) rfl (by decide +kernel) lk9_weather lj9 lin9_weather lse9_weather ldd9_weather (by decide) (by decide) lw_cat hT1 (fun r2 h2 hT2 => ?_)
  obtain ⟨v, rfl, rfl, s2, a2, w2, t2, b2, u2, c2, rfl, hI2⟩ := hT2
  exact lw_cmp (off := 849) C (by decide +kernel) (by decide) (nx s2 a2 w2 t2 b2 u2 c2 hI2)
theorem lk8_hour : Cond.methodLink R_law 18 yX8_hour ∈ ztb := zt_2 117 rfl rfl
theorem lin8_hour : Cond.instanceMethod yX8_hour ∈ ztb := zt_2 118 rfl rfl
theorem lse8_hour : Cond.selects RX8 yX8_hour yX8_hour ∈ ztb := zt_2 119 rfl rfl
theorem ldd8_hour : yX8_hour.cls ≠ "java/lang/invoke/MethodHandle" ∧ yX8_hour.cls ≠ "java/lang/invoke/VarHandle" ∧ (parseMethodDescriptor yX8_hour.desc).map (fun d => d.parameters.length) = some 2 := by decide +kernel
theorem lk9_hour : Cond.methodLink R_law 22 yX9_hour ∈ ztb := zt_5 141 rfl rfl
theorem lin9_hour : Cond.instanceMethod yX9_hour ∈ ztb := zt_5 142 rfl rfl
theorem lse9_hour : Cond.selects RX9 yX9_hour yX9_hour ∈ ztb := zt_5 143 rfl rfl
theorem ldd9_hour : yX9_hour.cls ≠ "java/lang/invoke/MethodHandle" ∧ yX9_hour.cls ≠ "java/lang/invoke/VarHandle" ∧ (parseMethodDescriptor yX9_hour.desc).map (fun d => d.parameters.length) = some 2 := by decide +kernel
set_option maxRecDepth 100000 in
set_option maxHeartbeats 4000000 in
theorem lw_hour {p : Program} {l : Launch} {e : Env} {s : State} {m : MethodId} {below : List Frame} {meth : Method} {c : Code} {D : va_G} {ad : Nat → Nat} {cA : Nat → ClassId} {b L : Nat} {xs : Nat → Int32} {i : Nat} (C : lwC p s m meth c D ad cA b L xs) (hi : i + 5 < L) (nx : lwN p l e s m below meth c D ad cA b i) {s' : Nat → Int32} {a : Nat → Nat → Int32} {w : Bool} {t : Nat → Int32} {b' : Nat → Nat → Int32} {u : Nat → Int64} {c' : Nat → Nat → Int64} (hI : Inv s' a w t b' u) : lwW p l e s m below meth c D ad cA b 243 i [] (HX s' a w ++ HM t b' u c') := by
  have hT := L_hour ((xs (i + 1))) ((xs (i + 2))) s' a w t b' u c' hI
  refine lw_x C (by decide +kernel) ?_
  refine lw_arg 1 C hi (by decide) (by decide +kernel) ?_
  refine lw_arg 2 C hi (by decide) (by decide +kernel) ?_
  refine lw_call (idx := 18) (j := 77) (r0 := 0) (f := 5) (w := 120) (mx := 3) (av := [.int (xs (i + 1)), .int (xs (i + 2))]) (rest := []) C (Or.inl ⟨rfl, rfl⟩) rfl (by decide +kernel) lk8_hour lj8 lin8_hour lse8_hour ldd8_hour (by decide) (by decide) (by decide) hT (fun r h1 hT1 => ?_)
  rw [List.append_nil]
  refine lw_y C (by decide +kernel) ?_
  refine lw_arg 1 C hi (by decide) (by decide +kernel) ?_
  refine lw_arg 2 C hi (by decide) (by decide +kernel) ?_
  refine lw_call (idx := 22) (j := 112) (r0 := 56) (f := 3) (w := 71) (mx := 3) (av := [.int (xs (i + 1)), .int (xs (i + 2))]) (rest := (r.map (zv ad)).toList) C (Or.inr ⟨rfl, rfl⟩) rfl (by decide +kernel) lk9_hour lj9 lin9_hour lse9_hour ldd9_hour (by decide) (by decide) lw_cat hT1 (fun r2 h2 hT2 => ?_)
  obtain ⟨v, rfl, rfl, s2, a2, w2, t2, b2, u2, c2, rfl, hI2⟩ := hT2
  exact lw_cmp (off := 816) C (by decide +kernel) (by decide) (nx s2 a2 w2 t2 b2 u2 c2 hI2)
theorem lk8_engine : Cond.methodLink R_law 23 yX8_engine ∈ ztb := zt_2 157 rfl rfl
theorem lin8_engine : Cond.instanceMethod yX8_engine ∈ ztb := zt_2 158 rfl rfl
theorem lse8_engine : Cond.selects RX8 yX8_engine yX8_engine ∈ ztb := zt_2 159 rfl rfl
theorem ldd8_engine : yX8_engine.cls ≠ "java/lang/invoke/MethodHandle" ∧ yX8_engine.cls ≠ "java/lang/invoke/VarHandle" ∧ (parseMethodDescriptor yX8_engine.desc).map (fun d => d.parameters.length) = some 3 := by decide +kernel
theorem lk9_engine : Cond.methodLink R_law 27 yX9_engine ∈ ztb := zt_5 157 rfl rfl
theorem lin9_engine : Cond.instanceMethod yX9_engine ∈ ztb := zt_5 158 rfl rfl
theorem lse9_engine : Cond.selects RX9 yX9_engine yX9_engine ∈ ztb := zt_5 159 rfl rfl
theorem ldd9_engine : yX9_engine.cls ≠ "java/lang/invoke/MethodHandle" ∧ yX9_engine.cls ≠ "java/lang/invoke/VarHandle" ∧ (parseMethodDescriptor yX9_engine.desc).map (fun d => d.parameters.length) = some 3 := by decide +kernel
set_option maxRecDepth 100000 in
set_option maxHeartbeats 4000000 in
theorem lw_engine {p : Program} {l : Launch} {e : Env} {s : State} {m : MethodId} {below : List Frame} {meth : Method} {c : Code} {D : va_G} {ad : Nat → Nat} {cA : Nat → ClassId} {b L : Nat} {xs : Nat → Int32} {i : Nat} (C : lwC p s m meth c D ad cA b L xs) (hi : i + 5 < L) (nx : lwN p l e s m below meth c D ad cA b i) {s' : Nat → Int32} {a : Nat → Nat → Int32} {w : Bool} {t : Nat → Int32} {b' : Nat → Nat → Int32} {u : Nat → Int64} {c' : Nat → Nat → Int64} (hI : Inv s' a w t b' u) : lwW p l e s m below meth c D ad cA b 276 i [] (HX s' a w ++ HM t b' u c') := by
  have hT := L_engine ((xs (i + 1))) ((xs (i + 2))) ((xs (i + 3))) s' a w t b' u c' hI
  refine lw_x C (by decide +kernel) ?_
  refine lw_arg 1 C hi (by decide) (by decide +kernel) ?_
  refine lw_arg 2 C hi (by decide) (by decide +kernel) ?_
  refine lw_arg 3 C hi (by decide) (by decide +kernel) ?_
  refine lw_call (idx := 23) (j := 78) (r0 := 0) (f := 2) (w := 47) (mx := 4) (av := [.int (xs (i + 1)), .int (xs (i + 2)), .int (xs (i + 3))]) (rest := []) C (Or.inl ⟨rfl, rfl⟩) rfl (by decide +kernel) lk8_engine lj8 lin8_engine lse8_engine ldd8_engine (by decide) (by decide) (by decide) hT (fun r h1 hT1 => ?_)
  rw [List.append_nil]
  refine lw_y C (by decide +kernel) ?_
  refine lw_arg 1 C hi (by decide) (by decide +kernel) ?_
  refine lw_arg 2 C hi (by decide) (by decide +kernel) ?_
  refine lw_arg 3 C hi (by decide) (by decide +kernel) ?_
  refine lw_call (idx := 27) (j := 113) (r0 := 56) (f := 1) (w := 25) (mx := 4) (av := [.int (xs (i + 1)), .int (xs (i + 2)), .int (xs (i + 3))]) (rest := (r.map (zv ad)).toList) C (Or.inr ⟨rfl, rfl⟩) rfl (by decide +kernel) lk9_engine lj9 lin9_engine lse9_engine ldd9_engine (by decide) (by decide) lw_cat hT1 (fun r2 h2 hT2 => ?_)
  obtain ⟨v, rfl, rfl, s2, a2, w2, t2, b2, u2, c2, rfl, hI2⟩ := hT2
  exact lw_cmp (off := 773) C (by decide +kernel) (by decide) (nx s2 a2 w2 t2 b2 u2 c2 hI2)
theorem lk8_mill : Cond.methodLink R_law 28 yX8_mill ∈ ztb := zt_2 166 rfl rfl
theorem lin8_mill : Cond.instanceMethod yX8_mill ∈ ztb := zt_2 167 rfl rfl
theorem lse8_mill : Cond.selects RX8 yX8_mill yX8_mill ∈ ztb := zt_2 168 rfl rfl
theorem ldd8_mill : yX8_mill.cls ≠ "java/lang/invoke/MethodHandle" ∧ yX8_mill.cls ≠ "java/lang/invoke/VarHandle" ∧ (parseMethodDescriptor yX8_mill.desc).map (fun d => d.parameters.length) = some 2 := by decide +kernel
theorem lk9_mill : Cond.methodLink R_law 31 yX9_mill ∈ ztb := zt_5 162 rfl rfl
theorem lin9_mill : Cond.instanceMethod yX9_mill ∈ ztb := zt_5 163 rfl rfl
theorem lse9_mill : Cond.selects RX9 yX9_mill yX9_mill ∈ ztb := zt_5 164 rfl rfl
theorem ldd9_mill : yX9_mill.cls ≠ "java/lang/invoke/MethodHandle" ∧ yX9_mill.cls ≠ "java/lang/invoke/VarHandle" ∧ (parseMethodDescriptor yX9_mill.desc).map (fun d => d.parameters.length) = some 2 := by decide +kernel
set_option maxRecDepth 100000 in
set_option maxHeartbeats 4000000 in
theorem lw_mill {p : Program} {l : Launch} {e : Env} {s : State} {m : MethodId} {below : List Frame} {meth : Method} {c : Code} {D : va_G} {ad : Nat → Nat} {cA : Nat → ClassId} {b L : Nat} {xs : Nat → Int32} {i : Nat} (C : lwC p s m meth c D ad cA b L xs) (hi : i + 5 < L) (nx : lwN p l e s m below meth c D ad cA b i) {s' : Nat → Int32} {a : Nat → Nat → Int32} {w : Bool} {t : Nat → Int32} {b' : Nat → Nat → Int32} {u : Nat → Int64} {c' : Nat → Nat → Int64} (hI : Inv s' a w t b' u) : lwW p l e s m below meth c D ad cA b 319 i [] (HX s' a w ++ HM t b' u c') := by
  have hT := L_mill ((xs (i + 1))) ((xs (i + 2))) s' a w t b' u c' hI
  refine lw_x C (by decide +kernel) ?_
  refine lw_arg 1 C hi (by decide) (by decide +kernel) ?_
  refine lw_arg 2 C hi (by decide) (by decide +kernel) ?_
  refine lw_call (idx := 28) (j := 79) (r0 := 0) (f := 2) (w := 44) (mx := 3) (av := [.int (xs (i + 1)), .int (xs (i + 2))]) (rest := []) C (Or.inl ⟨rfl, rfl⟩) rfl (by decide +kernel) lk8_mill lj8 lin8_mill lse8_mill ldd8_mill (by decide) (by decide) (by decide) hT (fun r h1 hT1 => ?_)
  rw [List.append_nil]
  refine lw_y C (by decide +kernel) ?_
  refine lw_arg 1 C hi (by decide) (by decide +kernel) ?_
  refine lw_arg 2 C hi (by decide) (by decide +kernel) ?_
  refine lw_call (idx := 31) (j := 114) (r0 := 56) (f := 1) (w := 25) (mx := 3) (av := [.int (xs (i + 1)), .int (xs (i + 2))]) (rest := (r.map (zv ad)).toList) C (Or.inr ⟨rfl, rfl⟩) rfl (by decide +kernel) lk9_mill lj9 lin9_mill lse9_mill ldd9_mill (by decide) (by decide) lw_cat hT1 (fun r2 h2 hT2 => ?_)
  obtain ⟨v, rfl, rfl, s2, a2, w2, t2, b2, u2, c2, rfl, hI2⟩ := hT2
  exact lw_cmp (off := 740) C (by decide +kernel) (by decide) (nx s2 a2 w2 t2 b2 u2 c2 hI2)
theorem lk8_demand : Cond.methodLink R_law 32 yX8_demand ∈ ztb := zt_2 174 rfl rfl
theorem lin8_demand : Cond.instanceMethod yX8_demand ∈ ztb := zt_2 175 rfl rfl
theorem lse8_demand : Cond.selects RX8 yX8_demand yX8_demand ∈ ztb := zt_2 176 rfl rfl
theorem ldd8_demand : yX8_demand.cls ≠ "java/lang/invoke/MethodHandle" ∧ yX8_demand.cls ≠ "java/lang/invoke/VarHandle" ∧ (parseMethodDescriptor yX8_demand.desc).map (fun d => d.parameters.length) = some 2 := by decide +kernel
theorem lk9_demand : Cond.methodLink R_law 35 yX9_demand ∈ ztb := zt_5 166 rfl rfl
theorem lin9_demand : Cond.instanceMethod yX9_demand ∈ ztb := zt_5 167 rfl rfl
theorem lse9_demand : Cond.selects RX9 yX9_demand yX9_demand ∈ ztb := zt_5 168 rfl rfl
theorem ldd9_demand : yX9_demand.cls ≠ "java/lang/invoke/MethodHandle" ∧ yX9_demand.cls ≠ "java/lang/invoke/VarHandle" ∧ (parseMethodDescriptor yX9_demand.desc).map (fun d => d.parameters.length) = some 2 := by decide +kernel
set_option maxRecDepth 100000 in
set_option maxHeartbeats 4000000 in
theorem lw_demand {p : Program} {l : Launch} {e : Env} {s : State} {m : MethodId} {below : List Frame} {meth : Method} {c : Code} {D : va_G} {ad : Nat → Nat} {cA : Nat → ClassId} {b L : Nat} {xs : Nat → Int32} {i : Nat} (C : lwC p s m meth c D ad cA b L xs) (hi : i + 5 < L) (nx : lwN p l e s m below meth c D ad cA b i) {s' : Nat → Int32} {a : Nat → Nat → Int32} {w : Bool} {t : Nat → Int32} {b' : Nat → Nat → Int32} {u : Nat → Int64} {c' : Nat → Nat → Int64} (hI : Inv s' a w t b' u) : lwW p l e s m below meth c D ad cA b 352 i [] (HX s' a w ++ HM t b' u c') := by
  have hT := L_demand ((xs (i + 1))) ((xs (i + 2))) s' a w t b' u c' hI
  refine lw_x C (by decide +kernel) ?_
  refine lw_arg 1 C hi (by decide) (by decide +kernel) ?_
  refine lw_arg 2 C hi (by decide) (by decide +kernel) ?_
  refine lw_call (idx := 32) (j := 80) (r0 := 0) (f := 2) (w := 44) (mx := 3) (av := [.int (xs (i + 1)), .int (xs (i + 2))]) (rest := []) C (Or.inl ⟨rfl, rfl⟩) rfl (by decide +kernel) lk8_demand lj8 lin8_demand lse8_demand ldd8_demand (by decide) (by decide) (by decide) hT (fun r h1 hT1 => ?_)
  rw [List.append_nil]
  refine lw_y C (by decide +kernel) ?_
  refine lw_arg 1 C hi (by decide) (by decide +kernel) ?_
  refine lw_arg 2 C hi (by decide) (by decide +kernel) ?_
  refine lw_call (idx := 35) (j := 115) (r0 := 56) (f := 1) (w := 25) (mx := 3) (av := [.int (xs (i + 1)), .int (xs (i + 2))]) (rest := (r.map (zv ad)).toList) C (Or.inr ⟨rfl, rfl⟩) rfl (by decide +kernel) lk9_demand lj9 lin9_demand lse9_demand ldd9_demand (by decide) (by decide) lw_cat hT1 (fun r2 h2 hT2 => ?_)
  obtain ⟨v, rfl, rfl, s2, a2, w2, t2, b2, u2, c2, rfl, hI2⟩ := hT2
  exact lw_cmp (off := 707) C (by decide +kernel) (by decide) (nx s2 a2 w2 t2 b2 u2 c2 hI2)
theorem lk8_on : Cond.methodLink R_law 36 yX8_on ∈ ztb := zt_2 182 rfl rfl
theorem lin8_on : Cond.instanceMethod yX8_on ∈ ztb := zt_2 183 rfl rfl
theorem lse8_on : Cond.selects RX8 yX8_on yX8_on ∈ ztb := zt_2 184 rfl rfl
theorem ldd8_on : yX8_on.cls ≠ "java/lang/invoke/MethodHandle" ∧ yX8_on.cls ≠ "java/lang/invoke/VarHandle" ∧ (parseMethodDescriptor yX8_on.desc).map (fun d => d.parameters.length) = some 1 := by decide +kernel
theorem lk9_on : Cond.methodLink R_law 40 yX9_on ∈ ztb := zt_5 172 rfl rfl
theorem lin9_on : Cond.instanceMethod yX9_on ∈ ztb := zt_5 173 rfl rfl
theorem lse9_on : Cond.selects RX9 yX9_on yX9_on ∈ ztb := zt_5 174 rfl rfl
theorem ldd9_on : yX9_on.cls ≠ "java/lang/invoke/MethodHandle" ∧ yX9_on.cls ≠ "java/lang/invoke/VarHandle" ∧ (parseMethodDescriptor yX9_on.desc).map (fun d => d.parameters.length) = some 1 := by decide +kernel
set_option maxRecDepth 100000 in
set_option maxHeartbeats 4000000 in
theorem lw_on {p : Program} {l : Launch} {e : Env} {s : State} {m : MethodId} {below : List Frame} {meth : Method} {c : Code} {D : va_G} {ad : Nat → Nat} {cA : Nat → ClassId} {b L : Nat} {xs : Nat → Int32} {i : Nat} (C : lwC p s m meth c D ad cA b L xs) (hi : i + 5 < L) (nx : lwN p l e s m below meth c D ad cA b i) {s' : Nat → Int32} {a : Nat → Nat → Int32} {w : Bool} {t : Nat → Int32} {b' : Nat → Nat → Int32} {u : Nat → Int64} {c' : Nat → Nat → Int64} (hI : Inv s' a w t b' u) : lwW p l e s m below meth c D ad cA b 385 i [] (HX s' a w ++ HM t b' u c') := by
  have hT := L_on ((xs (i + 1))) s' a w t b' u c' hI
  refine lw_x C (by decide +kernel) ?_
  refine lw_arg 1 C hi (by decide) (by decide +kernel) ?_
  refine lw_call (idx := 36) (j := 81) (r0 := 0) (f := 2) (w := 44) (mx := 2) (av := [.int (xs (i + 1))]) (rest := []) C (Or.inl ⟨rfl, rfl⟩) rfl (by decide +kernel) lk8_on lj8 lin8_on lse8_on ldd8_on (by decide) (by decide) (by decide) hT (fun r h1 hT1 => ?_)
  rw [List.append_nil]
  refine lw_y C (by decide +kernel) ?_
  refine lw_arg 1 C hi (by decide) (by decide +kernel) ?_
  refine lw_call (idx := 40) (j := 116) (r0 := 56) (f := 1) (w := 25) (mx := 3) (av := [.int (xs (i + 1))]) (rest := (r.map (zv ad)).toList) C (Or.inr ⟨rfl, rfl⟩) rfl (by decide +kernel) lk9_on lj9 lin9_on lse9_on ldd9_on (by decide) (by decide) lw_cat hT1 (fun r2 h2 hT2 => ?_)
  obtain ⟨v, rfl, rfl, s2, a2, w2, t2, b2, u2, c2, rfl, hI2⟩ := hT2
  exact lw_cmp (off := 684) C (by decide +kernel) (by decide) (nx s2 a2 w2 t2 b2 u2 c2 hI2)
theorem lk8_plan : Cond.methodLink R_law 41 yX8_plan ∈ ztb := zt_2 190 rfl rfl
theorem lin8_plan : Cond.instanceMethod yX8_plan ∈ ztb := zt_2 191 rfl rfl
theorem lse8_plan : Cond.selects RX8 yX8_plan yX8_plan ∈ ztb := zt_2 192 rfl rfl
theorem ldd8_plan : yX8_plan.cls ≠ "java/lang/invoke/MethodHandle" ∧ yX8_plan.cls ≠ "java/lang/invoke/VarHandle" ∧ (parseMethodDescriptor yX8_plan.desc).map (fun d => d.parameters.length) = some 1 := by decide +kernel
theorem lk9_plan : Cond.methodLink R_law 44 yX9_plan ∈ ztb := zt_5 176 rfl rfl
theorem lin9_plan : Cond.instanceMethod yX9_plan ∈ ztb := zt_5 177 rfl rfl
theorem lse9_plan : Cond.selects RX9 yX9_plan yX9_plan ∈ ztb := zt_5 178 rfl rfl
theorem ldd9_plan : yX9_plan.cls ≠ "java/lang/invoke/MethodHandle" ∧ yX9_plan.cls ≠ "java/lang/invoke/VarHandle" ∧ (parseMethodDescriptor yX9_plan.desc).map (fun d => d.parameters.length) = some 1 := by decide +kernel
set_option maxRecDepth 100000 in
set_option maxHeartbeats 4000000 in
theorem lw_plan {p : Program} {l : Launch} {e : Env} {s : State} {m : MethodId} {below : List Frame} {meth : Method} {c : Code} {D : va_G} {ad : Nat → Nat} {cA : Nat → ClassId} {b L : Nat} {xs : Nat → Int32} {i : Nat} (C : lwC p s m meth c D ad cA b L xs) (hi : i + 5 < L) (nx : lwN p l e s m below meth c D ad cA b i) {s' : Nat → Int32} {a : Nat → Nat → Int32} {w : Bool} {t : Nat → Int32} {b' : Nat → Nat → Int32} {u : Nat → Int64} {c' : Nat → Nat → Int64} (hI : Inv s' a w t b' u) : lwW p l e s m below meth c D ad cA b 408 i [] (HX s' a w ++ HM t b' u c') := by
  have hT := L_plan ((xs (i + 1))) s' a w t b' u c' hI
  refine lw_x C (by decide +kernel) ?_
  refine lw_arg 1 C hi (by decide) (by decide +kernel) ?_
  refine lw_call (idx := 41) (j := 82) (r0 := 0) (f := 6) (w := 146) (mx := 2) (av := [.int (xs (i + 1))]) (rest := []) C (Or.inl ⟨rfl, rfl⟩) rfl (by decide +kernel) lk8_plan lj8 lin8_plan lse8_plan ldd8_plan (by decide) (by decide) (by decide) hT (fun r h1 hT1 => ?_)
  rw [List.append_nil]
  refine lw_y C (by decide +kernel) ?_
  refine lw_arg 1 C hi (by decide) (by decide +kernel) ?_
  refine lw_call (idx := 44) (j := 119) (r0 := 56) (f := 4) (w := 95) (mx := 14) (av := [.int (xs (i + 1))]) (rest := (r.map (zv ad)).toList) C (Or.inr ⟨rfl, rfl⟩) rfl (by decide +kernel) lk9_plan lj9 lin9_plan lse9_plan ldd9_plan (by decide) (by decide) lw_cat hT1 (fun r2 h2 hT2 => ?_)
  obtain ⟨v, rfl, rfl, s2, a2, w2, t2, b2, u2, c2, rfl, hI2⟩ := hT2
  exact lw_cmp (off := 661) C (by decide +kernel) (by decide) (nx s2 a2 w2 t2 b2 u2 c2 hI2)
theorem lk8_planned : Cond.methodLink R_law 45 yX8_planned ∈ ztb := zt_2 223 rfl rfl
theorem lin8_planned : Cond.instanceMethod yX8_planned ∈ ztb := zt_2 224 rfl rfl
theorem lse8_planned : Cond.selects RX8 yX8_planned yX8_planned ∈ ztb := zt_2 225 rfl rfl
theorem ldd8_planned : yX8_planned.cls ≠ "java/lang/invoke/MethodHandle" ∧ yX8_planned.cls ≠ "java/lang/invoke/VarHandle" ∧ (parseMethodDescriptor yX8_planned.desc).map (fun d => d.parameters.length) = some 2 := by decide +kernel
theorem lk9_planned : Cond.methodLink R_law 48 yX9_planned ∈ ztb := zt_5 190 rfl rfl
theorem lin9_planned : Cond.instanceMethod yX9_planned ∈ ztb := zt_5 191 rfl rfl
theorem lse9_planned : Cond.selects RX9 yX9_planned yX9_planned ∈ ztb := zt_5 192 rfl rfl
theorem ldd9_planned : yX9_planned.cls ≠ "java/lang/invoke/MethodHandle" ∧ yX9_planned.cls ≠ "java/lang/invoke/VarHandle" ∧ (parseMethodDescriptor yX9_planned.desc).map (fun d => d.parameters.length) = some 2 := by decide +kernel
set_option maxRecDepth 100000 in
set_option maxHeartbeats 4000000 in
theorem lw_planned {p : Program} {l : Launch} {e : Env} {s : State} {m : MethodId} {below : List Frame} {meth : Method} {c : Code} {D : va_G} {ad : Nat → Nat} {cA : Nat → ClassId} {b L : Nat} {xs : Nat → Int32} {i : Nat} (C : lwC p s m meth c D ad cA b L xs) (hi : i + 5 < L) (nx : lwN p l e s m below meth c D ad cA b i) {s' : Nat → Int32} {a : Nat → Nat → Int32} {w : Bool} {t : Nat → Int32} {b' : Nat → Nat → Int32} {u : Nat → Int64} {c' : Nat → Nat → Int64} (hI : Inv s' a w t b' u) : lwW p l e s m below meth c D ad cA b 431 i [] (HX s' a w ++ HM t b' u c') := by
  have hT := L_planned ((xs (i + 1))) ((xs (i + 2))) s' a w t b' u c' hI
  refine lw_x C (by decide +kernel) ?_
  refine lw_arg 1 C hi (by decide) (by decide +kernel) ?_
  refine lw_arg 2 C hi (by decide) (by decide +kernel) ?_
  refine lw_call (idx := 45) (j := 83) (r0 := 0) (f := 2) (w := 44) (mx := 3) (av := [.int (xs (i + 1)), .int (xs (i + 2))]) (rest := []) C (Or.inl ⟨rfl, rfl⟩) rfl (by decide +kernel) lk8_planned lj8 lin8_planned lse8_planned ldd8_planned (by decide) (by decide) (by decide) hT (fun r h1 hT1 => ?_)
  rw [List.append_nil]
  refine lw_y C (by decide +kernel) ?_
  refine lw_arg 1 C hi (by decide) (by decide +kernel) ?_
  refine lw_arg 2 C hi (by decide) (by decide +kernel) ?_
  refine lw_call (idx := 48) (j := 120) (r0 := 56) (f := 1) (w := 25) (mx := 3) (av := [.int (xs (i + 1)), .int (xs (i + 2))]) (rest := (r.map (zv ad)).toList) C (Or.inr ⟨rfl, rfl⟩) rfl (by decide +kernel) lk9_planned lj9 lin9_planned lse9_planned ldd9_planned (by decide) (by decide) lw_cat hT1 (fun r2 h2 hT2 => ?_)
  obtain ⟨v, rfl, rfl, s2, a2, w2, t2, b2, u2, c2, rfl, hI2⟩ := hT2
  exact lw_cmp (off := 628) C (by decide +kernel) (by decide) (nx s2 a2 w2 t2 b2 u2 c2 hI2)
theorem lk8_box : Cond.methodLink R_law 49 yX8_box ∈ ztb := zt_2 231 rfl rfl
theorem lin8_box : Cond.instanceMethod yX8_box ∈ ztb := zt_2 232 rfl rfl
theorem lse8_box : Cond.selects RX8 yX8_box yX8_box ∈ ztb := zt_2 233 rfl rfl
theorem ldd8_box : yX8_box.cls ≠ "java/lang/invoke/MethodHandle" ∧ yX8_box.cls ≠ "java/lang/invoke/VarHandle" ∧ (parseMethodDescriptor yX8_box.desc).map (fun d => d.parameters.length) = some 2 := by decide +kernel
theorem lk9_box : Cond.methodLink R_law 52 yX9_box ∈ ztb := zt_5 194 rfl rfl
theorem lin9_box : Cond.instanceMethod yX9_box ∈ ztb := zt_5 195 rfl rfl
theorem lse9_box : Cond.selects RX9 yX9_box yX9_box ∈ ztb := zt_5 196 rfl rfl
theorem ldd9_box : yX9_box.cls ≠ "java/lang/invoke/MethodHandle" ∧ yX9_box.cls ≠ "java/lang/invoke/VarHandle" ∧ (parseMethodDescriptor yX9_box.desc).map (fun d => d.parameters.length) = some 2 := by decide +kernel
set_option maxRecDepth 100000 in
set_option maxHeartbeats 4000000 in
theorem lw_box {p : Program} {l : Launch} {e : Env} {s : State} {m : MethodId} {below : List Frame} {meth : Method} {c : Code} {D : va_G} {ad : Nat → Nat} {cA : Nat → ClassId} {b L : Nat} {xs : Nat → Int32} {i : Nat} (C : lwC p s m meth c D ad cA b L xs) (hi : i + 5 < L) (nx : lwN p l e s m below meth c D ad cA b i) {s' : Nat → Int32} {a : Nat → Nat → Int32} {w : Bool} {t : Nat → Int32} {b' : Nat → Nat → Int32} {u : Nat → Int64} {c' : Nat → Nat → Int64} (hI : Inv s' a w t b' u) : lwW p l e s m below meth c D ad cA b 464 i [] (HX s' a w ++ HM t b' u c') := by
  have hT := L_box ((xs (i + 1))) ((xs (i + 2))) s' a w t b' u c' hI
  refine lw_x C (by decide +kernel) ?_
  refine lw_arg 1 C hi (by decide) (by decide +kernel) ?_
  refine lw_arg 2 C hi (by decide) (by decide +kernel) ?_
  refine lw_call (idx := 49) (j := 84) (r0 := 0) (f := 3) (w := 65) (mx := 3) (av := [.int (xs (i + 1)), .int (xs (i + 2))]) (rest := []) C (Or.inl ⟨rfl, rfl⟩) rfl (by decide +kernel) lk8_box lj8 lin8_box lse8_box ldd8_box (by decide) (by decide) (by decide) hT (fun r h1 hT1 => ?_)
  rw [List.append_nil]
  refine lw_y C (by decide +kernel) ?_
  refine lw_arg 1 C hi (by decide) (by decide +kernel) ?_
  refine lw_arg 2 C hi (by decide) (by decide +kernel) ?_
  refine lw_call (idx := 52) (j := 122) (r0 := 56) (f := 2) (w := 45) (mx := 3) (av := [.int (xs (i + 1)), .int (xs (i + 2))]) (rest := (r.map (zv ad)).toList) C (Or.inr ⟨rfl, rfl⟩) rfl (by decide +kernel) lk9_box lj9 lin9_box lse9_box ldd9_box (by decide) (by decide) lw_cat hT1 (fun r2 h2 hT2 => ?_)
  obtain ⟨v, rfl, rfl, s2, a2, w2, t2, b2, u2, c2, rfl, hI2⟩ := hT2
  exact lw_cmp (off := 595) C (by decide +kernel) (by decide) (nx s2 a2 w2 t2 b2 u2 c2 hI2)
theorem lk8_take : Cond.methodLink R_law 53 yX8_take ∈ ztb := zt_3 3 rfl rfl
theorem lin8_take : Cond.instanceMethod yX8_take ∈ ztb := zt_3 4 rfl rfl
theorem lse8_take : Cond.selects RX8 yX8_take yX8_take ∈ ztb := zt_3 5 rfl rfl
theorem ldd8_take : yX8_take.cls ≠ "java/lang/invoke/MethodHandle" ∧ yX8_take.cls ≠ "java/lang/invoke/VarHandle" ∧ (parseMethodDescriptor yX8_take.desc).map (fun d => d.parameters.length) = some 1 := by decide +kernel
theorem lk9_take : Cond.methodLink R_law 56 yX9_take ∈ ztb := zt_5 203 rfl rfl
theorem lin9_take : Cond.instanceMethod yX9_take ∈ ztb := zt_5 204 rfl rfl
theorem lse9_take : Cond.selects RX9 yX9_take yX9_take ∈ ztb := zt_5 205 rfl rfl
theorem ldd9_take : yX9_take.cls ≠ "java/lang/invoke/MethodHandle" ∧ yX9_take.cls ≠ "java/lang/invoke/VarHandle" ∧ (parseMethodDescriptor yX9_take.desc).map (fun d => d.parameters.length) = some 1 := by decide +kernel
set_option maxRecDepth 100000 in
set_option maxHeartbeats 4000000 in
theorem lw_take {p : Program} {l : Launch} {e : Env} {s : State} {m : MethodId} {below : List Frame} {meth : Method} {c : Code} {D : va_G} {ad : Nat → Nat} {cA : Nat → ClassId} {b L : Nat} {xs : Nat → Int32} {i : Nat} (C : lwC p s m meth c D ad cA b L xs) (hi : i + 5 < L) (nx : lwN p l e s m below meth c D ad cA b i) {s' : Nat → Int32} {a : Nat → Nat → Int32} {w : Bool} {t : Nat → Int32} {b' : Nat → Nat → Int32} {u : Nat → Int64} {c' : Nat → Nat → Int64} (hI : Inv s' a w t b' u) : lwW p l e s m below meth c D ad cA b 497 i [] (HX s' a w ++ HM t b' u c') := by
  have hT := L_take ((xs (i + 1))) s' a w t b' u c' hI
  refine lw_x C (by decide +kernel) ?_
  refine lw_arg 1 C hi (by decide) (by decide +kernel) ?_
  refine lw_call (idx := 53) (j := 85) (r0 := 0) (f := 2) (w := 50) (mx := 2) (av := [.int (xs (i + 1))]) (rest := []) C (Or.inl ⟨rfl, rfl⟩) rfl (by decide +kernel) lk8_take lj8 lin8_take lse8_take ldd8_take (by decide) (by decide) (by decide) hT (fun r h1 hT1 => ?_)
  rw [List.append_nil]
  refine lw_y C (by decide +kernel) ?_
  refine lw_arg 1 C hi (by decide) (by decide +kernel) ?_
  refine lw_call (idx := 56) (j := 124) (r0 := 56) (f := 1) (w := 25) (mx := 5) (av := [.int (xs (i + 1))]) (rest := (r.map (zv ad)).toList) C (Or.inr ⟨rfl, rfl⟩) rfl (by decide +kernel) lk9_take lj9 lin9_take lse9_take ldd9_take (by decide) (by decide) lw_cat hT1 (fun r2 h2 hT2 => ?_)
  obtain ⟨v, rfl, rfl, s2, a2, w2, t2, b2, u2, c2, rfl, hI2⟩ := hT2
  exact lw_cmp (off := 572) C (by decide +kernel) (by decide) (nx s2 a2 w2 t2 b2 u2 c2 hI2)
theorem lk8_stack : Cond.methodLink R_law 57 yX8_stack ∈ ztb := zt_3 19 rfl rfl
theorem lin8_stack : Cond.instanceMethod yX8_stack ∈ ztb := zt_3 20 rfl rfl
theorem lse8_stack : Cond.selects RX8 yX8_stack yX8_stack ∈ ztb := zt_3 21 rfl rfl
theorem ldd8_stack : yX8_stack.cls ≠ "java/lang/invoke/MethodHandle" ∧ yX8_stack.cls ≠ "java/lang/invoke/VarHandle" ∧ (parseMethodDescriptor yX8_stack.desc).map (fun d => d.parameters.length) = some 2 := by decide +kernel
theorem lk9_stack : Cond.methodLink R_law 60 yX9_stack ∈ ztb := zt_5 211 rfl rfl
theorem lin9_stack : Cond.instanceMethod yX9_stack ∈ ztb := zt_5 212 rfl rfl
theorem lse9_stack : Cond.selects RX9 yX9_stack yX9_stack ∈ ztb := zt_5 213 rfl rfl
theorem ldd9_stack : yX9_stack.cls ≠ "java/lang/invoke/MethodHandle" ∧ yX9_stack.cls ≠ "java/lang/invoke/VarHandle" ∧ (parseMethodDescriptor yX9_stack.desc).map (fun d => d.parameters.length) = some 2 := by decide +kernel
set_option maxRecDepth 100000 in
set_option maxHeartbeats 4000000 in
theorem lw_stack {p : Program} {l : Launch} {e : Env} {s : State} {m : MethodId} {below : List Frame} {meth : Method} {c : Code} {D : va_G} {ad : Nat → Nat} {cA : Nat → ClassId} {b L : Nat} {xs : Nat → Int32} {i : Nat} (C : lwC p s m meth c D ad cA b L xs) (hi : i + 5 < L) (nx : lwN p l e s m below meth c D ad cA b i) {s' : Nat → Int32} {a : Nat → Nat → Int32} {w : Bool} {t : Nat → Int32} {b' : Nat → Nat → Int32} {u : Nat → Int64} {c' : Nat → Nat → Int64} (hI : Inv s' a w t b' u) : lwW p l e s m below meth c D ad cA b 520 i [] (HX s' a w ++ HM t b' u c') := by
  have hT := L_stack ((xs (i + 1))) ((xs (i + 2))) s' a w t b' u c' hI
  refine lw_x C (by decide +kernel) ?_
  refine lw_arg 1 C hi (by decide) (by decide +kernel) ?_
  refine lw_arg 2 C hi (by decide) (by decide +kernel) ?_
  refine lw_call (idx := 57) (j := 86) (r0 := 0) (f := 3) (w := 64) (mx := 3) (av := [.int (xs (i + 1)), .int (xs (i + 2))]) (rest := []) C (Or.inl ⟨rfl, rfl⟩) rfl (by decide +kernel) lk8_stack lj8 lin8_stack lse8_stack ldd8_stack (by decide) (by decide) (by decide) hT (fun r h1 hT1 => ?_)
  rw [List.append_nil]
  refine lw_y C (by decide +kernel) ?_
  refine lw_arg 1 C hi (by decide) (by decide +kernel) ?_
  refine lw_arg 2 C hi (by decide) (by decide +kernel) ?_
  refine lw_call (idx := 60) (j := 125) (r0 := 56) (f := 2) (w := 45) (mx := 3) (av := [.int (xs (i + 1)), .int (xs (i + 2))]) (rest := (r.map (zv ad)).toList) C (Or.inr ⟨rfl, rfl⟩) rfl (by decide +kernel) lk9_stack lj9 lin9_stack lse9_stack ldd9_stack (by decide) (by decide) lw_cat hT1 (fun r2 h2 hT2 => ?_)
  obtain ⟨v, rfl, rfl, s2, a2, w2, t2, b2, u2, c2, rfl, hI2⟩ := hT2
  exact lw_cmp (off := 539) C (by decide +kernel) (by decide) (nx s2 a2 w2 t2 b2 u2 c2 hI2)
theorem lk8_person : Cond.methodLink R_law 61 yX8_person ∈ ztb := zt_3 27 rfl rfl
theorem lin8_person : Cond.instanceMethod yX8_person ∈ ztb := zt_3 28 rfl rfl
theorem lse8_person : Cond.selects RX8 yX8_person yX8_person ∈ ztb := zt_3 29 rfl rfl
theorem ldd8_person : yX8_person.cls ≠ "java/lang/invoke/MethodHandle" ∧ yX8_person.cls ≠ "java/lang/invoke/VarHandle" ∧ (parseMethodDescriptor yX8_person.desc).map (fun d => d.parameters.length) = some 1 := by decide +kernel
theorem lk9_person : Cond.methodLink R_law 64 yX9_person ∈ ztb := zt_5 215 rfl rfl
theorem lin9_person : Cond.instanceMethod yX9_person ∈ ztb := zt_5 216 rfl rfl
theorem lse9_person : Cond.selects RX9 yX9_person yX9_person ∈ ztb := zt_5 217 rfl rfl
theorem ldd9_person : yX9_person.cls ≠ "java/lang/invoke/MethodHandle" ∧ yX9_person.cls ≠ "java/lang/invoke/VarHandle" ∧ (parseMethodDescriptor yX9_person.desc).map (fun d => d.parameters.length) = some 1 := by decide +kernel
set_option maxRecDepth 100000 in
set_option maxHeartbeats 4000000 in
theorem lw_person {p : Program} {l : Launch} {e : Env} {s : State} {m : MethodId} {below : List Frame} {meth : Method} {c : Code} {D : va_G} {ad : Nat → Nat} {cA : Nat → ClassId} {b L : Nat} {xs : Nat → Int32} {i : Nat} (C : lwC p s m meth c D ad cA b L xs) (hi : i + 5 < L) (nx : lwN p l e s m below meth c D ad cA b i) {s' : Nat → Int32} {a : Nat → Nat → Int32} {w : Bool} {t : Nat → Int32} {b' : Nat → Nat → Int32} {u : Nat → Int64} {c' : Nat → Nat → Int64} (hI : Inv s' a w t b' u) : lwW p l e s m below meth c D ad cA b 553 i [] (HX s' a w ++ HM t b' u c') := by
  have hT := L_person ((xs (i + 1))) s' a w t b' u c' hI
  refine lw_x C (by decide +kernel) ?_
  refine lw_arg 1 C hi (by decide) (by decide +kernel) ?_
  refine lw_call (idx := 61) (j := 87) (r0 := 0) (f := 2) (w := 43) (mx := 2) (av := [.int (xs (i + 1))]) (rest := []) C (Or.inl ⟨rfl, rfl⟩) rfl (by decide +kernel) lk8_person lj8 lin8_person lse8_person ldd8_person (by decide) (by decide) (by decide) hT (fun r h1 hT1 => ?_)
  rw [List.append_nil]
  refine lw_y C (by decide +kernel) ?_
  refine lw_arg 1 C hi (by decide) (by decide +kernel) ?_
  refine lw_call (idx := 64) (j := 126) (r0 := 56) (f := 1) (w := 25) (mx := 2) (av := [.int (xs (i + 1))]) (rest := (r.map (zv ad)).toList) C (Or.inr ⟨rfl, rfl⟩) rfl (by decide +kernel) lk9_person lj9 lin9_person lse9_person ldd9_person (by decide) (by decide) lw_cat hT1 (fun r2 h2 hT2 => ?_)
  obtain ⟨v, rfl, rfl, s2, a2, w2, t2, b2, u2, c2, rfl, hI2⟩ := hT2
  exact lw_cmp (off := 516) C (by decide +kernel) (by decide) (nx s2 a2 w2 t2 b2 u2 c2 hI2)
theorem lk8_ill : Cond.methodLink R_law 65 yX8_ill ∈ ztb := zt_3 36 rfl rfl
theorem lin8_ill : Cond.instanceMethod yX8_ill ∈ ztb := zt_3 37 rfl rfl
theorem lse8_ill : Cond.selects RX8 yX8_ill yX8_ill ∈ ztb := zt_3 38 rfl rfl
theorem ldd8_ill : yX8_ill.cls ≠ "java/lang/invoke/MethodHandle" ∧ yX8_ill.cls ≠ "java/lang/invoke/VarHandle" ∧ (parseMethodDescriptor yX8_ill.desc).map (fun d => d.parameters.length) = some 3 := by decide +kernel
theorem lk9_ill : Cond.methodLink R_law 68 yX9_ill ∈ ztb := zt_5 220 rfl rfl
theorem lin9_ill : Cond.instanceMethod yX9_ill ∈ ztb := zt_5 221 rfl rfl
theorem lse9_ill : Cond.selects RX9 yX9_ill yX9_ill ∈ ztb := zt_5 222 rfl rfl
theorem ldd9_ill : yX9_ill.cls ≠ "java/lang/invoke/MethodHandle" ∧ yX9_ill.cls ≠ "java/lang/invoke/VarHandle" ∧ (parseMethodDescriptor yX9_ill.desc).map (fun d => d.parameters.length) = some 3 := by decide +kernel
set_option maxRecDepth 100000 in
set_option maxHeartbeats 4000000 in
theorem lw_ill {p : Program} {l : Launch} {e : Env} {s : State} {m : MethodId} {below : List Frame} {meth : Method} {c : Code} {D : va_G} {ad : Nat → Nat} {cA : Nat → ClassId} {b L : Nat} {xs : Nat → Int32} {i : Nat} (C : lwC p s m meth c D ad cA b L xs) (hi : i + 5 < L) (nx : lwN p l e s m below meth c D ad cA b i) {s' : Nat → Int32} {a : Nat → Nat → Int32} {w : Bool} {t : Nat → Int32} {b' : Nat → Nat → Int32} {u : Nat → Int64} {c' : Nat → Nat → Int64} (hI : Inv s' a w t b' u) : lwW p l e s m below meth c D ad cA b 576 i [] (HX s' a w ++ HM t b' u c') := by
  have hT := L_ill ((xs (i + 1))) ((xs (i + 2))) ((xs (i + 3))) s' a w t b' u c' hI
  refine lw_x C (by decide +kernel) ?_
  refine lw_arg 1 C hi (by decide) (by decide +kernel) ?_
  refine lw_arg 2 C hi (by decide) (by decide +kernel) ?_
  refine lw_arg 3 C hi (by decide) (by decide +kernel) ?_
  refine lw_call (idx := 65) (j := 88) (r0 := 0) (f := 4) (w := 86) (mx := 4) (av := [.int (xs (i + 1)), .int (xs (i + 2)), .int (xs (i + 3))]) (rest := []) C (Or.inl ⟨rfl, rfl⟩) rfl (by decide +kernel) lk8_ill lj8 lin8_ill lse8_ill ldd8_ill (by decide) (by decide) (by decide) hT (fun r h1 hT1 => ?_)
  rw [List.append_nil]
  refine lw_y C (by decide +kernel) ?_
  refine lw_arg 1 C hi (by decide) (by decide +kernel) ?_
  refine lw_arg 2 C hi (by decide) (by decide +kernel) ?_
  refine lw_arg 3 C hi (by decide) (by decide +kernel) ?_
  refine lw_call (idx := 68) (j := 127) (r0 := 56) (f := 2) (w := 45) (mx := 4) (av := [.int (xs (i + 1)), .int (xs (i + 2)), .int (xs (i + 3))]) (rest := (r.map (zv ad)).toList) C (Or.inr ⟨rfl, rfl⟩) rfl (by decide +kernel) lk9_ill lj9 lin9_ill lse9_ill ldd9_ill (by decide) (by decide) lw_cat hT1 (fun r2 h2 hT2 => ?_)
  obtain ⟨v, rfl, rfl, s2, a2, w2, t2, b2, u2, c2, rfl, hI2⟩ := hT2
  exact lw_cmp (off := 473) C (by decide +kernel) (by decide) (nx s2 a2 w2 t2 b2 u2 c2 hI2)
theorem lk8_work : Cond.methodLink R_law 69 yX8_work ∈ ztb := zt_3 45 rfl rfl
theorem lin8_work : Cond.instanceMethod yX8_work ∈ ztb := zt_3 46 rfl rfl
theorem lse8_work : Cond.selects RX8 yX8_work yX8_work ∈ ztb := zt_3 47 rfl rfl
theorem ldd8_work : yX8_work.cls ≠ "java/lang/invoke/MethodHandle" ∧ yX8_work.cls ≠ "java/lang/invoke/VarHandle" ∧ (parseMethodDescriptor yX8_work.desc).map (fun d => d.parameters.length) = some 4 := by decide +kernel
theorem lk9_work : Cond.methodLink R_law 73 yX9_work ∈ ztb := zt_5 224 rfl rfl
theorem lin9_work : Cond.instanceMethod yX9_work ∈ ztb := zt_5 225 rfl rfl
theorem lse9_work : Cond.selects RX9 yX9_work yX9_work ∈ ztb := zt_5 226 rfl rfl
theorem ldd9_work : yX9_work.cls ≠ "java/lang/invoke/MethodHandle" ∧ yX9_work.cls ≠ "java/lang/invoke/VarHandle" ∧ (parseMethodDescriptor yX9_work.desc).map (fun d => d.parameters.length) = some 4 := by decide +kernel
set_option maxRecDepth 100000 in
set_option maxHeartbeats 4000000 in
theorem lw_work {p : Program} {l : Launch} {e : Env} {s : State} {m : MethodId} {below : List Frame} {meth : Method} {c : Code} {D : va_G} {ad : Nat → Nat} {cA : Nat → ClassId} {b L : Nat} {xs : Nat → Int32} {i : Nat} (C : lwC p s m meth c D ad cA b L xs) (hi : i + 5 < L) (nx : lwN p l e s m below meth c D ad cA b i) {s' : Nat → Int32} {a : Nat → Nat → Int32} {w : Bool} {t : Nat → Int32} {b' : Nat → Nat → Int32} {u : Nat → Int64} {c' : Nat → Nat → Int64} (hI : Inv s' a w t b' u) : lwW p l e s m below meth c D ad cA b 619 i [] (HX s' a w ++ HM t b' u c') := by
  have hT := L_work ((xs (i + 1))) ((xs (i + 2))) ((xs (i + 3))) ((xs (i + 4))) s' a w t b' u c' hI
  refine lw_x C (by decide +kernel) ?_
  refine lw_arg 1 C hi (by decide) (by decide +kernel) ?_
  refine lw_arg 2 C hi (by decide) (by decide +kernel) ?_
  refine lw_arg 3 C hi (by decide) (by decide +kernel) ?_
  refine lw_arg 4 C hi (by decide) (by decide +kernel) ?_
  refine lw_call (idx := 69) (j := 89) (r0 := 0) (f := 2) (w := 47) (mx := 5) (av := [.int (xs (i + 1)), .int (xs (i + 2)), .int (xs (i + 3)), .int (xs (i + 4))]) (rest := []) C (Or.inl ⟨rfl, rfl⟩) rfl (by decide +kernel) lk8_work lj8 lin8_work lse8_work ldd8_work (by decide) (by decide) (by decide) hT (fun r h1 hT1 => ?_)
  rw [List.append_nil]
  refine lw_y C (by decide +kernel) ?_
  refine lw_arg 1 C hi (by decide) (by decide +kernel) ?_
  refine lw_arg 2 C hi (by decide) (by decide +kernel) ?_
  refine lw_arg 3 C hi (by decide) (by decide +kernel) ?_
  refine lw_arg 4 C hi (by decide) (by decide +kernel) ?_
  refine lw_call (idx := 73) (j := 128) (r0 := 56) (f := 1) (w := 25) (mx := 5) (av := [.int (xs (i + 1)), .int (xs (i + 2)), .int (xs (i + 3)), .int (xs (i + 4))]) (rest := (r.map (zv ad)).toList) C (Or.inr ⟨rfl, rfl⟩) rfl (by decide +kernel) lk9_work lj9 lin9_work lse9_work ldd9_work (by decide) (by decide) lw_cat hT1 (fun r2 h2 hT2 => ?_)
  obtain ⟨v, rfl, rfl, s2, a2, w2, t2, b2, u2, c2, rfl, hI2⟩ := hT2
  exact lw_cmp (off := 420) C (by decide +kernel) (by decide) (nx s2 a2 w2 t2 b2 u2 c2 hI2)
theorem lk8_schedule : Cond.methodLink R_law 74 yX8_schedule ∈ ztb := zt_3 53 rfl rfl
theorem lin8_schedule : Cond.instanceMethod yX8_schedule ∈ ztb := zt_3 54 rfl rfl
theorem lse8_schedule : Cond.selects RX8 yX8_schedule yX8_schedule ∈ ztb := zt_3 55 rfl rfl
theorem ldd8_schedule : yX8_schedule.cls ≠ "java/lang/invoke/MethodHandle" ∧ yX8_schedule.cls ≠ "java/lang/invoke/VarHandle" ∧ (parseMethodDescriptor yX8_schedule.desc).map (fun d => d.parameters.length) = some 0 := by decide +kernel
theorem lk9_schedule : Cond.methodLink R_law 78 yX9_schedule ∈ ztb := zt_5 231 rfl rfl
theorem lin9_schedule : Cond.instanceMethod yX9_schedule ∈ ztb := zt_5 232 rfl rfl
theorem lse9_schedule : Cond.selects RX9 yX9_schedule yX9_schedule ∈ ztb := zt_5 233 rfl rfl
theorem ldd9_schedule : yX9_schedule.cls ≠ "java/lang/invoke/MethodHandle" ∧ yX9_schedule.cls ≠ "java/lang/invoke/VarHandle" ∧ (parseMethodDescriptor yX9_schedule.desc).map (fun d => d.parameters.length) = some 0 := by decide +kernel
set_option maxRecDepth 100000 in
set_option maxHeartbeats 4000000 in
theorem lw_schedule {p : Program} {l : Launch} {e : Env} {s : State} {m : MethodId} {below : List Frame} {meth : Method} {c : Code} {D : va_G} {ad : Nat → Nat} {cA : Nat → ClassId} {b L : Nat} {xs : Nat → Int32} {i : Nat} (C : lwC p s m meth c D ad cA b L xs) (hi : i + 5 < L) (nx : lwN p l e s m below meth c D ad cA b i) {s' : Nat → Int32} {a : Nat → Nat → Int32} {w : Bool} {t : Nat → Int32} {b' : Nat → Nat → Int32} {u : Nat → Int64} {c' : Nat → Nat → Int64} (hI : Inv s' a w t b' u) : lwW p l e s m below meth c D ad cA b 672 i [] (HX s' a w ++ HM t b' u c') := by
  have hT := L_schedule  s' a w t b' u c' hI
  refine lw_x C (by decide +kernel) ?_
  refine lw_call (idx := 74) (j := 90) (r0 := 0) (f := 4) (w := 102) (mx := 1) (av := []) (rest := []) C (Or.inl ⟨rfl, rfl⟩) rfl (by decide +kernel) lk8_schedule lj8 lin8_schedule lse8_schedule ldd8_schedule (by decide) (by decide) (by decide) hT (fun r h1 hT1 => ?_)
  rw [List.append_nil]
  refine lw_y C (by decide +kernel) ?_
  refine lw_call (idx := 78) (j := 131) (r0 := 56) (f := 2) (w := 51) (mx := 5) (av := []) (rest := (r.map (zv ad)).toList) C (Or.inr ⟨rfl, rfl⟩) rfl (by decide +kernel) lk9_schedule lj9 lin9_schedule lse9_schedule ldd9_schedule (by decide) (by decide) lw_cat hT1 (fun r2 h2 hT2 => ?_)
  obtain ⟨v, rfl, rfl, s2, a2, w2, t2, b2, u2, c2, rfl, hI2⟩ := hT2
  exact lw_cmp (off := 407) C (by decide +kernel) (by decide) (nx s2 a2 w2 t2 b2 u2 c2 hI2)
theorem lk8_begins : Cond.methodLink R_law 79 yX8_begins ∈ ztb := zt_3 93 rfl rfl
theorem lin8_begins : Cond.instanceMethod yX8_begins ∈ ztb := zt_3 94 rfl rfl
theorem lse8_begins : Cond.selects RX8 yX8_begins yX8_begins ∈ ztb := zt_3 95 rfl rfl
theorem ldd8_begins : yX8_begins.cls ≠ "java/lang/invoke/MethodHandle" ∧ yX8_begins.cls ≠ "java/lang/invoke/VarHandle" ∧ (parseMethodDescriptor yX8_begins.desc).map (fun d => d.parameters.length) = some 2 := by decide +kernel
theorem lk9_begins : Cond.methodLink R_law 82 yX9_begins ∈ ztb := zt_6 3 rfl rfl
theorem lin9_begins : Cond.instanceMethod yX9_begins ∈ ztb := zt_6 4 rfl rfl
theorem lse9_begins : Cond.selects RX9 yX9_begins yX9_begins ∈ ztb := zt_6 5 rfl rfl
theorem ldd9_begins : yX9_begins.cls ≠ "java/lang/invoke/MethodHandle" ∧ yX9_begins.cls ≠ "java/lang/invoke/VarHandle" ∧ (parseMethodDescriptor yX9_begins.desc).map (fun d => d.parameters.length) = some 2 := by decide +kernel
set_option maxRecDepth 100000 in
set_option maxHeartbeats 4000000 in
theorem lw_begins {p : Program} {l : Launch} {e : Env} {s : State} {m : MethodId} {below : List Frame} {meth : Method} {c : Code} {D : va_G} {ad : Nat → Nat} {cA : Nat → ClassId} {b L : Nat} {xs : Nat → Int32} {i : Nat} (C : lwC p s m meth c D ad cA b L xs) (hi : i + 5 < L) (nx : lwN p l e s m below meth c D ad cA b i) {s' : Nat → Int32} {a : Nat → Nat → Int32} {w : Bool} {t : Nat → Int32} {b' : Nat → Nat → Int32} {u : Nat → Int64} {c' : Nat → Nat → Int64} (hI : Inv s' a w t b' u) : lwW p l e s m below meth c D ad cA b 685 i [] (HX s' a w ++ HM t b' u c') := by
  have hT := L_begins ((xs (i + 1))) ((xs (i + 2))) s' a w t b' u c' hI
  refine lw_x C (by decide +kernel) ?_
  refine lw_arg 1 C hi (by decide) (by decide +kernel) ?_
  refine lw_arg 2 C hi (by decide) (by decide +kernel) ?_
  refine lw_call (idx := 79) (j := 91) (r0 := 0) (f := 2) (w := 44) (mx := 3) (av := [.int (xs (i + 1)), .int (xs (i + 2))]) (rest := []) C (Or.inl ⟨rfl, rfl⟩) rfl (by decide +kernel) lk8_begins lj8 lin8_begins lse8_begins ldd8_begins (by decide) (by decide) (by decide) hT (fun r h1 hT1 => ?_)
  rw [List.append_nil]
  refine lw_y C (by decide +kernel) ?_
  refine lw_arg 1 C hi (by decide) (by decide +kernel) ?_
  refine lw_arg 2 C hi (by decide) (by decide +kernel) ?_
  refine lw_call (idx := 82) (j := 132) (r0 := 56) (f := 1) (w := 25) (mx := 3) (av := [.int (xs (i + 1)), .int (xs (i + 2))]) (rest := (r.map (zv ad)).toList) C (Or.inr ⟨rfl, rfl⟩) rfl (by decide +kernel) lk9_begins lj9 lin9_begins lse9_begins ldd9_begins (by decide) (by decide) lw_cat hT1 (fun r2 h2 hT2 => ?_)
  obtain ⟨v, rfl, rfl, s2, a2, w2, t2, b2, u2, c2, rfl, hI2⟩ := hT2
  exact lw_cmp (off := 374) C (by decide +kernel) (by decide) (nx s2 a2 w2 t2 b2 u2 c2 hI2)
theorem lk8_feed : Cond.methodLink R_law 83 yX8_feed ∈ ztb := zt_3 101 rfl rfl
theorem lin8_feed : Cond.instanceMethod yX8_feed ∈ ztb := zt_3 102 rfl rfl
theorem lse8_feed : Cond.selects RX8 yX8_feed yX8_feed ∈ ztb := zt_3 103 rfl rfl
theorem ldd8_feed : yX8_feed.cls ≠ "java/lang/invoke/MethodHandle" ∧ yX8_feed.cls ≠ "java/lang/invoke/VarHandle" ∧ (parseMethodDescriptor yX8_feed.desc).map (fun d => d.parameters.length) = some 5 := by decide +kernel
theorem lk9_feed : Cond.methodLink R_law 87 yX9_feed ∈ ztb := zt_6 7 rfl rfl
theorem lin9_feed : Cond.instanceMethod yX9_feed ∈ ztb := zt_6 8 rfl rfl
theorem lse9_feed : Cond.selects RX9 yX9_feed yX9_feed ∈ ztb := zt_6 9 rfl rfl
theorem ldd9_feed : yX9_feed.cls ≠ "java/lang/invoke/MethodHandle" ∧ yX9_feed.cls ≠ "java/lang/invoke/VarHandle" ∧ (parseMethodDescriptor yX9_feed.desc).map (fun d => d.parameters.length) = some 5 := by decide +kernel
set_option maxRecDepth 100000 in
set_option maxHeartbeats 4000000 in
theorem lw_feed {p : Program} {l : Launch} {e : Env} {s : State} {m : MethodId} {below : List Frame} {meth : Method} {c : Code} {D : va_G} {ad : Nat → Nat} {cA : Nat → ClassId} {b L : Nat} {xs : Nat → Int32} {i : Nat} (C : lwC p s m meth c D ad cA b L xs) (hi : i + 5 < L) (nx : lwN p l e s m below meth c D ad cA b i) {s' : Nat → Int32} {a : Nat → Nat → Int32} {w : Bool} {t : Nat → Int32} {b' : Nat → Nat → Int32} {u : Nat → Int64} {c' : Nat → Nat → Int64} (hI : Inv s' a w t b' u) : lwW p l e s m below meth c D ad cA b 718 i [] (HX s' a w ++ HM t b' u c') := by
  have hT := L_feed ((xs (i + 1))) ((xs (i + 2))) ((xs (i + 3))) ((xs (i + 4))) ((xs (i + 5))) s' a w t b' u c' hI
  refine lw_x C (by decide +kernel) ?_
  refine lw_arg 1 C hi (by decide) (by decide +kernel) ?_
  refine lw_arg 2 C hi (by decide) (by decide +kernel) ?_
  refine lw_arg 3 C hi (by decide) (by decide +kernel) ?_
  refine lw_arg 4 C hi (by decide) (by decide +kernel) ?_
  refine lw_arg 5 C hi (by decide) (by decide +kernel) ?_
  refine lw_call (idx := 83) (j := 92) (r0 := 0) (f := 1) (w := 22) (mx := 6) (av := [.int (xs (i + 1)), .int (xs (i + 2)), .int (xs (i + 3)), .int (xs (i + 4)), .int (xs (i + 5))]) (rest := []) C (Or.inl ⟨rfl, rfl⟩) rfl (by decide +kernel) lk8_feed lj8 lin8_feed lse8_feed ldd8_feed (by decide) (by decide) (by decide) hT (fun r h1 hT1 => ?_)
  rw [List.append_nil]
  refine lw_y C (by decide +kernel) ?_
  refine lw_arg 1 C hi (by decide) (by decide +kernel) ?_
  refine lw_arg 2 C hi (by decide) (by decide +kernel) ?_
  refine lw_arg 3 C hi (by decide) (by decide +kernel) ?_
  refine lw_arg 4 C hi (by decide) (by decide +kernel) ?_
  refine lw_arg 5 C hi (by decide) (by decide +kernel) ?_
  refine lw_call (idx := 87) (j := 134) (r0 := 56) (f := 1) (w := 22) (mx := 6) (av := [.int (xs (i + 1)), .int (xs (i + 2)), .int (xs (i + 3)), .int (xs (i + 4)), .int (xs (i + 5))]) (rest := (r.map (zv ad)).toList) C (Or.inr ⟨rfl, rfl⟩) rfl (by decide +kernel) lk9_feed lj9 lin9_feed lse9_feed ldd9_feed (by decide) (by decide) lw_cat hT1 (fun r2 h2 hT2 => ?_)
  obtain ⟨v, rfl, rfl, s2, a2, w2, t2, b2, u2, c2, rfl, hI2⟩ := hT2
  exact lw_cmp (off := 311) C (by decide +kernel) (by decide) (nx s2 a2 w2 t2 b2 u2 c2 hI2)
theorem lk8_end : Cond.methodLink R_law 88 yX8_end ∈ ztb := zt_3 113 rfl rfl
theorem lin8_end : Cond.instanceMethod yX8_end ∈ ztb := zt_3 114 rfl rfl
theorem lse8_end : Cond.selects RX8 yX8_end yX8_end ∈ ztb := zt_3 115 rfl rfl
theorem ldd8_end : yX8_end.cls ≠ "java/lang/invoke/MethodHandle" ∧ yX8_end.cls ≠ "java/lang/invoke/VarHandle" ∧ (parseMethodDescriptor yX8_end.desc).map (fun d => d.parameters.length) = some 1 := by decide +kernel
theorem lk9_end : Cond.methodLink R_law 91 yX9_end ∈ ztb := zt_6 15 rfl rfl
theorem lin9_end : Cond.instanceMethod yX9_end ∈ ztb := zt_6 16 rfl rfl
theorem lse9_end : Cond.selects RX9 yX9_end yX9_end ∈ ztb := zt_6 17 rfl rfl
theorem ldd9_end : yX9_end.cls ≠ "java/lang/invoke/MethodHandle" ∧ yX9_end.cls ≠ "java/lang/invoke/VarHandle" ∧ (parseMethodDescriptor yX9_end.desc).map (fun d => d.parameters.length) = some 1 := by decide +kernel
set_option maxRecDepth 100000 in
set_option maxHeartbeats 4000000 in
theorem lw_end {p : Program} {l : Launch} {e : Env} {s : State} {m : MethodId} {below : List Frame} {meth : Method} {c : Code} {D : va_G} {ad : Nat → Nat} {cA : Nat → ClassId} {b L : Nat} {xs : Nat → Int32} {i : Nat} (C : lwC p s m meth c D ad cA b L xs) (hi : i + 5 < L) (nx : lwN p l e s m below meth c D ad cA b i) {s' : Nat → Int32} {a : Nat → Nat → Int32} {w : Bool} {t : Nat → Int32} {b' : Nat → Nat → Int32} {u : Nat → Int64} {c' : Nat → Nat → Int64} (hI : Inv s' a w t b' u) : lwW p l e s m below meth c D ad cA b 781 i [] (HX s' a w ++ HM t b' u c') := by
  have hT := L_end ((xs (i + 1))) s' a w t b' u c' hI
  refine lw_x C (by decide +kernel) ?_
  refine lw_arg 1 C hi (by decide) (by decide +kernel) ?_
  refine lw_call (idx := 88) (j := 93) (r0 := 0) (f := 1) (w := 22) (mx := 2) (av := [.int (xs (i + 1))]) (rest := []) C (Or.inl ⟨rfl, rfl⟩) rfl (by decide +kernel) lk8_end lj8 lin8_end lse8_end ldd8_end (by decide) (by decide) (by decide) hT (fun r h1 hT1 => ?_)
  rw [List.append_nil]
  refine lw_y C (by decide +kernel) ?_
  refine lw_arg 1 C hi (by decide) (by decide +kernel) ?_
  refine lw_call (idx := 91) (j := 135) (r0 := 56) (f := 0) (w := 0) (mx := 2) (av := [.int (xs (i + 1))]) (rest := (r.map (zv ad)).toList) C (Or.inr ⟨rfl, rfl⟩) rfl (by decide +kernel) lk9_end lj9 lin9_end lse9_end ldd9_end (by decide) (by decide) lw_cat hT1 (fun r2 h2 hT2 => ?_)
  obtain ⟨v, rfl, rfl, s2, a2, w2, t2, b2, u2, c2, rfl, hI2⟩ := hT2
  exact lw_cmp (off := 288) C (by decide +kernel) (by decide) (nx s2 a2 w2 t2 b2 u2 c2 hI2)
theorem lk8_rules : Cond.methodLink R_law 92 yX8_rules ∈ ztb := zt_3 117 rfl rfl
theorem lin8_rules : Cond.instanceMethod yX8_rules ∈ ztb := zt_3 118 rfl rfl
theorem lse8_rules : Cond.selects RX8 yX8_rules yX8_rules ∈ ztb := zt_3 119 rfl rfl
theorem ldd8_rules : yX8_rules.cls ≠ "java/lang/invoke/MethodHandle" ∧ yX8_rules.cls ≠ "java/lang/invoke/VarHandle" ∧ (parseMethodDescriptor yX8_rules.desc).map (fun d => d.parameters.length) = some 0 := by decide +kernel
theorem lk9_rules : Cond.methodLink R_law 95 yX9_rules ∈ ztb := zt_6 19 rfl rfl
theorem lin9_rules : Cond.instanceMethod yX9_rules ∈ ztb := zt_6 20 rfl rfl
theorem lse9_rules : Cond.selects RX9 yX9_rules yX9_rules ∈ ztb := zt_6 21 rfl rfl
theorem ldd9_rules : yX9_rules.cls ≠ "java/lang/invoke/MethodHandle" ∧ yX9_rules.cls ≠ "java/lang/invoke/VarHandle" ∧ (parseMethodDescriptor yX9_rules.desc).map (fun d => d.parameters.length) = some 0 := by decide +kernel
set_option maxRecDepth 100000 in
set_option maxHeartbeats 4000000 in
theorem lw_rules {p : Program} {l : Launch} {e : Env} {s : State} {m : MethodId} {below : List Frame} {meth : Method} {c : Code} {D : va_G} {ad : Nat → Nat} {cA : Nat → ClassId} {b L : Nat} {xs : Nat → Int32} {i : Nat} (C : lwC p s m meth c D ad cA b L xs) (hi : i + 5 < L) (nx : lwN p l e s m below meth c D ad cA b i) {s' : Nat → Int32} {a : Nat → Nat → Int32} {w : Bool} {t : Nat → Int32} {b' : Nat → Nat → Int32} {u : Nat → Int64} {c' : Nat → Nat → Int64} (hI : Inv s' a w t b' u) : lwW p l e s m below meth c D ad cA b 804 i [] (HX s' a w ++ HM t b' u c') := by
  have hT := L_rules  s' a w t b' u c' hI
  refine lw_x C (by decide +kernel) ?_
  refine lw_call (idx := 92) (j := 94) (r0 := 0) (f := 10) (w := 221) (mx := 3) (av := []) (rest := []) C (Or.inl ⟨rfl, rfl⟩) rfl (by decide +kernel) lk8_rules lj8 lin8_rules lse8_rules ldd8_rules (by decide) (by decide) (by decide) hT (fun r h1 hT1 => ?_)
  rw [List.append_nil]
  refine lw_y C (by decide +kernel) ?_
  refine lw_call (idx := 95) (j := 145) (r0 := 56) (f := 6) (w := 133) (mx := 2) (av := []) (rest := (r.map (zv ad)).toList) C (Or.inr ⟨rfl, rfl⟩) rfl (by decide +kernel) lk9_rules lj9 lin9_rules lse9_rules ldd9_rules (by decide) (by decide) lw_cat hT1 (fun r2 h2 hT2 => ?_)
  obtain ⟨v, rfl, rfl, s2, a2, w2, t2, b2, u2, c2, rfl, hI2⟩ := hT2
  exact lw_cmp (off := 275) C (by decide +kernel) (by decide) (nx s2 a2 w2 t2 b2 u2 c2 hI2)
theorem lk8_fault : Cond.methodLink R_law 96 yX8_fault ∈ ztb := zt_4 18 rfl rfl
theorem lin8_fault : Cond.instanceMethod yX8_fault ∈ ztb := zt_4 19 rfl rfl
theorem lse8_fault : Cond.selects RX8 yX8_fault yX8_fault ∈ ztb := zt_4 20 rfl rfl
theorem ldd8_fault : yX8_fault.cls ≠ "java/lang/invoke/MethodHandle" ∧ yX8_fault.cls ≠ "java/lang/invoke/VarHandle" ∧ (parseMethodDescriptor yX8_fault.desc).map (fun d => d.parameters.length) = some 0 := by decide +kernel
theorem lk9_fault : Cond.methodLink R_law 99 yX9_fault ∈ ztb := zt_6 61 rfl rfl
theorem lin9_fault : Cond.instanceMethod yX9_fault ∈ ztb := zt_6 62 rfl rfl
theorem lse9_fault : Cond.selects RX9 yX9_fault yX9_fault ∈ ztb := zt_6 63 rfl rfl
theorem ldd9_fault : yX9_fault.cls ≠ "java/lang/invoke/MethodHandle" ∧ yX9_fault.cls ≠ "java/lang/invoke/VarHandle" ∧ (parseMethodDescriptor yX9_fault.desc).map (fun d => d.parameters.length) = some 0 := by decide +kernel
set_option maxRecDepth 100000 in
set_option maxHeartbeats 4000000 in
theorem lw_fault {p : Program} {l : Launch} {e : Env} {s : State} {m : MethodId} {below : List Frame} {meth : Method} {c : Code} {D : va_G} {ad : Nat → Nat} {cA : Nat → ClassId} {b L : Nat} {xs : Nat → Int32} {i : Nat} (C : lwC p s m meth c D ad cA b L xs) (hi : i + 5 < L) (nx : lwN p l e s m below meth c D ad cA b i) {s' : Nat → Int32} {a : Nat → Nat → Int32} {w : Bool} {t : Nat → Int32} {b' : Nat → Nat → Int32} {u : Nat → Int64} {c' : Nat → Nat → Int64} (hI : Inv s' a w t b' u) : lwW p l e s m below meth c D ad cA b 817 i [] (HX s' a w ++ HM t b' u c') := by
  have hT := L_fault  s' a w t b' u c' hI
  refine lw_x C (by decide +kernel) ?_
  refine lw_call (idx := 96) (j := 95) (r0 := 0) (f := 0) (w := 0) (mx := 1) (av := []) (rest := []) C (Or.inl ⟨rfl, rfl⟩) rfl (by decide +kernel) lk8_fault lj8 lin8_fault lse8_fault ldd8_fault (by decide) (by decide) (by decide) hT (fun r h1 hT1 => ?_)
  rw [List.append_nil]
  refine lw_y C (by decide +kernel) ?_
  refine lw_call (idx := 99) (j := 146) (r0 := 56) (f := 0) (w := 0) (mx := 1) (av := []) (rest := (r.map (zv ad)).toList) C (Or.inr ⟨rfl, rfl⟩) rfl (by decide +kernel) lk9_fault lj9 lin9_fault lse9_fault ldd9_fault (by decide) (by decide) lw_cat hT1 (fun r2 h2 hT2 => ?_)
  obtain ⟨v, rfl, rfl, s2, a2, w2, t2, b2, u2, c2, rfl, hI2⟩ := hT2
  exact lw_cmp (off := 262) C (by decide +kernel) (by decide) (nx s2 a2 w2 t2 b2 u2 c2 hI2)
theorem lk8_radio : Cond.methodLink R_law 100 yX8_radio ∈ ztb := zt_4 22 rfl rfl
theorem lin8_radio : Cond.instanceMethod yX8_radio ∈ ztb := zt_4 23 rfl rfl
theorem lse8_radio : Cond.selects RX8 yX8_radio yX8_radio ∈ ztb := zt_4 24 rfl rfl
theorem ldd8_radio : yX8_radio.cls ≠ "java/lang/invoke/MethodHandle" ∧ yX8_radio.cls ≠ "java/lang/invoke/VarHandle" ∧ (parseMethodDescriptor yX8_radio.desc).map (fun d => d.parameters.length) = some 3 := by decide +kernel
theorem lk9_radio : Cond.methodLink R_law 103 yX9_radio ∈ ztb := zt_6 65 rfl rfl
theorem lin9_radio : Cond.instanceMethod yX9_radio ∈ ztb := zt_6 66 rfl rfl
theorem lse9_radio : Cond.selects RX9 yX9_radio yX9_radio ∈ ztb := zt_6 67 rfl rfl
theorem ldd9_radio : yX9_radio.cls ≠ "java/lang/invoke/MethodHandle" ∧ yX9_radio.cls ≠ "java/lang/invoke/VarHandle" ∧ (parseMethodDescriptor yX9_radio.desc).map (fun d => d.parameters.length) = some 3 := by decide +kernel
set_option maxRecDepth 100000 in
set_option maxHeartbeats 4000000 in
theorem lw_radio {p : Program} {l : Launch} {e : Env} {s : State} {m : MethodId} {below : List Frame} {meth : Method} {c : Code} {D : va_G} {ad : Nat → Nat} {cA : Nat → ClassId} {b L : Nat} {xs : Nat → Int32} {i : Nat} (C : lwC p s m meth c D ad cA b L xs) (hi : i + 5 < L) (nx : lwN p l e s m below meth c D ad cA b i) {s' : Nat → Int32} {a : Nat → Nat → Int32} {w : Bool} {t : Nat → Int32} {b' : Nat → Nat → Int32} {u : Nat → Int64} {c' : Nat → Nat → Int64} (hI : Inv s' a w t b' u) : lwW p l e s m below meth c D ad cA b 830 i [] (HX s' a w ++ HM t b' u c') := by
  have hT := L_radio ((xs (i + 1))) ((xs (i + 2))) ((xs (i + 3))) s' a w t b' u c' hI
  refine lw_x C (by decide +kernel) ?_
  refine lw_arg 1 C hi (by decide) (by decide +kernel) ?_
  refine lw_arg 2 C hi (by decide) (by decide +kernel) ?_
  refine lw_arg 3 C hi (by decide) (by decide +kernel) ?_
  refine lw_call (idx := 100) (j := 96) (r0 := 0) (f := 2) (w := 46) (mx := 4) (av := [.int (xs (i + 1)), .int (xs (i + 2)), .int (xs (i + 3))]) (rest := []) C (Or.inl ⟨rfl, rfl⟩) rfl (by decide +kernel) lk8_radio lj8 lin8_radio lse8_radio ldd8_radio (by decide) (by decide) (by decide) hT (fun r h1 hT1 => ?_)
  rw [List.append_nil]
  refine lw_y C (by decide +kernel) ?_
  refine lw_arg 1 C hi (by decide) (by decide +kernel) ?_
  refine lw_arg 2 C hi (by decide) (by decide +kernel) ?_
  refine lw_arg 3 C hi (by decide) (by decide +kernel) ?_
  refine lw_call (idx := 103) (j := 147) (r0 := 56) (f := 1) (w := 25) (mx := 4) (av := [.int (xs (i + 1)), .int (xs (i + 2)), .int (xs (i + 3))]) (rest := (r.map (zv ad)).toList) C (Or.inr ⟨rfl, rfl⟩) rfl (by decide +kernel) lk9_radio lj9 lin9_radio lse9_radio ldd9_radio (by decide) (by decide) lw_cat hT1 (fun r2 h2 hT2 => ?_)
  obtain ⟨v, rfl, rfl, s2, a2, w2, t2, b2, u2, c2, rfl, hI2⟩ := hT2
  exact lw_cmp (off := 219) C (by decide +kernel) (by decide) (nx s2 a2 w2 t2 b2 u2 c2 hI2)
theorem lk8_message : Cond.methodLink R_law 104 yX8_message ∈ ztb := zt_4 31 rfl rfl
theorem lin8_message : Cond.instanceMethod yX8_message ∈ ztb := zt_4 32 rfl rfl
theorem lse8_message : Cond.selects RX8 yX8_message yX8_message ∈ ztb := zt_4 33 rfl rfl
theorem ldd8_message : yX8_message.cls ≠ "java/lang/invoke/MethodHandle" ∧ yX8_message.cls ≠ "java/lang/invoke/VarHandle" ∧ (parseMethodDescriptor yX8_message.desc).map (fun d => d.parameters.length) = some 2 := by decide +kernel
theorem lk9_message : Cond.methodLink R_law 107 yX9_message ∈ ztb := zt_6 69 rfl rfl
theorem lin9_message : Cond.instanceMethod yX9_message ∈ ztb := zt_6 70 rfl rfl
theorem lse9_message : Cond.selects RX9 yX9_message yX9_message ∈ ztb := zt_6 71 rfl rfl
theorem ldd9_message : yX9_message.cls ≠ "java/lang/invoke/MethodHandle" ∧ yX9_message.cls ≠ "java/lang/invoke/VarHandle" ∧ (parseMethodDescriptor yX9_message.desc).map (fun d => d.parameters.length) = some 2 := by decide +kernel
set_option maxRecDepth 100000 in
set_option maxHeartbeats 4000000 in
theorem lw_message {p : Program} {l : Launch} {e : Env} {s : State} {m : MethodId} {below : List Frame} {meth : Method} {c : Code} {D : va_G} {ad : Nat → Nat} {cA : Nat → ClassId} {b L : Nat} {xs : Nat → Int32} {i : Nat} (C : lwC p s m meth c D ad cA b L xs) (hi : i + 5 < L) (nx : lwN p l e s m below meth c D ad cA b i) {s' : Nat → Int32} {a : Nat → Nat → Int32} {w : Bool} {t : Nat → Int32} {b' : Nat → Nat → Int32} {u : Nat → Int64} {c' : Nat → Nat → Int64} (hI : Inv s' a w t b' u) : lwW p l e s m below meth c D ad cA b 873 i [] (HX s' a w ++ HM t b' u c') := by
  have hT := L_message ((xs (i + 1))) ((xs (i + 2))) s' a w t b' u c' hI
  refine lw_x C (by decide +kernel) ?_
  refine lw_arg 1 C hi (by decide) (by decide +kernel) ?_
  refine lw_arg 2 C hi (by decide) (by decide +kernel) ?_
  refine lw_call (idx := 104) (j := 97) (r0 := 0) (f := 2) (w := 44) (mx := 3) (av := [.int (xs (i + 1)), .int (xs (i + 2))]) (rest := []) C (Or.inl ⟨rfl, rfl⟩) rfl (by decide +kernel) lk8_message lj8 lin8_message lse8_message ldd8_message (by decide) (by decide) (by decide) hT (fun r h1 hT1 => ?_)
  rw [List.append_nil]
  refine lw_y C (by decide +kernel) ?_
  refine lw_arg 1 C hi (by decide) (by decide +kernel) ?_
  refine lw_arg 2 C hi (by decide) (by decide +kernel) ?_
  refine lw_call (idx := 107) (j := 148) (r0 := 56) (f := 1) (w := 25) (mx := 3) (av := [.int (xs (i + 1)), .int (xs (i + 2))]) (rest := (r.map (zv ad)).toList) C (Or.inr ⟨rfl, rfl⟩) rfl (by decide +kernel) lk9_message lj9 lin9_message lse9_message ldd9_message (by decide) (by decide) lw_cat hT1 (fun r2 h2 hT2 => ?_)
  obtain ⟨v, rfl, rfl, s2, a2, w2, t2, b2, u2, c2, rfl, hI2⟩ := hT2
  exact lw_cmp (off := 186) C (by decide +kernel) (by decide) (nx s2 a2 w2 t2 b2 u2 c2 hI2)
theorem lk8_fail : Cond.methodLink R_law 108 yX8_fail ∈ ztb := zt_4 39 rfl rfl
theorem lin8_fail : Cond.instanceMethod yX8_fail ∈ ztb := zt_4 40 rfl rfl
theorem lse8_fail : Cond.selects RX8 yX8_fail yX8_fail ∈ ztb := zt_4 41 rfl rfl
theorem ldd8_fail : yX8_fail.cls ≠ "java/lang/invoke/MethodHandle" ∧ yX8_fail.cls ≠ "java/lang/invoke/VarHandle" ∧ (parseMethodDescriptor yX8_fail.desc).map (fun d => d.parameters.length) = some 2 := by decide +kernel
theorem lk9_fail : Cond.methodLink R_law 111 yX9_fail ∈ ztb := zt_6 73 rfl rfl
theorem lin9_fail : Cond.instanceMethod yX9_fail ∈ ztb := zt_6 74 rfl rfl
theorem lse9_fail : Cond.selects RX9 yX9_fail yX9_fail ∈ ztb := zt_6 75 rfl rfl
theorem ldd9_fail : yX9_fail.cls ≠ "java/lang/invoke/MethodHandle" ∧ yX9_fail.cls ≠ "java/lang/invoke/VarHandle" ∧ (parseMethodDescriptor yX9_fail.desc).map (fun d => d.parameters.length) = some 2 := by decide +kernel
set_option maxRecDepth 100000 in
set_option maxHeartbeats 4000000 in
theorem lw_fail {p : Program} {l : Launch} {e : Env} {s : State} {m : MethodId} {below : List Frame} {meth : Method} {c : Code} {D : va_G} {ad : Nat → Nat} {cA : Nat → ClassId} {b L : Nat} {xs : Nat → Int32} {i : Nat} (C : lwC p s m meth c D ad cA b L xs) (hi : i + 5 < L) (nx : lwN p l e s m below meth c D ad cA b i) {s' : Nat → Int32} {a : Nat → Nat → Int32} {w : Bool} {t : Nat → Int32} {b' : Nat → Nat → Int32} {u : Nat → Int64} {c' : Nat → Nat → Int64} (hI : Inv s' a w t b' u) : lwW p l e s m below meth c D ad cA b 906 i [] (HX s' a w ++ HM t b' u c') := by
  have hT := L_fail ((xs (i + 1))) ((xs (i + 2))) s' a w t b' u c' hI
  refine lw_x C (by decide +kernel) ?_
  refine lw_arg 1 C hi (by decide) (by decide +kernel) ?_
  refine lw_arg 2 C hi (by decide) (by decide +kernel) ?_
  refine lw_call (idx := 108) (j := 98) (r0 := 0) (f := 3) (w := 64) (mx := 3) (av := [.int (xs (i + 1)), .int (xs (i + 2))]) (rest := []) C (Or.inl ⟨rfl, rfl⟩) rfl (by decide +kernel) lk8_fail lj8 lin8_fail lse8_fail ldd8_fail (by decide) (by decide) (by decide) hT (fun r h1 hT1 => ?_)
  rw [List.append_nil]
  refine lw_y C (by decide +kernel) ?_
  refine lw_arg 1 C hi (by decide) (by decide +kernel) ?_
  refine lw_arg 2 C hi (by decide) (by decide +kernel) ?_
  refine lw_call (idx := 111) (j := 149) (r0 := 56) (f := 2) (w := 45) (mx := 3) (av := [.int (xs (i + 1)), .int (xs (i + 2))]) (rest := (r.map (zv ad)).toList) C (Or.inr ⟨rfl, rfl⟩) rfl (by decide +kernel) lk9_fail lj9 lin9_fail lse9_fail ldd9_fail (by decide) (by decide) lw_cat hT1 (fun r2 h2 hT2 => ?_)
  obtain ⟨v, rfl, rfl, s2, a2, w2, t2, b2, u2, c2, rfl, hI2⟩ := hT2
  exact lw_cmp (off := 153) C (by decide +kernel) (by decide) (nx s2 a2 w2 t2 b2 u2 c2 hI2)
theorem lk8_go : Cond.methodLink R_law 112 yX8_go ∈ ztb := zt_4 49 rfl rfl
theorem lin8_go : Cond.instanceMethod yX8_go ∈ ztb := zt_4 50 rfl rfl
theorem lse8_go : Cond.selects RX8 yX8_go yX8_go ∈ ztb := zt_4 51 rfl rfl
theorem ldd8_go : yX8_go.cls ≠ "java/lang/invoke/MethodHandle" ∧ yX8_go.cls ≠ "java/lang/invoke/VarHandle" ∧ (parseMethodDescriptor yX8_go.desc).map (fun d => d.parameters.length) = some 1 := by decide +kernel
theorem lk9_go : Cond.methodLink R_law 115 yX9_go ∈ ztb := zt_6 78 rfl rfl
theorem lin9_go : Cond.instanceMethod yX9_go ∈ ztb := zt_6 79 rfl rfl
theorem lse9_go : Cond.selects RX9 yX9_go yX9_go ∈ ztb := zt_6 80 rfl rfl
theorem ldd9_go : yX9_go.cls ≠ "java/lang/invoke/MethodHandle" ∧ yX9_go.cls ≠ "java/lang/invoke/VarHandle" ∧ (parseMethodDescriptor yX9_go.desc).map (fun d => d.parameters.length) = some 1 := by decide +kernel
set_option maxRecDepth 100000 in
set_option maxHeartbeats 4000000 in
theorem lw_go {p : Program} {l : Launch} {e : Env} {s : State} {m : MethodId} {below : List Frame} {meth : Method} {c : Code} {D : va_G} {ad : Nat → Nat} {cA : Nat → ClassId} {b L : Nat} {xs : Nat → Int32} {i : Nat} (C : lwC p s m meth c D ad cA b L xs) (hi : i + 5 < L) (nx : lwN p l e s m below meth c D ad cA b i) {s' : Nat → Int32} {a : Nat → Nat → Int32} {w : Bool} {t : Nat → Int32} {b' : Nat → Nat → Int32} {u : Nat → Int64} {c' : Nat → Nat → Int64} (hI : Inv s' a w t b' u) : lwW p l e s m below meth c D ad cA b 939 i [] (HX s' a w ++ HM t b' u c') := by
  have hT := L_go ((xs (i + 1))) s' a w t b' u c' hI
  refine lw_x C (by decide +kernel) ?_
  refine lw_arg 1 C hi (by decide) (by decide +kernel) ?_
  refine lw_call (idx := 112) (j := 99) (r0 := 0) (f := 3) (w := 69) (mx := 4) (av := [.int (xs (i + 1))]) (rest := []) C (Or.inl ⟨rfl, rfl⟩) rfl (by decide +kernel) lk8_go lj8 lin8_go lse8_go ldd8_go (by decide) (by decide) (by decide) hT (fun r h1 hT1 => ?_)
  rw [List.append_nil]
  refine lw_y C (by decide +kernel) ?_
  refine lw_arg 1 C hi (by decide) (by decide +kernel) ?_
  refine lw_call (idx := 115) (j := 152) (r0 := 56) (f := 2) (w := 49) (mx := 3) (av := [.int (xs (i + 1))]) (rest := (r.map (zv ad)).toList) C (Or.inr ⟨rfl, rfl⟩) rfl (by decide +kernel) lk9_go lj9 lin9_go lse9_go ldd9_go (by decide) (by decide) lw_cat hT1 (fun r2 h2 hT2 => ?_)
  obtain ⟨v, rfl, rfl, s2, a2, w2, t2, b2, u2, c2, rfl, hI2⟩ := hT2
  exact lw_cmp (off := 130) C (by decide +kernel) (by decide) (nx s2 a2 w2 t2 b2 u2 c2 hI2)
theorem lk8_sent : Cond.methodLink R_law 116 yX8_sent ∈ ztb := zt_4 66 rfl rfl
theorem lin8_sent : Cond.instanceMethod yX8_sent ∈ ztb := zt_4 67 rfl rfl
theorem lse8_sent : Cond.selects RX8 yX8_sent yX8_sent ∈ ztb := zt_4 68 rfl rfl
theorem ldd8_sent : yX8_sent.cls ≠ "java/lang/invoke/MethodHandle" ∧ yX8_sent.cls ≠ "java/lang/invoke/VarHandle" ∧ (parseMethodDescriptor yX8_sent.desc).map (fun d => d.parameters.length) = some 2 := by decide +kernel
theorem lk9_sent : Cond.methodLink R_law 119 yX9_sent ∈ ztb := zt_6 91 rfl rfl
theorem lin9_sent : Cond.instanceMethod yX9_sent ∈ ztb := zt_6 92 rfl rfl
theorem lse9_sent : Cond.selects RX9 yX9_sent yX9_sent ∈ ztb := zt_6 93 rfl rfl
theorem ldd9_sent : yX9_sent.cls ≠ "java/lang/invoke/MethodHandle" ∧ yX9_sent.cls ≠ "java/lang/invoke/VarHandle" ∧ (parseMethodDescriptor yX9_sent.desc).map (fun d => d.parameters.length) = some 2 := by decide +kernel
set_option maxRecDepth 100000 in
set_option maxHeartbeats 4000000 in
theorem lw_sent {p : Program} {l : Launch} {e : Env} {s : State} {m : MethodId} {below : List Frame} {meth : Method} {c : Code} {D : va_G} {ad : Nat → Nat} {cA : Nat → ClassId} {b L : Nat} {xs : Nat → Int32} {i : Nat} (C : lwC p s m meth c D ad cA b L xs) (hi : i + 5 < L) (nx : lwN p l e s m below meth c D ad cA b i) {s' : Nat → Int32} {a : Nat → Nat → Int32} {w : Bool} {t : Nat → Int32} {b' : Nat → Nat → Int32} {u : Nat → Int64} {c' : Nat → Nat → Int64} (hI : Inv s' a w t b' u) : lwW p l e s m below meth c D ad cA b 962 i [] (HX s' a w ++ HM t b' u c') := by
  have hT := L_sent ((xs (i + 1))) ((xs (i + 2))) s' a w t b' u c' hI
  refine lw_x C (by decide +kernel) ?_
  refine lw_arg 1 C hi (by decide) (by decide +kernel) ?_
  refine lw_arg 2 C hi (by decide) (by decide +kernel) ?_
  refine lw_call (idx := 116) (j := 100) (r0 := 0) (f := 3) (w := 65) (mx := 3) (av := [.int (xs (i + 1)), .int (xs (i + 2))]) (rest := []) C (Or.inl ⟨rfl, rfl⟩) rfl (by decide +kernel) lk8_sent lj8 lin8_sent lse8_sent ldd8_sent (by decide) (by decide) (by decide) hT (fun r h1 hT1 => ?_)
  rw [List.append_nil]
  refine lw_y C (by decide +kernel) ?_
  refine lw_arg 1 C hi (by decide) (by decide +kernel) ?_
  refine lw_arg 2 C hi (by decide) (by decide +kernel) ?_
  refine lw_call (idx := 119) (j := 153) (r0 := 56) (f := 1) (w := 25) (mx := 3) (av := [.int (xs (i + 1)), .int (xs (i + 2))]) (rest := (r.map (zv ad)).toList) C (Or.inr ⟨rfl, rfl⟩) rfl (by decide +kernel) lk9_sent lj9 lin9_sent lse9_sent ldd9_sent (by decide) (by decide) lw_cat hT1 (fun r2 h2 hT2 => ?_)
  obtain ⟨v, rfl, rfl, s2, a2, w2, t2, b2, u2, c2, rfl, hI2⟩ := hT2
  exact lw_cmp (off := 97) C (by decide +kernel) (by decide) (nx s2 a2 w2 t2 b2 u2 c2 hI2)
theorem lk8_arrived : Cond.methodLink R_law 120 yX8_arrived ∈ ztb := zt_4 78 rfl rfl
theorem lin8_arrived : Cond.instanceMethod yX8_arrived ∈ ztb := zt_4 79 rfl rfl
theorem lse8_arrived : Cond.selects RX8 yX8_arrived yX8_arrived ∈ ztb := zt_4 80 rfl rfl
theorem ldd8_arrived : yX8_arrived.cls ≠ "java/lang/invoke/MethodHandle" ∧ yX8_arrived.cls ≠ "java/lang/invoke/VarHandle" ∧ (parseMethodDescriptor yX8_arrived.desc).map (fun d => d.parameters.length) = some 2 := by decide +kernel
theorem lk9_arrived : Cond.methodLink R_law 123 yX9_arrived ∈ ztb := zt_6 95 rfl rfl
theorem lin9_arrived : Cond.instanceMethod yX9_arrived ∈ ztb := zt_6 96 rfl rfl
theorem lse9_arrived : Cond.selects RX9 yX9_arrived yX9_arrived ∈ ztb := zt_6 97 rfl rfl
theorem ldd9_arrived : yX9_arrived.cls ≠ "java/lang/invoke/MethodHandle" ∧ yX9_arrived.cls ≠ "java/lang/invoke/VarHandle" ∧ (parseMethodDescriptor yX9_arrived.desc).map (fun d => d.parameters.length) = some 2 := by decide +kernel
set_option maxRecDepth 100000 in
set_option maxHeartbeats 4000000 in
theorem lw_arrived {p : Program} {l : Launch} {e : Env} {s : State} {m : MethodId} {below : List Frame} {meth : Method} {c : Code} {D : va_G} {ad : Nat → Nat} {cA : Nat → ClassId} {b L : Nat} {xs : Nat → Int32} {i : Nat} (C : lwC p s m meth c D ad cA b L xs) (hi : i + 5 < L) (nx : lwN p l e s m below meth c D ad cA b i) {s' : Nat → Int32} {a : Nat → Nat → Int32} {w : Bool} {t : Nat → Int32} {b' : Nat → Nat → Int32} {u : Nat → Int64} {c' : Nat → Nat → Int64} (hI : Inv s' a w t b' u) : lwW p l e s m below meth c D ad cA b 995 i [] (HX s' a w ++ HM t b' u c') := by
  have hT := L_arrived ((xs (i + 1))) ((xs (i + 2))) s' a w t b' u c' hI
  refine lw_x C (by decide +kernel) ?_
  refine lw_arg 1 C hi (by decide) (by decide +kernel) ?_
  refine lw_arg 2 C hi (by decide) (by decide +kernel) ?_
  refine lw_call (idx := 120) (j := 101) (r0 := 0) (f := 3) (w := 68) (mx := 3) (av := [.int (xs (i + 1)), .int (xs (i + 2))]) (rest := []) C (Or.inl ⟨rfl, rfl⟩) rfl (by decide +kernel) lk8_arrived lj8 lin8_arrived lse8_arrived ldd8_arrived (by decide) (by decide) (by decide) hT (fun r h1 hT1 => ?_)
  rw [List.append_nil]
  refine lw_y C (by decide +kernel) ?_
  refine lw_arg 1 C hi (by decide) (by decide +kernel) ?_
  refine lw_arg 2 C hi (by decide) (by decide +kernel) ?_
  refine lw_call (idx := 123) (j := 154) (r0 := 56) (f := 1) (w := 25) (mx := 6) (av := [.int (xs (i + 1)), .int (xs (i + 2))]) (rest := (r.map (zv ad)).toList) C (Or.inr ⟨rfl, rfl⟩) rfl (by decide +kernel) lk9_arrived lj9 lin9_arrived lse9_arrived ldd9_arrived (by decide) (by decide) lw_cat hT1 (fun r2 h2 hT2 => ?_)
  obtain ⟨v, rfl, rfl, s2, a2, w2, t2, b2, u2, c2, rfl, hI2⟩ := hT2
  exact lw_cmp (off := 64) C (by decide +kernel) (by decide) (nx s2 a2 w2 t2 b2 u2 c2 hI2)
theorem lk8_land : Cond.methodLink R_law 124 yX8_land ∈ ztb := zt_4 86 rfl rfl
theorem lin8_land : Cond.instanceMethod yX8_land ∈ ztb := zt_4 87 rfl rfl
theorem lse8_land : Cond.selects RX8 yX8_land yX8_land ∈ ztb := zt_4 88 rfl rfl
theorem ldd8_land : yX8_land.cls ≠ "java/lang/invoke/MethodHandle" ∧ yX8_land.cls ≠ "java/lang/invoke/VarHandle" ∧ (parseMethodDescriptor yX8_land.desc).map (fun d => d.parameters.length) = some 1 := by decide +kernel
theorem lk9_land : Cond.methodLink R_law 127 yX9_land ∈ ztb := zt_6 99 rfl rfl
theorem lin9_land : Cond.instanceMethod yX9_land ∈ ztb := zt_6 100 rfl rfl
theorem lse9_land : Cond.selects RX9 yX9_land yX9_land ∈ ztb := zt_6 101 rfl rfl
theorem ldd9_land : yX9_land.cls ≠ "java/lang/invoke/MethodHandle" ∧ yX9_land.cls ≠ "java/lang/invoke/VarHandle" ∧ (parseMethodDescriptor yX9_land.desc).map (fun d => d.parameters.length) = some 1 := by decide +kernel
set_option maxRecDepth 100000 in
set_option maxHeartbeats 4000000 in
theorem lw_land {p : Program} {l : Launch} {e : Env} {s : State} {m : MethodId} {below : List Frame} {meth : Method} {c : Code} {D : va_G} {ad : Nat → Nat} {cA : Nat → ClassId} {b L : Nat} {xs : Nat → Int32} {i : Nat} (C : lwC p s m meth c D ad cA b L xs) (hi : i + 5 < L) (nx : lwN p l e s m below meth c D ad cA b i) {s' : Nat → Int32} {a : Nat → Nat → Int32} {w : Bool} {t : Nat → Int32} {b' : Nat → Nat → Int32} {u : Nat → Int64} {c' : Nat → Nat → Int64} (hI : Inv s' a w t b' u) : lwW p l e s m below meth c D ad cA b 1028 i [] (HX s' a w ++ HM t b' u c') := by
  have hT := L_land ((xs (i + 1))) s' a w t b' u c' hI
  refine lw_x C (by decide +kernel) ?_
  refine lw_arg 1 C hi (by decide) (by decide +kernel) ?_
  refine lw_call (idx := 124) (j := 102) (r0 := 0) (f := 3) (w := 65) (mx := 2) (av := [.int (xs (i + 1))]) (rest := []) C (Or.inl ⟨rfl, rfl⟩) rfl (by decide +kernel) lk8_land lj8 lin8_land lse8_land ldd8_land (by decide) (by decide) (by decide) hT (fun r h1 hT1 => ?_)
  rw [List.append_nil]
  refine lw_y C (by decide +kernel) ?_
  refine lw_arg 1 C hi (by decide) (by decide +kernel) ?_
  refine lw_call (idx := 127) (j := 155) (r0 := 56) (f := 2) (w := 45) (mx := 5) (av := [.int (xs (i + 1))]) (rest := (r.map (zv ad)).toList) C (Or.inr ⟨rfl, rfl⟩) rfl (by decide +kernel) lk9_land lj9 lin9_land lse9_land ldd9_land (by decide) (by decide) lw_cat hT1 (fun r2 h2 hT2 => ?_)
  obtain ⟨v, rfl, rfl, s2, a2, w2, t2, b2, u2, c2, rfl, hI2⟩ := hT2
  exact lw_cmp (off := 41) C (by decide +kernel) (by decide) (nx s2 a2 w2 t2 b2 u2 c2 hI2)
theorem lk8_count : Cond.methodLink R_law 128 yX8_count ∈ ztb := zt_4 101 rfl rfl
theorem lin8_count : Cond.instanceMethod yX8_count ∈ ztb := zt_4 102 rfl rfl
theorem lse8_count : Cond.selects RX8 yX8_count yX8_count ∈ ztb := zt_4 103 rfl rfl
theorem ldd8_count : yX8_count.cls ≠ "java/lang/invoke/MethodHandle" ∧ yX8_count.cls ≠ "java/lang/invoke/VarHandle" ∧ (parseMethodDescriptor yX8_count.desc).map (fun d => d.parameters.length) = some 1 := by decide +kernel
theorem lk9_count : Cond.methodLink R_law 131 yX9_count ∈ ztb := zt_6 103 rfl rfl
theorem lin9_count : Cond.instanceMethod yX9_count ∈ ztb := zt_6 104 rfl rfl
theorem lse9_count : Cond.selects RX9 yX9_count yX9_count ∈ ztb := zt_6 105 rfl rfl
theorem ldd9_count : yX9_count.cls ≠ "java/lang/invoke/MethodHandle" ∧ yX9_count.cls ≠ "java/lang/invoke/VarHandle" ∧ (parseMethodDescriptor yX9_count.desc).map (fun d => d.parameters.length) = some 1 := by decide +kernel
set_option maxRecDepth 100000 in
set_option maxHeartbeats 4000000 in
theorem lw_count {p : Program} {l : Launch} {e : Env} {s : State} {m : MethodId} {below : List Frame} {meth : Method} {c : Code} {D : va_G} {ad : Nat → Nat} {cA : Nat → ClassId} {b L : Nat} {xs : Nat → Int32} {i : Nat} (C : lwC p s m meth c D ad cA b L xs) (hi : i + 5 < L) (nx : lwN p l e s m below meth c D ad cA b i) {s' : Nat → Int32} {a : Nat → Nat → Int32} {w : Bool} {t : Nat → Int32} {b' : Nat → Nat → Int32} {u : Nat → Int64} {c' : Nat → Nat → Int64} (hI : Inv s' a w t b' u) : lwW p l e s m below meth c D ad cA b 1051 i [] (HX s' a w ++ HM t b' u c') := by
  have hT := L_count ((xs (i + 1))) s' a w t b' u c' hI
  refine lw_x C (by decide +kernel) ?_
  refine lw_arg 1 C hi (by decide) (by decide +kernel) ?_
  refine lw_call (idx := 128) (j := 103) (r0 := 0) (f := 0) (w := 0) (mx := 2) (av := [.int (xs (i + 1))]) (rest := []) C (Or.inl ⟨rfl, rfl⟩) rfl (by decide +kernel) lk8_count lj8 lin8_count lse8_count ldd8_count (by decide) (by decide) (by decide) hT (fun r h1 hT1 => ?_)
  rw [List.append_nil]
  refine lw_y C (by decide +kernel) ?_
  refine lw_arg 1 C hi (by decide) (by decide +kernel) ?_
  refine lw_call (idx := 131) (j := 156) (r0 := 56) (f := 0) (w := 0) (mx := 4) (av := [.int (xs (i + 1))]) (rest := (r.map (zv ad)).toList) C (Or.inr ⟨rfl, rfl⟩) rfl (by decide +kernel) lk9_count lj9 lin9_count lse9_count ldd9_count (by decide) (by decide) lw_cat hT1 (fun r2 h2 hT2 => ?_)
  obtain ⟨v, rfl, rfl, s2, a2, w2, t2, b2, u2, c2, rfl, hI2⟩ := hT2
  exact lw_cmp (off := 18) C (by decide +kernel) (by decide) (nx s2 a2 w2 t2 b2 u2 c2 hI2)
theorem lk8_status : Cond.methodLink R_law 132 yX8_status ∈ ztb := zt_4 105 rfl rfl
theorem lin8_status : Cond.instanceMethod yX8_status ∈ ztb := zt_4 106 rfl rfl
theorem lse8_status : Cond.selects RX8 yX8_status yX8_status ∈ ztb := zt_4 107 rfl rfl
theorem ldd8_status : yX8_status.cls ≠ "java/lang/invoke/MethodHandle" ∧ yX8_status.cls ≠ "java/lang/invoke/VarHandle" ∧ (parseMethodDescriptor yX8_status.desc).map (fun d => d.parameters.length) = some 0 := by decide +kernel
theorem lk9_status : Cond.methodLink R_law 135 yX9_status ∈ ztb := zt_6 107 rfl rfl
theorem lin9_status : Cond.instanceMethod yX9_status ∈ ztb := zt_6 108 rfl rfl
theorem lse9_status : Cond.selects RX9 yX9_status yX9_status ∈ ztb := zt_6 109 rfl rfl
theorem ldd9_status : yX9_status.cls ≠ "java/lang/invoke/MethodHandle" ∧ yX9_status.cls ≠ "java/lang/invoke/VarHandle" ∧ (parseMethodDescriptor yX9_status.desc).map (fun d => d.parameters.length) = some 0 := by decide +kernel
set_option maxRecDepth 100000 in
set_option maxHeartbeats 4000000 in
theorem lw_status {p : Program} {l : Launch} {e : Env} {s : State} {m : MethodId} {below : List Frame} {meth : Method} {c : Code} {D : va_G} {ad : Nat → Nat} {cA : Nat → ClassId} {b L : Nat} {xs : Nat → Int32} {i : Nat} (C : lwC p s m meth c D ad cA b L xs) (hi : i + 5 < L) (nx : lwN p l e s m below meth c D ad cA b i) {s' : Nat → Int32} {a : Nat → Nat → Int32} {w : Bool} {t : Nat → Int32} {b' : Nat → Nat → Int32} {u : Nat → Int64} {c' : Nat → Nat → Int64} (hI : Inv s' a w t b' u) : lwW p l e s m below meth c D ad cA b 1074 i [] (HX s' a w ++ HM t b' u c') := by
  have hT := L_status  s' a w t b' u c' hI
  refine lw_x C (by decide +kernel) ?_
  refine lw_call (idx := 132) (j := 104) (r0 := 0) (f := 0) (w := 0) (mx := 1) (av := []) (rest := []) C (Or.inl ⟨rfl, rfl⟩) rfl (by decide +kernel) lk8_status lj8 lin8_status lse8_status ldd8_status (by decide) (by decide) (by decide) hT (fun r h1 hT1 => ?_)
  rw [List.append_nil]
  refine lw_y C (by decide +kernel) ?_
  refine lw_call (idx := 135) (j := 157) (r0 := 56) (f := 0) (w := 0) (mx := 1) (av := []) (rest := (r.map (zv ad)).toList) C (Or.inr ⟨rfl, rfl⟩) rfl (by decide +kernel) lk9_status lj9 lin9_status lse9_status ldd9_status (by decide) (by decide) lw_cat hT1 (fun r2 h2 hT2 => ?_)
  obtain ⟨v, rfl, rfl, s2, a2, w2, t2, b2, u2, c2, rfl, hI2⟩ := hT2
  exact lw_cmp (off := 5) C (by decide +kernel) (by decide) (nx s2 a2 w2 t2 b2 u2 c2 hI2)
