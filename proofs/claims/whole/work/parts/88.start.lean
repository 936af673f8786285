/-! THE START: both sides go together; the law from its entry -/
set_option maxRecDepth 100000 in
set_option maxHeartbeats 4000000 in
theorem Inv_start : Inv zs0 za false zt0 za zu0 := by
  refine ⟨⟨rfl, rfl, rfl, by decide, by decide⟩, fun h _ => ⟨⟨(by decide : (0 : Int) ≤ (0 : Int32).toInt), (by decide : (0 : Int32).toInt ≤ (60 : Int))⟩, Or.inl rfl, ⟨(by decide : (-90 : Int) ≤ (0 : Int32).toInt), (by decide : (0 : Int32).toInt ≤ (20 : Int))⟩, (by decide : (0 : Int32) = zpk 0 0 0)⟩, ?_, Or.inl ⟨rfl, rfl⟩, ?_, ?_, ?_, ?_, ?_, ?_⟩
  · refine ⟨rfl, rfl, rfl, rfl, fun i _ => ⟨(by decide : (0 : Int) ≤ (0 : Int32).toInt), (by decide : (0 : Int32).toInt ≤ (1000 : Int))⟩, fun i _ => ⟨(by decide : (0 : Int) ≤ (0 : Int32).toInt), (by decide : (0 : Int32).toInt ≤ (10000 : Int))⟩, 0, by decide, by decide, ⟨0, by decide, by decide⟩, fun e h => absurd h (Nat.not_lt_zero e), fun st _ => ⟨rfl, rfl, rfl⟩⟩
  · exact ⟨rfl, rfl, rfl, fun j _ => ⟨(by decide : (0 : Int) ≤ (0 : Int32).toInt), (by decide : (0 : Int32).toInt ≤ (12 : Int))⟩, by decide⟩
  · refine ⟨⟨rfl, rfl, rfl, rfl⟩, ⟨rfl, rfl, rfl, rfl, rfl, rfl, rfl, rfl, rfl, rfl⟩, by decide, by decide, by decide, by decide, fun i h => ?_, fun i h => ?_, fun i h => ?_⟩
    · have h : (i : Int) < (0 : Int32).toInt := h
      have h0 : (0 : Int32).toInt = 0 := by decide
      omega
    · have h : (i : Int) < (0 : Int32).toInt := h
      have h0 : (0 : Int32).toInt = 0 := by decide
      omega
    · have h : (i : Int) < (0 : Int32).toInt := h
      have h0 : (0 : Int32).toInt = 0 := by decide
      omega
  · exact ⟨rfl, by decide, by decide, fun i => ⟨⟨(by decide : (0 : Int) ≤ (0 : Int32).toInt), (by decide : (0 : Int32).toInt ≤ (255 : Int))⟩, (by decide : (0 : Int32) = (0 : Int32).toInt8.toInt32)⟩⟩
  · intro _
    refine ⟨⟨rfl, rfl, rfl, rfl⟩, by decide, by decide, by decide, 0, fun _ => 0, by decide, by decide, rfl, fun k _ => ⟨(by decide : (0 : Int32) = nI 0), Nat.zero_le _⟩, fun k h => absurd h (Nat.not_lt_zero k), fun j h => absurd h (Nat.not_lt_zero j)⟩
  · intro h
    cases h
  · refine ⟨⟨rfl, rfl, rfl, rfl, rfl, rfl⟩, ⟨rfl, rfl, rfl, rfl, rfl, rfl, rfl⟩, by decide, by decide, by decide, by decide, fun i h => ?_, fun i h => ?_, fun m _ _ => rfl, fun h _ => ⟨(by decide : (0 : Int) ≤ (0 : Int32).toInt), (by decide : (0 : Int32).toInt ≤ (0 : Int32).toInt), fun _ => rfl⟩, 0, by decide, ?_, fun g h => absurd h (Nat.not_lt_zero g), fun m h hm => ?_⟩
    · have h : (i : Int) < (0 : Int32).toInt := h
      have h0 : (0 : Int32).toInt = 0 := by decide
      omega
    · have h : (i : Int) < (0 : Int32).toInt := h
      have h0 : (0 : Int32).toInt = 0 := by decide
      omega
    · decide
    · have hm : (m : Int) < (0 : Int32).toInt := hm
      have h0 : (0 : Int32).toInt = 0 := by decide
      omega
theorem zlen104 {s : Nat → Int32} {a : Nat → Nat → Int32} {w : Bool} {t : Nat → Int32} {b : Nat → Nat → Int32} {u : Nat → Int64} {c : Nat → Nat → Int64} : (HX s a w ++ HM t b u c).length = 104 := rfl
section LSTART
variable {p : Program} {e : Env} {s : State} {m : MethodId} {below : List Frame} {meth : Method} {c : Code}
set_option maxRecDepth 100000 in
set_option maxHeartbeats 4000000 in
/-- THE LAW, from its entry -/
theorem whole_start (l : Launch) {b L : Nat} {xs : Nat → Int32} (hL : L ≤ 3072) (C0 : lw_At p s m meth c b L xs) : W p l e room_1 s m #[Value.ref b] below meth c s.heap [] 0 0 (lw_Z below #[Value.ref b] s) (entryFrame m ([Value.ref b] : List Value).toArray 4) := by
  obtain ⟨hx, hb, hr, hml, hown, hts0, hX, hbl, hlocks, hgv⟩ := id C0
  have hWd : zWd s := zWd_of hts0
  have hts : ∀ w ∈ ztb, w.before #[Value.ref b] s = true := fun w hw => hts0 w (zq_t hw)
  obtain ⟨D, cA, hK⟩ := kcls_of hts0
  obtain ⟨adK, adV, hSt⟩ := zSt_of hts0 hgv
  have hA : ∀ q : Nat, s.heap.size ≤ q → (fun q : Nat => s.heap.size ≤ q) q := fun _ h => h
  have hS : va_S (fun q : Nat => s.heap.size ≤ q) s.heap s.heap [] := va_S.rf
  have hP : va_P D vwCl [] s.heap := fun k q h => by simp at h
  have hD : va_D (fun q : Nat => s.heap.size ≤ q) [] := ⟨fun i j p q h => by simp at h, fun k q h => by simp at h⟩
  have hl := lv_entry ([.ref b]) (n := 4) (Nat.le_of_ble_eq_true rfl)
  rw [lg_entry_eq]
  generalize (lg_sl ([.ref b]) ++ List.replicate (4 - (lg_sl ([.ref b])).length) Slot.unset).toArray = ls at hl ⊢
  have hl : lv_has ls 4 [(0, .ref b)] := hl
  obtain ⟨hws8, hty8, -⟩ := z_cls 8 _ rfl
  obtain ⟨hws9, hty9, -⟩ := z_cls 9 _ rfl
  refine va_new (ci := 8) (fs := kf8) (C := RX8) (T := TX8) (N := 12) hx hb hts hws8 (ztyp 8) hty8 hown (hts _ (show Cond.classLink R_law 7 RX8 ∈ ztb from zt_1 18 rfl rfl)) (hts _ (show Cond.instantiable RX8 12 ∈ ztb from zt_1 19 rfl rfl)) (hts _ lj8) hK hP hD hS hA rfl (by decide +kernel) (Nat.le_of_ble_eq_true rfl) (Nat.le_of_ble_eq_true rfl) (show decode code 0 = .ok (.new 7, 3) by decide +kernel) (fun q1 H hP hD hS => ?_)
  refine lv_dup hx hb (show decode code 3 = .ok (.dup, 1) by decide +kernel) rfl ?_
  have hFc := va_free (wc := [(q1, .inr (8, kf8))]) hD hS hA [0] rfl
  have hPc : va_P D vwCl [(q1, .inr (8, kf8))] H := hP
  refine va_callv (va_runI (n := 0) (index := 9) (As := []) (rest := [.ref q1]) ⟨hx, hb, hml, hown, hts⟩ (km8 (l := l) (D := D) (cA := cA) (h0 := q1) (sz := H.size)) ⟨callB_of 0 hts (z_good (M := (yX8_init, cX8_init, 1, none, false, 0, 2, 32)) (show Cond.code yX8_init cX8_init 1 none ∈ ztb from zt_1 22 rfl rfl)) rfl rfl rfl (hts _ lj8) (hts _ (show Cond.methodLink R_law 9 yX8_init ∈ ztb from zt_1 20 rfl rfl)) (by decide +kernel) ⟨Nat.le_of_ble_eq_true rfl, Nat.le_of_ble_eq_true rfl⟩, rfl, hts _ (show Cond.instanceMethod yX8_init ∈ ztb from zt_1 21 rfl rfl)⟩ ⟨kPc_blind, fun U hU hW => ⟨rfl, zWd_warm hW hWd, va_K.moved hW.alike hK, by rw [hU], by rw [hU]; exact hPc⟩⟩ rfl rfl hl.1 rfl (lv_room (Nat.le_of_ble_eq_true rfl)) (show decode code 4 = .ok (.invokespecial 9, 3) by decide +kernel) ⟨Nat.le_of_ble_eq_true rfl, Nat.le_of_ble_eq_true rfl⟩) hS (fun q _ h => hFc q h) hFc (fun G t H1 locs ht hvm hw hB hz1 hk1 hS => ?_)
  obtain ⟨hP1, hD1⟩ := hB
  rw [ht] at hP1
  obtain ⟨hP, hD⟩ := va_join (wr := []) (w1 := kW8 cA q1 G) hP hD [0] [] rfl rfl (by decide) (by decide) hk1 hFc hP1 hD1
  rw [List.nil_append] at hP hD
  refine lv_astore_n (lv' := [(1, .ref q1), (0, .ref b)]) hx hb (show decode code 7 = .ok (.astore_n 1, 1) by decide +kernel) rfl hl (by decide) rfl (fun ls hl => ?_)
  refine va_new (ci := 9) (fs := kf9) (C := RX9) (T := TX9) (N := 82) hx hb hts hws9 (ztyp 9) hty9 hown (hts _ (show Cond.classLink R_law 10 RX9 ∈ ztb from zt_4 109 rfl rfl)) (hts _ (show Cond.instantiable RX9 82 ∈ ztb from zt_4 110 rfl rfl)) (hts _ lj9) hK hP hD hS hA rfl (by decide +kernel) (Nat.le_of_ble_eq_true rfl) (Nat.le_of_ble_eq_true rfl) (show decode code 8 = .ok (.new 10, 3) by decide +kernel) (fun q2 H2 hP hD hS => ?_)
  refine lv_dup hx hb (show decode code 11 = .ok (.dup, 1) by decide +kernel) rfl ?_
  have eC : [(kW8 cA q1 G).length].map (fun i => (kW8 cA q1 G ++ [(q2, .inr (9, kf9))])[i]?) = [(q2, (Sum.inr (9, kf9) : va_E))].map some := by simp
  have hPc : va_P D vwCl [(q2, .inr (9, kf9))] H2 := hP.sub [(kW8 cA q1 G).length] (by simp)
  have hFc := va_free (wc := [(q2, .inr (9, kf9))]) hD hS hA [(kW8 cA q1 G).length] eC
  refine va_callv (va_runI (n := 0) (index := 12) (As := []) (rest := [.ref q2]) ⟨hx, hb, hml, hown, hts⟩ (km9 (l := l) (D := D) (cA := cA) (h0 := q2) (sz := H2.size)) ⟨callB_of 0 hts (z_good (M := (yX9_init, cX9_init, 1, none, false, 0, 1, 12)) (show Cond.code yX9_init cX9_init 1 none ∈ ztb from zt_4 113 rfl rfl)) rfl rfl rfl (hts _ lj9) (hts _ (show Cond.methodLink R_law 12 yX9_init ∈ ztb from zt_4 111 rfl rfl)) (by decide +kernel) ⟨Nat.le_of_ble_eq_true rfl, Nat.le_of_ble_eq_true rfl⟩, rfl, hts _ (show Cond.instanceMethod yX9_init ∈ ztb from zt_4 112 rfl rfl)⟩ ⟨kPc_blind, fun U hU hW => ⟨rfl, zWd_warm hW hWd, va_K.moved hW.alike hK, by rw [hU], by rw [hU]; exact hPc⟩⟩ rfl rfl hl.1 rfl (lv_room (Nat.le_of_ble_eq_true rfl)) (show decode code 12 = .ok (.invokespecial 12, 3) by decide +kernel) ⟨Nat.le_of_ble_eq_true rfl, Nat.le_of_ble_eq_true rfl⟩) hS (fun q _ h => hFc q h) hFc (fun g t H3 locs ht hvm hw hB hz1 hk1 hS => ?_)
  obtain ⟨hP1, hD1⟩ := hB
  rw [ht] at hP1
  obtain ⟨hP, hD⟩ := va_join (wr := kW8 cA q1 G) (w1 := kW cA q2 9 ko9 kf9 g) hP hD [(kW8 cA q1 G).length] (List.range (kW8 cA q1 G).length) eC (k_isR _ _) (va_nd_of _ List.nodup_range) (fun i hi => by
    rw [List.mem_range] at hi
    rw [List.mem_singleton]
    omega) hk1 hFc hP1 hD1
  rw [← zw_start (adK := adK) (adV := adV)] at hP hD
  refine W.widen (k := 104) (n := 27566) (Nat.le_of_ble_eq_true rfl) (Nat.le_of_ble_eq_true rfl) ?_
  have e0 : zad q1 G q2 g adK adV 0 = q1 := rfl
  have e56 : zad q1 G q2 g adK adV 56 = q2 := rfl
  have hinj : zinj (zad q1 G q2 g adK adV) 104 := by
    intro i j hi hj e
    obtain ⟨ci, hci⟩ : ∃ x, (HX zs0 za false ++ HM zt0 za zu0 zc0)[i]? = some x := ⟨_, List.getElem?_eq_getElem (by rw [zlen104]; exact hi)⟩
    obtain ⟨cj, hcj⟩ : ∃ x, (HX zs0 za false ++ HM zt0 za zu0 zc0)[j]? = some x := ⟨_, List.getElem?_eq_getElem (by rw [zlen104]; exact hj)⟩
    exact hD.1 i j _ _ (zw_get hci) (zw_get hcj) e
  have hge : ∀ i, i < 104 → s.heap.size ≤ zad q1 G q2 g adK adV i := by
    intro i hi
    obtain ⟨ci, hci⟩ : ∃ x, (HX zs0 za false ++ HM zt0 za zu0 zc0)[i]? = some x := ⟨_, List.getElem?_eq_getElem (by rw [zlen104]; exact hi)⟩
    exact hD.2 i _ (zw_get hci)
  have hSt1 := hSt (zad q1 G q2 g adK adV) 104 (fun i hi => zad_K hi) hge
  have C : lwC p s m meth c D (zad q1 G q2 g adK adV) cA b L xs := ⟨⟨hx, hb, hml, hown, hWd, hK, hinj, hSt1, hlocks⟩, C0, hge, hL⟩
  obtain ⟨fs8, g8⟩ : ∃ fs, (HX zs0 za false ++ HM zt0 za zu0 zc0)[0]? = some (.inr (8, fs)) := ⟨_, rfl⟩
  obtain ⟨fs9, g9⟩ : ∃ fs, (HX zs0 za false ++ HM zt0 za zu0 zc0)[56]? = some (.inr (9, fs)) := ⟨_, rfl⟩
  have hO0 : lwO s RX8 (zad q1 G q2 g adK adV 0) H3 := va_recv hK hP (ci := 8) (q0 := 0) rfl (zw_get g8)
  have hO1 : lwO s RX9 (zad q1 G q2 g adK adV 56) H3 := va_recv hK hP (ci := 9) (q0 := 56) rfl (zw_get g9)
  rw [← e0] at hl
  refine lv_astore_n (lv' := [(2, .ref (zad q1 G q2 g adK adV 56)), (1, .ref (zad q1 G q2 g adK adV 0)), (0, .ref b)]) hx hb (show decode code 15 = .ok (.astore_n 2, 1) by decide +kernel) rfl hl (by decide) rfl (fun ls hl => ?_)
  refine lv_iconst (v := 0) hx hb (show decode code 16 = .ok (.iconst 0, 1) by decide +kernel) (by decide) ?_
  refine lv_istore_n (lv' := [(3, .int 0), (2, .ref (zad q1 G q2 g adK adV 56)), (1, .ref (zad q1 G q2 g adK adV 0)), (0, .ref b)]) hx hb (show decode code 17 = .ok (.istore_n 3, 1) by decide +kernel) rfl hl (by decide) rfl (fun ls hl => ?_)
  refine va_forget (fun q hq => hS.2.2 q hq) ?_
  have hS1 : va_S (zA (zad q1 G q2 g adK adV) 104) s.heap H3 [] := ⟨hS.1, fun q h1 _ => hS.2.1 q h1 (Nat.not_le.mpr h1), fun q h => by cases h⟩
  exact lw_loop C (L + 1) 0 (by omega) (Nat.zero_le L) zs0 za false zt0 za zu0 zc0 Inv_start H3 [] ls hP zlen104 hO0 hO1 hS1 (lv_sub hl [3, 2, 1, 0] rfl)
end LSTART
