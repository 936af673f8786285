/-! THE LAW: its loop (generated: wip/gen/p86.py) -/
theorem lw_d33 : decode code 33 = .ok (.tableswitch 1054 0 28 #[131, 210, 243, 286, 319, 352, 375, 398, 431, 464, 487, 520, 543, 586, 639, 652, 685, 748, 771, 784, 797, 840, 873, 906, 929, 962, 995, 1018, 1041], 131) := by decide +kernel
theorem lw_d18 : decode code 18 = .ok (.iload_n 3, 1) := by decide +kernel
theorem lw_d19 : decode code 19 = .ok (.aload_n 0, 1) := by decide +kernel
theorem lw_d20 : decode code 20 = .ok (.arraylength, 1) := by decide +kernel
theorem lw_d21 : decode code 21 = .ok (.bipush 6, 2) := by decide +kernel
theorem lw_d23 : decode code 23 = .ok (.isub, 1) := by decide +kernel
theorem lw_d24 : decode code 24 = .ok (.if_icmp .gt 1069, 3) := by decide +kernel
theorem lw_d27 : decode code 27 = .ok (.aload_n 0, 1) := by decide +kernel
theorem lw_d28 : decode code 28 = .ok (.iload_n 3, 1) := by decide +kernel
theorem lw_d29 : decode code 29 = .ok (.iaload, 1) := by decide +kernel
theorem lw_d30 : decode code 30 = .ok (.bipush 31, 2) := by decide +kernel
theorem lw_d32 : decode code 32 = .ok (.iand, 1) := by decide +kernel
theorem lw_d1087 : decode code 1087 = .ok (.iinc 3 6, 3) := by decide +kernel
theorem lw_d1090 : decode code 1090 = .ok (.goto (-1072), 3) := by decide +kernel
theorem lw_d1093 : decode code 1093 = .ok (.iconst 1, 1) := by decide +kernel
theorem lw_d1094 : decode code 1094 = .ok (.ireturn, 1) := by decide +kernel
theorem lw_31 (x : Int32) : ∃ n : Nat, n < 32 ∧ x &&& 31 = nI n := by
  refine ⟨(x.toBitVec &&& 31#32).toNat, ?_, ?_⟩
  · rw [BitVec.toNat_and]
    exact Nat.lt_of_le_of_lt Nat.and_le_right (by decide)
  · apply Int32.toBitVec_inj.mp
    rw [Int32.toBitVec_and]
    show x.toBitVec &&& 31#32 = BitVec.ofNat 32 _
    rw [BitVec.ofNat_toNat, BitVec.setWidth_eq]
theorem lw_6 {i L : Nat} (hL : L ≤ 3072) (hi : i ≤ L) (h : ¬ nI L - 6 < nI i) : i + 5 < L := by
  rcases Nat.lt_or_ge L 6 with h6 | h6
  · exfalso
    refine h (Int32.lt_of_lt_of_le ?_ (nI_pos' (show i < 2 ^ 31 by omega)))
    have : ∀ L, L < 6 → nI L - 6 < 0 := by decide +kernel
    exact this L h6
  · rw [show (6 : Int32) = nI 6 from rfl, nI_sb h6, nI_ltI (by omega) (by omega)] at h
    omega
section LLOOP
variable {p : Program} {l : Launch} {e : Env} {s : State} {m : MethodId} {below : List Frame} {meth : Method} {c : Code} {D : va_G} {ad : Nat → Nat} {cA : Nat → ClassId} {b L : Nat} {xs : Nat → Int32}
set_option maxRecDepth 100000 in
set_option maxHeartbeats 4000000 in
theorem lw_switch {i : Nat} (C : lwC p s m meth c D ad cA b L xs) (hi : i + 5 < L) (nx : lwN p l e s m below meth c D ad cA b i) {s' : Nat → Int32} {a : Nat → Nat → Int32} {w : Bool} {t : Nat → Int32} {b' : Nat → Nat → Int32} {u : Nat → Int64} {c' : Nat → Nat → Int64} (hI : Inv s' a w t b' u) (n : Nat) (hn : n < 32) : lwW p l e s m below meth c D ad cA b 33 i [.int (nI n)] (HX s' a w ++ HM t b' u c') := by
  intro H locs ls hP hl0 h0 h1 hS hl
  match n, hn with
  | 0, _ => exact lv_tableIn (off := 131) (tgt := 164) C.1.1 C.1.2.1 lw_d33 (by decide) (by decide) rfl (by decide) (lw_weather C hi nx hI H locs ls hP hl0 h0 h1 hS hl)
  | 1, _ => exact lv_tableIn (off := 210) (tgt := 243) C.1.1 C.1.2.1 lw_d33 (by decide) (by decide) rfl (by decide) (lw_hour C hi nx hI H locs ls hP hl0 h0 h1 hS hl)
  | 2, _ => exact lv_tableIn (off := 243) (tgt := 276) C.1.1 C.1.2.1 lw_d33 (by decide) (by decide) rfl (by decide) (lw_engine C hi nx hI H locs ls hP hl0 h0 h1 hS hl)
  | 3, _ => exact lv_tableIn (off := 286) (tgt := 319) C.1.1 C.1.2.1 lw_d33 (by decide) (by decide) rfl (by decide) (lw_mill C hi nx hI H locs ls hP hl0 h0 h1 hS hl)
  | 4, _ => exact lv_tableIn (off := 319) (tgt := 352) C.1.1 C.1.2.1 lw_d33 (by decide) (by decide) rfl (by decide) (lw_demand C hi nx hI H locs ls hP hl0 h0 h1 hS hl)
  | 5, _ => exact lv_tableIn (off := 352) (tgt := 385) C.1.1 C.1.2.1 lw_d33 (by decide) (by decide) rfl (by decide) (lw_on C hi nx hI H locs ls hP hl0 h0 h1 hS hl)
  | 6, _ => exact lv_tableIn (off := 375) (tgt := 408) C.1.1 C.1.2.1 lw_d33 (by decide) (by decide) rfl (by decide) (lw_plan C hi nx hI H locs ls hP hl0 h0 h1 hS hl)
  | 7, _ => exact lv_tableIn (off := 398) (tgt := 431) C.1.1 C.1.2.1 lw_d33 (by decide) (by decide) rfl (by decide) (lw_planned C hi nx hI H locs ls hP hl0 h0 h1 hS hl)
  | 8, _ => exact lv_tableIn (off := 431) (tgt := 464) C.1.1 C.1.2.1 lw_d33 (by decide) (by decide) rfl (by decide) (lw_box C hi nx hI H locs ls hP hl0 h0 h1 hS hl)
  | 9, _ => exact lv_tableIn (off := 464) (tgt := 497) C.1.1 C.1.2.1 lw_d33 (by decide) (by decide) rfl (by decide) (lw_take C hi nx hI H locs ls hP hl0 h0 h1 hS hl)
  | 10, _ => exact lv_tableIn (off := 487) (tgt := 520) C.1.1 C.1.2.1 lw_d33 (by decide) (by decide) rfl (by decide) (lw_stack C hi nx hI H locs ls hP hl0 h0 h1 hS hl)
  | 11, _ => exact lv_tableIn (off := 520) (tgt := 553) C.1.1 C.1.2.1 lw_d33 (by decide) (by decide) rfl (by decide) (lw_person C hi nx hI H locs ls hP hl0 h0 h1 hS hl)
  | 12, _ => exact lv_tableIn (off := 543) (tgt := 576) C.1.1 C.1.2.1 lw_d33 (by decide) (by decide) rfl (by decide) (lw_ill C hi nx hI H locs ls hP hl0 h0 h1 hS hl)
  | 13, _ => exact lv_tableIn (off := 586) (tgt := 619) C.1.1 C.1.2.1 lw_d33 (by decide) (by decide) rfl (by decide) (lw_work C hi nx hI H locs ls hP hl0 h0 h1 hS hl)
  | 14, _ => exact lv_tableIn (off := 639) (tgt := 672) C.1.1 C.1.2.1 lw_d33 (by decide) (by decide) rfl (by decide) (lw_schedule C hi nx hI H locs ls hP hl0 h0 h1 hS hl)
  | 15, _ => exact lv_tableIn (off := 652) (tgt := 685) C.1.1 C.1.2.1 lw_d33 (by decide) (by decide) rfl (by decide) (lw_begins C hi nx hI H locs ls hP hl0 h0 h1 hS hl)
  | 16, _ => exact lv_tableIn (off := 685) (tgt := 718) C.1.1 C.1.2.1 lw_d33 (by decide) (by decide) rfl (by decide) (lw_feed C hi nx hI H locs ls hP hl0 h0 h1 hS hl)
  | 17, _ => exact lv_tableIn (off := 748) (tgt := 781) C.1.1 C.1.2.1 lw_d33 (by decide) (by decide) rfl (by decide) (lw_end C hi nx hI H locs ls hP hl0 h0 h1 hS hl)
  | 18, _ => exact lv_tableIn (off := 771) (tgt := 804) C.1.1 C.1.2.1 lw_d33 (by decide) (by decide) rfl (by decide) (lw_rules C hi nx hI H locs ls hP hl0 h0 h1 hS hl)
  | 19, _ => exact lv_tableIn (off := 784) (tgt := 817) C.1.1 C.1.2.1 lw_d33 (by decide) (by decide) rfl (by decide) (lw_fault C hi nx hI H locs ls hP hl0 h0 h1 hS hl)
  | 20, _ => exact lv_tableIn (off := 797) (tgt := 830) C.1.1 C.1.2.1 lw_d33 (by decide) (by decide) rfl (by decide) (lw_radio C hi nx hI H locs ls hP hl0 h0 h1 hS hl)
  | 21, _ => exact lv_tableIn (off := 840) (tgt := 873) C.1.1 C.1.2.1 lw_d33 (by decide) (by decide) rfl (by decide) (lw_message C hi nx hI H locs ls hP hl0 h0 h1 hS hl)
  | 22, _ => exact lv_tableIn (off := 873) (tgt := 906) C.1.1 C.1.2.1 lw_d33 (by decide) (by decide) rfl (by decide) (lw_fail C hi nx hI H locs ls hP hl0 h0 h1 hS hl)
  | 23, _ => exact lv_tableIn (off := 906) (tgt := 939) C.1.1 C.1.2.1 lw_d33 (by decide) (by decide) rfl (by decide) (lw_go C hi nx hI H locs ls hP hl0 h0 h1 hS hl)
  | 24, _ => exact lv_tableIn (off := 929) (tgt := 962) C.1.1 C.1.2.1 lw_d33 (by decide) (by decide) rfl (by decide) (lw_sent C hi nx hI H locs ls hP hl0 h0 h1 hS hl)
  | 25, _ => exact lv_tableIn (off := 962) (tgt := 995) C.1.1 C.1.2.1 lw_d33 (by decide) (by decide) rfl (by decide) (lw_arrived C hi nx hI H locs ls hP hl0 h0 h1 hS hl)
  | 26, _ => exact lv_tableIn (off := 995) (tgt := 1028) C.1.1 C.1.2.1 lw_d33 (by decide) (by decide) rfl (by decide) (lw_land C hi nx hI H locs ls hP hl0 h0 h1 hS hl)
  | 27, _ => exact lv_tableIn (off := 1018) (tgt := 1051) C.1.1 C.1.2.1 lw_d33 (by decide) (by decide) rfl (by decide) (lw_count C hi nx hI H locs ls hP hl0 h0 h1 hS hl)
  | 28, _ => exact lv_tableIn (off := 1041) (tgt := 1074) C.1.1 C.1.2.1 lw_d33 (by decide) (by decide) rfl (by decide) (lw_status C hi nx hI H locs ls hP hl0 h0 h1 hS hl)
  | 29, _ => exact lv_tableOut (tgt := 1087) C.1.1 C.1.2.1 lw_d33 (by decide) (by decide) (nx s' a w t b' u c' hI H locs ls hP hl0 h0 h1 hS hl)
  | 30, _ => exact lv_tableOut (tgt := 1087) C.1.1 C.1.2.1 lw_d33 (by decide) (by decide) (nx s' a w t b' u c' hI H locs ls hP hl0 h0 h1 hS hl)
  | 31, _ => exact lv_tableOut (tgt := 1087) C.1.1 C.1.2.1 lw_d33 (by decide) (by decide) (nx s' a w t b' u c' hI H locs ls hP hl0 h0 h1 hS hl)
  | n + 32, hn => omega
theorem lw_next {i : Nat} {S : List Value} {h : zH} (C : lwC p s m meth c D ad cA b L xs) (kk : lwW p l e s m below meth c D ad cA b 18 (i + 6) S h) : lwW p l e s m below meth c D ad cA b 1087 i S h := by
  intro H locs ls hP hn h0 h1 hS hl
  refine lv_iinc (v := nI (i + 6)) (lv' := [(3, .int (nI (i + 6))), (0, .ref b), (1, .ref (ad 0)), (2, .ref (ad 56))]) C.1.1 C.1.2.1 lw_d1087 hl (k := 3) rfl (by rw [← nI_add]; rfl) (by decide) rfl (fun ls hl => ?_)
  exact lv_goto (tgt := 18) C.1.1 C.1.2.1 lw_d1090 (by decide) (kk H locs ls hP hn h0 h1 hS (lv_sub hl [1, 2, 3, 0] rfl))
set_option maxRecDepth 100000 in
set_option maxHeartbeats 4000000 in
theorem lw_loop (C : lwC p s m meth c D ad cA b L xs) : ∀ (n i : Nat), L + 1 ≤ i + n → i ≤ L → ∀ (s' : Nat → Int32) (a : Nat → Nat → Int32) (w : Bool) (t : Nat → Int32) (b' : Nat → Nat → Int32) (u : Nat → Int64) (c' : Nat → Nat → Int64), Inv s' a w t b' u → lwW p l e s m below meth c D ad cA b 18 i [] (HX s' a w ++ HM t b' u c') := by
  intro n
  induction n with
  | zero =>
    intro i h1 h2
    omega
  | succ n ih =>
    intro i h1 h2 s' a w t b' u c' hI H locs ls hP hn hO0 hO1 hS hl
    have hL := C.2.2.2
    obtain ⟨hx, hb, hr, hml, hown, hts, hX, hbl, hlocks, hgv⟩ := C.2.1
    refine lv_iload_n hx hb lw_d18 rfl (lv_at hl 3 rfl) ?_
    refine lv_aload_n hx hb lw_d19 rfl (lv_at hl 0 rfl) ?_
    refine va_slen hx hb hX hbl (lwC_b C) hS lw_d20 ?_
    refine lv_bipush (v := 6) hx hb lw_d21 (by decide) ?_
    refine lv_isub hx hb lw_d23 ?_
    refine lv_icmp_gt (tgt := 1093) hx hb lw_d24 (by decide) (fun _ => ?_) (fun hc => ?_)
    · refine lv_iconst (v := 1) hx hb lw_d1093 (by decide) ?_
      refine va_forget (fun q hq => ?_) ?_
      · obtain ⟨j, hj, e⟩ := hS.2.2 q hq
        rw [e]
        exact C.2.2.1 j hj
      · exact lw_ret hx hb hr hlocks lw_d1094
    · have hi : i + 5 < L := lw_6 hL h2 hc
      refine lv_aload_n hx hb lw_d27 rfl (lv_at hl 0 rfl) ?_
      refine lv_iload_n hx hb lw_d28 rfl (lv_at hl 3 rfl) ?_
      refine va_sld hx hb hX hbl (lwC_b C) hS (vp_in_nI (show i < L by omega) (by omega)) lw_d29 ?_
      refine lv_bipush (v := 31) hx hb lw_d30 (by decide) ?_
      refine lv_iand hx hb lw_d32 ?_
      obtain ⟨n31, hn31, e31⟩ := lw_31 (xs (nI i).toNatClampNeg)
      rw [e31]
      exact lw_switch C hi (fun s' a w t b' u c' hI => lw_next C (ih (i + 6) (by omega) (by omega) s' a w t b' u c' hI)) hI n31 hn31 H locs ls hP hn hO0 hO1 hS hl
end LLOOP
