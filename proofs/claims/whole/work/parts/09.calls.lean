/-! EVERY METHOD AT ONCE: what a call of method j does, d calls deep; a contract holds of each -/
/-- isWord: the String constant i against the bytes of a tape from p on to q -/
def zwordEq (i : Nat) (f : Nat → Int32) (p q : Nat) : Prop := zsl.getD i 0 = q - p ∧ ∀ k, k < q - p → f (p + k) = (zsb.getD i []).getD k 0
noncomputable def zwordB (i : Nat) (f : Nat → Int32) (p q : Nat) : Int32 := @ite _ (zwordEq i f p q) (Classical.propDecidable _) 1 0
def t_isWord : zT := fun av h Q => ∃ (i r b p q n : Nat) (len : Value) (f : Nat → Int32), av = [.ref (1000 + i), .ref r, .int (nI p), .int (nI q)] ∧ i < 8 ∧ h[r]? = some (.inr (7, [.ref b, len])) ∧ h[b]? = some (.inl (2, n, .inl f)) ∧ p ≤ q ∧ q ≤ n ∧ n < 2 ^ 31 ∧ Q (some (.int (zwordB i f p q))) h
def zcodes : List (List zE) := [kX8_within, kX0_addPerson, kX8_isHour, kX8_isSpan, kX0_addSpell, kX0_addWork, kX0_skilledFor, kJ6_bitCount_0f7a4, kX5_lightAt, kX5_coldAt, kX0_isWeatherFor, kX0_illDuring, kX0_busyAround, kX0_lowestOf, kX0_place, kX0_makeSchedule, kX0_ofWork, kX1_addEngine, kX1_setMill, kX1_setDemand, kX1_switchOn, kX5_windAt, kX1_millAt, kX3_testHolds, kX3_holds, kX3_rationAt, kX1_demandLeft, kX1_lackOf, kX1_weighSet, kX1_weighHour, kX1_keepPlan, kX1_makePlan, kX1_ofPlan, kX2_tune, kX2_addMessage, kX2_addFailure, kX2_isAllSent, kX2_sendPart, kX2_passHour, kX2_isMessage, kX2_ofMessage, kX2_hasArrived, kX3_clear, kX3_roomForTests, kX3_addRest, kX3_addCold, kX3_addTest, kX3_addIf, kX4_isLetter, kX4_isDigit, kX4_isSameRow, kX4_endOfToken, [], kX4_wordToken, kX4_numberToken, kX4_signToken, kX4_tokenOf, kX4_split, kX4_token, kX4_readTest, kX4_readIf, kX4_readRule, kX4_read, kX4_place, kX5_cover, kX5_isCalm, kX5_firstLanding, kX6_isStack, kX6_put, kX6_boxesAbove, kX6_removeBelow, kX6_takeOne, kX6_ofStack, kX7_hasRoom, kX7_append, kX8_answered, kX8_weather, kX8_hour, kX8_engine, kX8_mill, kX8_demand, kX8_on, kX8_plan, kX8_planned, kX8_box, kX8_take, kX8_stack, kX8_person, kX8_ill, kX8_work, kX8_schedule, kX8_begins, kX8_feed, kX8_end, kX8_rules, kX8_fault, kX8_radio, kX8_message, kX8_fail, kX8_go, kX8_sent, kX8_arrived, kX8_land, kX8_count, kX8_status, kX9_in, kX9_told, kX9_isHour, kX9_weather, kX9_isTrue, kX9_rationOf, kX9_demandOf, kX9_hour, kX9_engine, kX9_mill, kX9_demand, kX9_on, kX9_lackOf, kX9_fuelOf, kX9_plan, kX9_planned, kX9_isStack, kX9_box, kX9_above, kX9_take, kX9_stack, kX9_person, kX9_ill, kX9_work, kX9_isFree, kX9_whoAt, kX9_schedule, kX9_begins, kX9_four, kX9_feed, kX9_end, kX9_isSmall, kX9_isDigit, kX9_next, kX9_isWord, kX9_isSign, kX9_must, kX9_number, kX9_readTest, kX9_readRule, kX9_rules, kX9_fault, kX9_radio, kX9_message, kX9_fail, kX9_nextMessage, kX9_goHour, kX9_go, kX9_sent, kX9_arrived, kX9_land, kX9_count, kX9_status]
def zmx (j : Nat) : Nat := match zms[j]? with
  | some M => M.2.2.1
  | none => 0
def zG : Nat → Nat → zT
  | 0, _ => zF
  | d + 1, j => if j = 52 then t_isWord else fun av h Q => zaw av ≤ zmx j ∧ zRun (zcodes.getD j []) (zG d) Q 0 (zent (zmx j) av) [] h
def zonL : List Nat := [8, 0, 8, 8, 0, 0, 0, 10, 5, 5, 0, 0, 0, 0, 0, 0, 0, 1, 1, 1, 1, 5, 1, 3, 3, 3, 1, 1, 1, 1, 1, 1, 1, 2, 2, 2, 2, 2, 2, 2, 2, 2, 3, 3, 3, 3, 3, 3, 4, 4, 4, 4, 4, 4, 4, 4, 4, 4, 4, 4, 4, 4, 4, 4, 5, 5, 5, 6, 6, 6, 6, 6, 6, 7, 7, 8, 8, 8, 8, 8, 8, 8, 8, 8, 8, 8, 8, 8, 8, 8, 8, 8, 8, 8, 8, 8, 8, 8, 8, 8, 8, 8, 8, 8, 8, 9, 9, 9, 9, 9, 9, 9, 9, 9, 9, 9, 9, 9, 9, 9, 9, 9, 9, 9, 9, 9, 9, 9, 9, 9, 9, 9, 9, 9, 9, 9, 9, 9, 9, 9, 9, 9, 9, 9, 9, 9, 9, 9, 9, 9, 9, 9, 9, 9, 9, 9, 9, 9]
def zon (j : Nat) : Nat := zonL.getD j 0
def zAll (j : Nat) (M : zM) : Prop := j ≠ 52 → M.1.cls = zow (zon j) ∧ plainName M.1.cls = true ∧ (zcodes.getD j []).all (zok (zon j) M.2.1 M.2.2.1 M.2.2.2.2.2.2.1 M.2.2.2.2.2.2.2 M.2.2.2.1) = true
theorem zall_0 (M : zM) (h : zms[0]? = some M) : zAll 0 M := by cases h; exact fun _ => ⟨rfl, by decide, kX8_within_ok⟩
theorem zall_1 (M : zM) (h : zms[1]? = some M) : zAll 1 M := by cases h; exact fun _ => ⟨rfl, by decide, kX0_addPerson_ok⟩
theorem zall_2 (M : zM) (h : zms[2]? = some M) : zAll 2 M := by cases h; exact fun _ => ⟨rfl, by decide, kX8_isHour_ok⟩
theorem zall_3 (M : zM) (h : zms[3]? = some M) : zAll 3 M := by cases h; exact fun _ => ⟨rfl, by decide, kX8_isSpan_ok⟩
theorem zall_4 (M : zM) (h : zms[4]? = some M) : zAll 4 M := by cases h; exact fun _ => ⟨rfl, by decide, kX0_addSpell_ok⟩
theorem zall_5 (M : zM) (h : zms[5]? = some M) : zAll 5 M := by cases h; exact fun _ => ⟨rfl, by decide, kX0_addWork_ok⟩
theorem zall_6 (M : zM) (h : zms[6]? = some M) : zAll 6 M := by cases h; exact fun _ => ⟨rfl, by decide, kX0_skilledFor_ok⟩
theorem zall_7 (M : zM) (h : zms[7]? = some M) : zAll 7 M := by cases h; exact fun _ => ⟨rfl, by decide, kJ6_bitCount_0f7a4_ok⟩
theorem zall_8 (M : zM) (h : zms[8]? = some M) : zAll 8 M := by cases h; exact fun _ => ⟨rfl, by decide, kX5_lightAt_ok⟩
theorem zall_9 (M : zM) (h : zms[9]? = some M) : zAll 9 M := by cases h; exact fun _ => ⟨rfl, by decide, kX5_coldAt_ok⟩
theorem zall_10 (M : zM) (h : zms[10]? = some M) : zAll 10 M := by cases h; exact fun _ => ⟨rfl, by decide, kX0_isWeatherFor_ok⟩
theorem zall_11 (M : zM) (h : zms[11]? = some M) : zAll 11 M := by cases h; exact fun _ => ⟨rfl, by decide, kX0_illDuring_ok⟩
theorem zall_12 (M : zM) (h : zms[12]? = some M) : zAll 12 M := by cases h; exact fun _ => ⟨rfl, by decide, kX0_busyAround_ok⟩
theorem zall_13 (M : zM) (h : zms[13]? = some M) : zAll 13 M := by cases h; exact fun _ => ⟨rfl, by decide, kX0_lowestOf_ok⟩
theorem zall_14 (M : zM) (h : zms[14]? = some M) : zAll 14 M := by cases h; exact fun _ => ⟨rfl, by decide, kX0_place_ok⟩
theorem zall_15 (M : zM) (h : zms[15]? = some M) : zAll 15 M := by cases h; exact fun _ => ⟨rfl, by decide, kX0_makeSchedule_ok⟩
theorem zall_16 (M : zM) (h : zms[16]? = some M) : zAll 16 M := by cases h; exact fun _ => ⟨rfl, by decide, kX0_ofWork_ok⟩
theorem zall_17 (M : zM) (h : zms[17]? = some M) : zAll 17 M := by cases h; exact fun _ => ⟨rfl, by decide, kX1_addEngine_ok⟩
theorem zall_18 (M : zM) (h : zms[18]? = some M) : zAll 18 M := by cases h; exact fun _ => ⟨rfl, by decide, kX1_setMill_ok⟩
theorem zall_19 (M : zM) (h : zms[19]? = some M) : zAll 19 M := by cases h; exact fun _ => ⟨rfl, by decide, kX1_setDemand_ok⟩
theorem zall_20 (M : zM) (h : zms[20]? = some M) : zAll 20 M := by cases h; exact fun _ => ⟨rfl, by decide, kX1_switchOn_ok⟩
theorem zall_21 (M : zM) (h : zms[21]? = some M) : zAll 21 M := by cases h; exact fun _ => ⟨rfl, by decide, kX5_windAt_ok⟩
theorem zall_22 (M : zM) (h : zms[22]? = some M) : zAll 22 M := by cases h; exact fun _ => ⟨rfl, by decide, kX1_millAt_ok⟩
theorem zall_23 (M : zM) (h : zms[23]? = some M) : zAll 23 M := by cases h; exact fun _ => ⟨rfl, by decide, kX3_testHolds_ok⟩
theorem zall_24 (M : zM) (h : zms[24]? = some M) : zAll 24 M := by cases h; exact fun _ => ⟨rfl, by decide, kX3_holds_ok⟩
theorem zall_25 (M : zM) (h : zms[25]? = some M) : zAll 25 M := by cases h; exact fun _ => ⟨rfl, by decide, kX3_rationAt_ok⟩
theorem zall_26 (M : zM) (h : zms[26]? = some M) : zAll 26 M := by cases h; exact fun _ => ⟨rfl, by decide, kX1_demandLeft_ok⟩
theorem zall_27 (M : zM) (h : zms[27]? = some M) : zAll 27 M := by cases h; exact fun _ => ⟨rfl, by decide, kX1_lackOf_ok⟩
theorem zall_28 (M : zM) (h : zms[28]? = some M) : zAll 28 M := by cases h; exact fun _ => ⟨rfl, by decide, kX1_weighSet_ok⟩
theorem zall_29 (M : zM) (h : zms[29]? = some M) : zAll 29 M := by cases h; exact fun _ => ⟨rfl, by decide, kX1_weighHour_ok⟩
theorem zall_30 (M : zM) (h : zms[30]? = some M) : zAll 30 M := by cases h; exact fun _ => ⟨rfl, by decide, kX1_keepPlan_ok⟩
theorem zall_31 (M : zM) (h : zms[31]? = some M) : zAll 31 M := by cases h; exact fun _ => ⟨rfl, by decide, kX1_makePlan_ok⟩
theorem zall_32 (M : zM) (h : zms[32]? = some M) : zAll 32 M := by cases h; exact fun _ => ⟨rfl, by decide, kX1_ofPlan_ok⟩
theorem zall_33 (M : zM) (h : zms[33]? = some M) : zAll 33 M := by cases h; exact fun _ => ⟨rfl, by decide, kX2_tune_ok⟩
theorem zall_34 (M : zM) (h : zms[34]? = some M) : zAll 34 M := by cases h; exact fun _ => ⟨rfl, by decide, kX2_addMessage_ok⟩
theorem zall_35 (M : zM) (h : zms[35]? = some M) : zAll 35 M := by cases h; exact fun _ => ⟨rfl, by decide, kX2_addFailure_ok⟩
theorem zall_36 (M : zM) (h : zms[36]? = some M) : zAll 36 M := by cases h; exact fun _ => ⟨rfl, by decide, kX2_isAllSent_ok⟩
theorem zall_37 (M : zM) (h : zms[37]? = some M) : zAll 37 M := by cases h; exact fun _ => ⟨rfl, by decide, kX2_sendPart_ok⟩
theorem zall_38 (M : zM) (h : zms[38]? = some M) : zAll 38 M := by cases h; exact fun _ => ⟨rfl, by decide, kX2_passHour_ok⟩
theorem zall_39 (M : zM) (h : zms[39]? = some M) : zAll 39 M := by cases h; exact fun _ => ⟨rfl, by decide, kX2_isMessage_ok⟩
theorem zall_40 (M : zM) (h : zms[40]? = some M) : zAll 40 M := by cases h; exact fun _ => ⟨rfl, by decide, kX2_ofMessage_ok⟩
theorem zall_41 (M : zM) (h : zms[41]? = some M) : zAll 41 M := by cases h; exact fun _ => ⟨rfl, by decide, kX2_hasArrived_ok⟩
theorem zall_42 (M : zM) (h : zms[42]? = some M) : zAll 42 M := by cases h; exact fun _ => ⟨rfl, by decide, kX3_clear_ok⟩
theorem zall_43 (M : zM) (h : zms[43]? = some M) : zAll 43 M := by cases h; exact fun _ => ⟨rfl, by decide, kX3_roomForTests_ok⟩
theorem zall_44 (M : zM) (h : zms[44]? = some M) : zAll 44 M := by cases h; exact fun _ => ⟨rfl, by decide, kX3_addRest_ok⟩
theorem zall_45 (M : zM) (h : zms[45]? = some M) : zAll 45 M := by cases h; exact fun _ => ⟨rfl, by decide, kX3_addCold_ok⟩
theorem zall_46 (M : zM) (h : zms[46]? = some M) : zAll 46 M := by cases h; exact fun _ => ⟨rfl, by decide, kX3_addTest_ok⟩
theorem zall_47 (M : zM) (h : zms[47]? = some M) : zAll 47 M := by cases h; exact fun _ => ⟨rfl, by decide, kX3_addIf_ok⟩
theorem zall_48 (M : zM) (h : zms[48]? = some M) : zAll 48 M := by cases h; exact fun _ => ⟨rfl, by decide, kX4_isLetter_ok⟩
theorem zall_49 (M : zM) (h : zms[49]? = some M) : zAll 49 M := by cases h; exact fun _ => ⟨rfl, by decide, kX4_isDigit_ok⟩
theorem zall_50 (M : zM) (h : zms[50]? = some M) : zAll 50 M := by cases h; exact fun _ => ⟨rfl, by decide, kX4_isSameRow_ok⟩
theorem zall_51 (M : zM) (h : zms[51]? = some M) : zAll 51 M := by cases h; exact fun _ => ⟨rfl, by decide, kX4_endOfToken_ok⟩
theorem zall_52 (M : zM) (h : zms[52]? = some M) : zAll 52 M := fun q => absurd rfl q
theorem zall_53 (M : zM) (h : zms[53]? = some M) : zAll 53 M := by cases h; exact fun _ => ⟨rfl, by decide, kX4_wordToken_ok⟩
theorem zall_54 (M : zM) (h : zms[54]? = some M) : zAll 54 M := by cases h; exact fun _ => ⟨rfl, by decide, kX4_numberToken_ok⟩
theorem zall_55 (M : zM) (h : zms[55]? = some M) : zAll 55 M := by cases h; exact fun _ => ⟨rfl, by decide, kX4_signToken_ok⟩
theorem zall_56 (M : zM) (h : zms[56]? = some M) : zAll 56 M := by cases h; exact fun _ => ⟨rfl, by decide, kX4_tokenOf_ok⟩
theorem zall_57 (M : zM) (h : zms[57]? = some M) : zAll 57 M := by cases h; exact fun _ => ⟨rfl, by decide, kX4_split_ok⟩
theorem zall_58 (M : zM) (h : zms[58]? = some M) : zAll 58 M := by cases h; exact fun _ => ⟨rfl, by decide, kX4_token_ok⟩
theorem zall_59 (M : zM) (h : zms[59]? = some M) : zAll 59 M := by cases h; exact fun _ => ⟨rfl, by decide, kX4_readTest_ok⟩
theorem zall_60 (M : zM) (h : zms[60]? = some M) : zAll 60 M := by cases h; exact fun _ => ⟨rfl, by decide, kX4_readIf_ok⟩
theorem zall_61 (M : zM) (h : zms[61]? = some M) : zAll 61 M := by cases h; exact fun _ => ⟨rfl, by decide, kX4_readRule_ok⟩
theorem zall_62 (M : zM) (h : zms[62]? = some M) : zAll 62 M := by cases h; exact fun _ => ⟨rfl, by decide, kX4_read_ok⟩
theorem zall_63 (M : zM) (h : zms[63]? = some M) : zAll 63 M := by cases h; exact fun _ => ⟨rfl, by decide, kX4_place_ok⟩
theorem zall_64 (M : zM) (h : zms[64]? = some M) : zAll 64 M := by cases h; exact fun _ => ⟨rfl, by decide, kX5_cover_ok⟩
theorem zall_65 (M : zM) (h : zms[65]? = some M) : zAll 65 M := by cases h; exact fun _ => ⟨rfl, by decide, kX5_isCalm_ok⟩
theorem zall_66 (M : zM) (h : zms[66]? = some M) : zAll 66 M := by cases h; exact fun _ => ⟨rfl, by decide, kX5_firstLanding_ok⟩
theorem zall_67 (M : zM) (h : zms[67]? = some M) : zAll 67 M := by cases h; exact fun _ => ⟨rfl, by decide, kX6_isStack_ok⟩
theorem zall_68 (M : zM) (h : zms[68]? = some M) : zAll 68 M := by cases h; exact fun _ => ⟨rfl, by decide, kX6_put_ok⟩
theorem zall_69 (M : zM) (h : zms[69]? = some M) : zAll 69 M := by cases h; exact fun _ => ⟨rfl, by decide, kX6_boxesAbove_ok⟩
theorem zall_70 (M : zM) (h : zms[70]? = some M) : zAll 70 M := by cases h; exact fun _ => ⟨rfl, by decide, kX6_removeBelow_ok⟩
theorem zall_71 (M : zM) (h : zms[71]? = some M) : zAll 71 M := by cases h; exact fun _ => ⟨rfl, by decide, kX6_takeOne_ok⟩
theorem zall_72 (M : zM) (h : zms[72]? = some M) : zAll 72 M := by cases h; exact fun _ => ⟨rfl, by decide, kX6_ofStack_ok⟩
theorem zall_73 (M : zM) (h : zms[73]? = some M) : zAll 73 M := by cases h; exact fun _ => ⟨rfl, by decide, kX7_hasRoom_ok⟩
theorem zall_74 (M : zM) (h : zms[74]? = some M) : zAll 74 M := by cases h; exact fun _ => ⟨rfl, by decide, kX7_append_ok⟩
theorem zall_75 (M : zM) (h : zms[75]? = some M) : zAll 75 M := by cases h; exact fun _ => ⟨rfl, by decide, kX8_answered_ok⟩
theorem zall_76 (M : zM) (h : zms[76]? = some M) : zAll 76 M := by cases h; exact fun _ => ⟨rfl, by decide, kX8_weather_ok⟩
theorem zall_77 (M : zM) (h : zms[77]? = some M) : zAll 77 M := by cases h; exact fun _ => ⟨rfl, by decide, kX8_hour_ok⟩
theorem zall_78 (M : zM) (h : zms[78]? = some M) : zAll 78 M := by cases h; exact fun _ => ⟨rfl, by decide, kX8_engine_ok⟩
theorem zall_79 (M : zM) (h : zms[79]? = some M) : zAll 79 M := by cases h; exact fun _ => ⟨rfl, by decide, kX8_mill_ok⟩
theorem zall_80 (M : zM) (h : zms[80]? = some M) : zAll 80 M := by cases h; exact fun _ => ⟨rfl, by decide, kX8_demand_ok⟩
theorem zall_81 (M : zM) (h : zms[81]? = some M) : zAll 81 M := by cases h; exact fun _ => ⟨rfl, by decide, kX8_on_ok⟩
theorem zall_82 (M : zM) (h : zms[82]? = some M) : zAll 82 M := by cases h; exact fun _ => ⟨rfl, by decide, kX8_plan_ok⟩
theorem zall_83 (M : zM) (h : zms[83]? = some M) : zAll 83 M := by cases h; exact fun _ => ⟨rfl, by decide, kX8_planned_ok⟩
theorem zall_84 (M : zM) (h : zms[84]? = some M) : zAll 84 M := by cases h; exact fun _ => ⟨rfl, by decide, kX8_box_ok⟩
theorem zall_85 (M : zM) (h : zms[85]? = some M) : zAll 85 M := by cases h; exact fun _ => ⟨rfl, by decide, kX8_take_ok⟩
theorem zall_86 (M : zM) (h : zms[86]? = some M) : zAll 86 M := by cases h; exact fun _ => ⟨rfl, by decide, kX8_stack_ok⟩
theorem zall_87 (M : zM) (h : zms[87]? = some M) : zAll 87 M := by cases h; exact fun _ => ⟨rfl, by decide, kX8_person_ok⟩
theorem zall_88 (M : zM) (h : zms[88]? = some M) : zAll 88 M := by cases h; exact fun _ => ⟨rfl, by decide, kX8_ill_ok⟩
theorem zall_89 (M : zM) (h : zms[89]? = some M) : zAll 89 M := by cases h; exact fun _ => ⟨rfl, by decide, kX8_work_ok⟩
theorem zall_90 (M : zM) (h : zms[90]? = some M) : zAll 90 M := by cases h; exact fun _ => ⟨rfl, by decide, kX8_schedule_ok⟩
theorem zall_91 (M : zM) (h : zms[91]? = some M) : zAll 91 M := by cases h; exact fun _ => ⟨rfl, by decide, kX8_begins_ok⟩
theorem zall_92 (M : zM) (h : zms[92]? = some M) : zAll 92 M := by cases h; exact fun _ => ⟨rfl, by decide, kX8_feed_ok⟩
theorem zall_93 (M : zM) (h : zms[93]? = some M) : zAll 93 M := by cases h; exact fun _ => ⟨rfl, by decide, kX8_end_ok⟩
theorem zall_94 (M : zM) (h : zms[94]? = some M) : zAll 94 M := by cases h; exact fun _ => ⟨rfl, by decide, kX8_rules_ok⟩
theorem zall_95 (M : zM) (h : zms[95]? = some M) : zAll 95 M := by cases h; exact fun _ => ⟨rfl, by decide, kX8_fault_ok⟩
theorem zall_96 (M : zM) (h : zms[96]? = some M) : zAll 96 M := by cases h; exact fun _ => ⟨rfl, by decide, kX8_radio_ok⟩
theorem zall_97 (M : zM) (h : zms[97]? = some M) : zAll 97 M := by cases h; exact fun _ => ⟨rfl, by decide, kX8_message_ok⟩
theorem zall_98 (M : zM) (h : zms[98]? = some M) : zAll 98 M := by cases h; exact fun _ => ⟨rfl, by decide, kX8_fail_ok⟩
theorem zall_99 (M : zM) (h : zms[99]? = some M) : zAll 99 M := by cases h; exact fun _ => ⟨rfl, by decide, kX8_go_ok⟩
theorem zall_100 (M : zM) (h : zms[100]? = some M) : zAll 100 M := by cases h; exact fun _ => ⟨rfl, by decide, kX8_sent_ok⟩
theorem zall_101 (M : zM) (h : zms[101]? = some M) : zAll 101 M := by cases h; exact fun _ => ⟨rfl, by decide, kX8_arrived_ok⟩
theorem zall_102 (M : zM) (h : zms[102]? = some M) : zAll 102 M := by cases h; exact fun _ => ⟨rfl, by decide, kX8_land_ok⟩
theorem zall_103 (M : zM) (h : zms[103]? = some M) : zAll 103 M := by cases h; exact fun _ => ⟨rfl, by decide, kX8_count_ok⟩
theorem zall_104 (M : zM) (h : zms[104]? = some M) : zAll 104 M := by cases h; exact fun _ => ⟨rfl, by decide, kX8_status_ok⟩
theorem zall_105 (M : zM) (h : zms[105]? = some M) : zAll 105 M := by cases h; exact fun _ => ⟨rfl, by decide, kX9_in_ok⟩
theorem zall_106 (M : zM) (h : zms[106]? = some M) : zAll 106 M := by cases h; exact fun _ => ⟨rfl, by decide, kX9_told_ok⟩
theorem zall_107 (M : zM) (h : zms[107]? = some M) : zAll 107 M := by cases h; exact fun _ => ⟨rfl, by decide, kX9_isHour_ok⟩
theorem zall_108 (M : zM) (h : zms[108]? = some M) : zAll 108 M := by cases h; exact fun _ => ⟨rfl, by decide, kX9_weather_ok⟩
theorem zall_109 (M : zM) (h : zms[109]? = some M) : zAll 109 M := by cases h; exact fun _ => ⟨rfl, by decide, kX9_isTrue_ok⟩
theorem zall_110 (M : zM) (h : zms[110]? = some M) : zAll 110 M := by cases h; exact fun _ => ⟨rfl, by decide, kX9_rationOf_ok⟩
theorem zall_111 (M : zM) (h : zms[111]? = some M) : zAll 111 M := by cases h; exact fun _ => ⟨rfl, by decide, kX9_demandOf_ok⟩
theorem zall_112 (M : zM) (h : zms[112]? = some M) : zAll 112 M := by cases h; exact fun _ => ⟨rfl, by decide, kX9_hour_ok⟩
theorem zall_113 (M : zM) (h : zms[113]? = some M) : zAll 113 M := by cases h; exact fun _ => ⟨rfl, by decide, kX9_engine_ok⟩
theorem zall_114 (M : zM) (h : zms[114]? = some M) : zAll 114 M := by cases h; exact fun _ => ⟨rfl, by decide, kX9_mill_ok⟩
theorem zall_115 (M : zM) (h : zms[115]? = some M) : zAll 115 M := by cases h; exact fun _ => ⟨rfl, by decide, kX9_demand_ok⟩
theorem zall_116 (M : zM) (h : zms[116]? = some M) : zAll 116 M := by cases h; exact fun _ => ⟨rfl, by decide, kX9_on_ok⟩
theorem zall_117 (M : zM) (h : zms[117]? = some M) : zAll 117 M := by cases h; exact fun _ => ⟨rfl, by decide, kX9_lackOf_ok⟩
theorem zall_118 (M : zM) (h : zms[118]? = some M) : zAll 118 M := by cases h; exact fun _ => ⟨rfl, by decide, kX9_fuelOf_ok⟩
theorem zall_119 (M : zM) (h : zms[119]? = some M) : zAll 119 M := by cases h; exact fun _ => ⟨rfl, by decide, kX9_plan_ok⟩
theorem zall_120 (M : zM) (h : zms[120]? = some M) : zAll 120 M := by cases h; exact fun _ => ⟨rfl, by decide, kX9_planned_ok⟩
theorem zall_121 (M : zM) (h : zms[121]? = some M) : zAll 121 M := by cases h; exact fun _ => ⟨rfl, by decide, kX9_isStack_ok⟩
theorem zall_122 (M : zM) (h : zms[122]? = some M) : zAll 122 M := by cases h; exact fun _ => ⟨rfl, by decide, kX9_box_ok⟩
theorem zall_123 (M : zM) (h : zms[123]? = some M) : zAll 123 M := by cases h; exact fun _ => ⟨rfl, by decide, kX9_above_ok⟩
theorem zall_124 (M : zM) (h : zms[124]? = some M) : zAll 124 M := by cases h; exact fun _ => ⟨rfl, by decide, kX9_take_ok⟩
theorem zall_125 (M : zM) (h : zms[125]? = some M) : zAll 125 M := by cases h; exact fun _ => ⟨rfl, by decide, kX9_stack_ok⟩
theorem zall_126 (M : zM) (h : zms[126]? = some M) : zAll 126 M := by cases h; exact fun _ => ⟨rfl, by decide, kX9_person_ok⟩
theorem zall_127 (M : zM) (h : zms[127]? = some M) : zAll 127 M := by cases h; exact fun _ => ⟨rfl, by decide, kX9_ill_ok⟩
theorem zall_128 (M : zM) (h : zms[128]? = some M) : zAll 128 M := by cases h; exact fun _ => ⟨rfl, by decide, kX9_work_ok⟩
theorem zall_129 (M : zM) (h : zms[129]? = some M) : zAll 129 M := by cases h; exact fun _ => ⟨rfl, by decide, kX9_isFree_ok⟩
theorem zall_130 (M : zM) (h : zms[130]? = some M) : zAll 130 M := by cases h; exact fun _ => ⟨rfl, by decide, kX9_whoAt_ok⟩
theorem zall_131 (M : zM) (h : zms[131]? = some M) : zAll 131 M := by cases h; exact fun _ => ⟨rfl, by decide, kX9_schedule_ok⟩
theorem zall_132 (M : zM) (h : zms[132]? = some M) : zAll 132 M := by cases h; exact fun _ => ⟨rfl, by decide, kX9_begins_ok⟩
theorem zall_133 (M : zM) (h : zms[133]? = some M) : zAll 133 M := by cases h; exact fun _ => ⟨rfl, by decide, kX9_four_ok⟩
theorem zall_134 (M : zM) (h : zms[134]? = some M) : zAll 134 M := by cases h; exact fun _ => ⟨rfl, by decide, kX9_feed_ok⟩
theorem zall_135 (M : zM) (h : zms[135]? = some M) : zAll 135 M := by cases h; exact fun _ => ⟨rfl, by decide, kX9_end_ok⟩
theorem zall_136 (M : zM) (h : zms[136]? = some M) : zAll 136 M := by cases h; exact fun _ => ⟨rfl, by decide, kX9_isSmall_ok⟩
theorem zall_137 (M : zM) (h : zms[137]? = some M) : zAll 137 M := by cases h; exact fun _ => ⟨rfl, by decide, kX9_isDigit_ok⟩
theorem zall_138 (M : zM) (h : zms[138]? = some M) : zAll 138 M := by cases h; exact fun _ => ⟨rfl, by decide, kX9_next_ok⟩
theorem zall_139 (M : zM) (h : zms[139]? = some M) : zAll 139 M := by cases h; exact fun _ => ⟨rfl, by decide, kX9_isWord_ok⟩
theorem zall_140 (M : zM) (h : zms[140]? = some M) : zAll 140 M := by cases h; exact fun _ => ⟨rfl, by decide, kX9_isSign_ok⟩
theorem zall_141 (M : zM) (h : zms[141]? = some M) : zAll 141 M := by cases h; exact fun _ => ⟨rfl, by decide, kX9_must_ok⟩
theorem zall_142 (M : zM) (h : zms[142]? = some M) : zAll 142 M := by cases h; exact fun _ => ⟨rfl, by decide, kX9_number_ok⟩
theorem zall_143 (M : zM) (h : zms[143]? = some M) : zAll 143 M := by cases h; exact fun _ => ⟨rfl, by decide, kX9_readTest_ok⟩
theorem zall_144 (M : zM) (h : zms[144]? = some M) : zAll 144 M := by cases h; exact fun _ => ⟨rfl, by decide, kX9_readRule_ok⟩
theorem zall_145 (M : zM) (h : zms[145]? = some M) : zAll 145 M := by cases h; exact fun _ => ⟨rfl, by decide, kX9_rules_ok⟩
theorem zall_146 (M : zM) (h : zms[146]? = some M) : zAll 146 M := by cases h; exact fun _ => ⟨rfl, by decide, kX9_fault_ok⟩
theorem zall_147 (M : zM) (h : zms[147]? = some M) : zAll 147 M := by cases h; exact fun _ => ⟨rfl, by decide, kX9_radio_ok⟩
theorem zall_148 (M : zM) (h : zms[148]? = some M) : zAll 148 M := by cases h; exact fun _ => ⟨rfl, by decide, kX9_message_ok⟩
theorem zall_149 (M : zM) (h : zms[149]? = some M) : zAll 149 M := by cases h; exact fun _ => ⟨rfl, by decide, kX9_fail_ok⟩
theorem zall_150 (M : zM) (h : zms[150]? = some M) : zAll 150 M := by cases h; exact fun _ => ⟨rfl, by decide, kX9_nextMessage_ok⟩
theorem zall_151 (M : zM) (h : zms[151]? = some M) : zAll 151 M := by cases h; exact fun _ => ⟨rfl, by decide, kX9_goHour_ok⟩
theorem zall_152 (M : zM) (h : zms[152]? = some M) : zAll 152 M := by cases h; exact fun _ => ⟨rfl, by decide, kX9_go_ok⟩
theorem zall_153 (M : zM) (h : zms[153]? = some M) : zAll 153 M := by cases h; exact fun _ => ⟨rfl, by decide, kX9_sent_ok⟩
theorem zall_154 (M : zM) (h : zms[154]? = some M) : zAll 154 M := by cases h; exact fun _ => ⟨rfl, by decide, kX9_arrived_ok⟩
theorem zall_155 (M : zM) (h : zms[155]? = some M) : zAll 155 M := by cases h; exact fun _ => ⟨rfl, by decide, kX9_land_ok⟩
theorem zall_156 (M : zM) (h : zms[156]? = some M) : zAll 156 M := by cases h; exact fun _ => ⟨rfl, by decide, kX9_count_ok⟩
theorem zall_157 (M : zM) (h : zms[157]? = some M) : zAll 157 M := by cases h; exact fun _ => ⟨rfl, by decide, kX9_status_ok⟩
theorem zall : ∀ (j : Nat) (M : zM), zms[j]? = some M → zAll j M := by
  intro j
  match j with
  | 0 => exact zall_0
  | 1 => exact zall_1
  | 2 => exact zall_2
  | 3 => exact zall_3
  | 4 => exact zall_4
  | 5 => exact zall_5
  | 6 => exact zall_6
  | 7 => exact zall_7
  | 8 => exact zall_8
  | 9 => exact zall_9
  | 10 => exact zall_10
  | 11 => exact zall_11
  | 12 => exact zall_12
  | 13 => exact zall_13
  | 14 => exact zall_14
  | 15 => exact zall_15
  | 16 => exact zall_16
  | 17 => exact zall_17
  | 18 => exact zall_18
  | 19 => exact zall_19
  | 20 => exact zall_20
  | 21 => exact zall_21
  | 22 => exact zall_22
  | 23 => exact zall_23
  | 24 => exact zall_24
  | 25 => exact zall_25
  | 26 => exact zall_26
  | 27 => exact zall_27
  | 28 => exact zall_28
  | 29 => exact zall_29
  | 30 => exact zall_30
  | 31 => exact zall_31
  | 32 => exact zall_32
  | 33 => exact zall_33
  | 34 => exact zall_34
  | 35 => exact zall_35
  | 36 => exact zall_36
  | 37 => exact zall_37
  | 38 => exact zall_38
  | 39 => exact zall_39
  | 40 => exact zall_40
  | 41 => exact zall_41
  | 42 => exact zall_42
  | 43 => exact zall_43
  | 44 => exact zall_44
  | 45 => exact zall_45
  | 46 => exact zall_46
  | 47 => exact zall_47
  | 48 => exact zall_48
  | 49 => exact zall_49
  | 50 => exact zall_50
  | 51 => exact zall_51
  | 52 => exact zall_52
  | 53 => exact zall_53
  | 54 => exact zall_54
  | 55 => exact zall_55
  | 56 => exact zall_56
  | 57 => exact zall_57
  | 58 => exact zall_58
  | 59 => exact zall_59
  | 60 => exact zall_60
  | 61 => exact zall_61
  | 62 => exact zall_62
  | 63 => exact zall_63
  | 64 => exact zall_64
  | 65 => exact zall_65
  | 66 => exact zall_66
  | 67 => exact zall_67
  | 68 => exact zall_68
  | 69 => exact zall_69
  | 70 => exact zall_70
  | 71 => exact zall_71
  | 72 => exact zall_72
  | 73 => exact zall_73
  | 74 => exact zall_74
  | 75 => exact zall_75
  | 76 => exact zall_76
  | 77 => exact zall_77
  | 78 => exact zall_78
  | 79 => exact zall_79
  | 80 => exact zall_80
  | 81 => exact zall_81
  | 82 => exact zall_82
  | 83 => exact zall_83
  | 84 => exact zall_84
  | 85 => exact zall_85
  | 86 => exact zall_86
  | 87 => exact zall_87
  | 88 => exact zall_88
  | 89 => exact zall_89
  | 90 => exact zall_90
  | 91 => exact zall_91
  | 92 => exact zall_92
  | 93 => exact zall_93
  | 94 => exact zall_94
  | 95 => exact zall_95
  | 96 => exact zall_96
  | 97 => exact zall_97
  | 98 => exact zall_98
  | 99 => exact zall_99
  | 100 => exact zall_100
  | 101 => exact zall_101
  | 102 => exact zall_102
  | 103 => exact zall_103
  | 104 => exact zall_104
  | 105 => exact zall_105
  | 106 => exact zall_106
  | 107 => exact zall_107
  | 108 => exact zall_108
  | 109 => exact zall_109
  | 110 => exact zall_110
  | 111 => exact zall_111
  | 112 => exact zall_112
  | 113 => exact zall_113
  | 114 => exact zall_114
  | 115 => exact zall_115
  | 116 => exact zall_116
  | 117 => exact zall_117
  | 118 => exact zall_118
  | 119 => exact zall_119
  | 120 => exact zall_120
  | 121 => exact zall_121
  | 122 => exact zall_122
  | 123 => exact zall_123
  | 124 => exact zall_124
  | 125 => exact zall_125
  | 126 => exact zall_126
  | 127 => exact zall_127
  | 128 => exact zall_128
  | 129 => exact zall_129
  | 130 => exact zall_130
  | 131 => exact zall_131
  | 132 => exact zall_132
  | 133 => exact zall_133
  | 134 => exact zall_134
  | 135 => exact zall_135
  | 136 => exact zall_136
  | 137 => exact zall_137
  | 138 => exact zall_138
  | 139 => exact zall_139
  | 140 => exact zall_140
  | 141 => exact zall_141
  | 142 => exact zall_142
  | 143 => exact zall_143
  | 144 => exact zall_144
  | 145 => exact zall_145
  | 146 => exact zall_146
  | 147 => exact zall_147
  | 148 => exact zall_148
  | 149 => exact zall_149
  | 150 => exact zall_150
  | 151 => exact zall_151
  | 152 => exact zall_152
  | 153 => exact zall_153
  | 154 => exact zall_154
  | 155 => exact zall_155
  | 156 => exact zall_156
  | 157 => exact zall_157
  | j + 158 => intro M h; simp [zms] at h
/-- every call of the small machine is a call of the JVM -/
theorem zG_met_open {l : Launch} (hWd : zMet l 52 t_isWord) : ∀ (d j : Nat), zMet l j (zG d j) := by
  intro d
  induction d with
  | zero => intro j; exact zF_met l j
  | succ d ih =>
    intro j M hM
    by_cases hj : j = 52
    · have e : zG (d + 1) j = t_isWord := by simp only [zG, if_pos hj]
      rw [e]
      subst hj
      exact hWd M hM
    · have e : zG (d + 1) j = fun av h Q => zaw av ≤ zmx j ∧ zRun (zcodes.getD j []) (zG d) Q 0 (zent (zmx j) av) [] h := by simp only [zG, if_neg hj]
      rw [e]
      obtain ⟨h1, h2, h3⟩ := zall j M hM hj
      have em : zmx j = M.2.2.1 := by simp only [zmx, hM]
      refine z_met (o := zon j) hM h1 h2 (fun i => ih i) h3 (fun av h Q hT => ?_) M hM
      rw [em] at hT
      exact hT
theorem g_0 {d : Nat} {av : List Value} {h : zH} {Q : zQ} (hw : zaw av ≤ 3) (hr : zRun kX8_within (zG d) Q 0 (zent 3 av) [] h) : zG (d + 1) 0 av h Q := ⟨hw, hr⟩
theorem g_1 {d : Nat} {av : List Value} {h : zH} {Q : zQ} (hw : zaw av ≤ 2) (hr : zRun kX0_addPerson (zG d) Q 0 (zent 2 av) [] h) : zG (d + 1) 1 av h Q := ⟨hw, hr⟩
theorem g_2 {d : Nat} {av : List Value} {h : zH} {Q : zQ} (hw : zaw av ≤ 1) (hr : zRun kX8_isHour (zG d) Q 0 (zent 1 av) [] h) : zG (d + 1) 2 av h Q := ⟨hw, hr⟩
theorem g_3 {d : Nat} {av : List Value} {h : zH} {Q : zQ} (hw : zaw av ≤ 2) (hr : zRun kX8_isSpan (zG d) Q 0 (zent 2 av) [] h) : zG (d + 1) 3 av h Q := ⟨hw, hr⟩
theorem g_4 {d : Nat} {av : List Value} {h : zH} {Q : zQ} (hw : zaw av ≤ 4) (hr : zRun kX0_addSpell (zG d) Q 0 (zent 4 av) [] h) : zG (d + 1) 4 av h Q := ⟨hw, hr⟩
theorem g_5 {d : Nat} {av : List Value} {h : zH} {Q : zQ} (hw : zaw av ≤ 6) (hr : zRun kX0_addWork (zG d) Q 0 (zent 6 av) [] h) : zG (d + 1) 5 av h Q := ⟨hw, hr⟩
theorem g_6 {d : Nat} {av : List Value} {h : zH} {Q : zQ} (hw : zaw av ≤ 4) (hr : zRun kX0_skilledFor (zG d) Q 0 (zent 4 av) [] h) : zG (d + 1) 6 av h Q := ⟨hw, hr⟩
theorem g_7 {d : Nat} {av : List Value} {h : zH} {Q : zQ} (hw : zaw av ≤ 1) (hr : zRun kJ6_bitCount_0f7a4 (zG d) Q 0 (zent 1 av) [] h) : zG (d + 1) 7 av h Q := ⟨hw, hr⟩
theorem g_8 {d : Nat} {av : List Value} {h : zH} {Q : zQ} (hw : zaw av ≤ 2) (hr : zRun kX5_lightAt (zG d) Q 0 (zent 2 av) [] h) : zG (d + 1) 8 av h Q := ⟨hw, hr⟩
theorem g_9 {d : Nat} {av : List Value} {h : zH} {Q : zQ} (hw : zaw av ≤ 2) (hr : zRun kX5_coldAt (zG d) Q 0 (zent 2 av) [] h) : zG (d + 1) 9 av h Q := ⟨hw, hr⟩
theorem g_10 {d : Nat} {av : List Value} {h : zH} {Q : zQ} (hw : zaw av ≤ 9) (hr : zRun kX0_isWeatherFor (zG d) Q 0 (zent 9 av) [] h) : zG (d + 1) 10 av h Q := ⟨hw, hr⟩
theorem g_11 {d : Nat} {av : List Value} {h : zH} {Q : zQ} (hw : zaw av ≤ 5) (hr : zRun kX0_illDuring (zG d) Q 0 (zent 5 av) [] h) : zG (d + 1) 11 av h Q := ⟨hw, hr⟩
theorem g_12 {d : Nat} {av : List Value} {h : zH} {Q : zQ} (hw : zaw av ≤ 9) (hr : zRun kX0_busyAround (zG d) Q 0 (zent 9 av) [] h) : zG (d + 1) 12 av h Q := ⟨hw, hr⟩
theorem g_13 {d : Nat} {av : List Value} {h : zH} {Q : zQ} (hw : zaw av ≤ 4) (hr : zRun kX0_lowestOf (zG d) Q 0 (zent 4 av) [] h) : zG (d + 1) 13 av h Q := ⟨hw, hr⟩
theorem g_14 {d : Nat} {av : List Value} {h : zH} {Q : zQ} (hw : zaw av ≤ 9) (hr : zRun kX0_place (zG d) Q 0 (zent 9 av) [] h) : zG (d + 1) 14 av h Q := ⟨hw, hr⟩
theorem g_15 {d : Nat} {av : List Value} {h : zH} {Q : zQ} (hw : zaw av ≤ 6) (hr : zRun kX0_makeSchedule (zG d) Q 0 (zent 6 av) [] h) : zG (d + 1) 15 av h Q := ⟨hw, hr⟩
theorem g_16 {d : Nat} {av : List Value} {h : zH} {Q : zQ} (hw : zaw av ≤ 3) (hr : zRun kX0_ofWork (zG d) Q 0 (zent 3 av) [] h) : zG (d + 1) 16 av h Q := ⟨hw, hr⟩
theorem g_17 {d : Nat} {av : List Value} {h : zH} {Q : zQ} (hw : zaw av ≤ 6) (hr : zRun kX1_addEngine (zG d) Q 0 (zent 6 av) [] h) : zG (d + 1) 17 av h Q := ⟨hw, hr⟩
theorem g_18 {d : Nat} {av : List Value} {h : zH} {Q : zQ} (hw : zaw av ≤ 3) (hr : zRun kX1_setMill (zG d) Q 0 (zent 3 av) [] h) : zG (d + 1) 18 av h Q := ⟨hw, hr⟩
theorem g_19 {d : Nat} {av : List Value} {h : zH} {Q : zQ} (hw : zaw av ≤ 3) (hr : zRun kX1_setDemand (zG d) Q 0 (zent 3 av) [] h) : zG (d + 1) 19 av h Q := ⟨hw, hr⟩
theorem g_20 {d : Nat} {av : List Value} {h : zH} {Q : zQ} (hw : zaw av ≤ 3) (hr : zRun kX1_switchOn (zG d) Q 0 (zent 3 av) [] h) : zG (d + 1) 20 av h Q := ⟨hw, hr⟩
theorem g_21 {d : Nat} {av : List Value} {h : zH} {Q : zQ} (hw : zaw av ≤ 2) (hr : zRun kX5_windAt (zG d) Q 0 (zent 2 av) [] h) : zG (d + 1) 21 av h Q := ⟨hw, hr⟩
theorem g_22 {d : Nat} {av : List Value} {h : zH} {Q : zQ} (hw : zaw av ≤ 3) (hr : zRun kX1_millAt (zG d) Q 0 (zent 3 av) [] h) : zG (d + 1) 22 av h Q := ⟨hw, hr⟩
theorem g_23 {d : Nat} {av : List Value} {h : zH} {Q : zQ} (hw : zaw av ≤ 5) (hr : zRun kX3_testHolds (zG d) Q 0 (zent 5 av) [] h) : zG (d + 1) 23 av h Q := ⟨hw, hr⟩
theorem g_24 {d : Nat} {av : List Value} {h : zH} {Q : zQ} (hw : zaw av ≤ 7) (hr : zRun kX3_holds (zG d) Q 0 (zent 7 av) [] h) : zG (d + 1) 24 av h Q := ⟨hw, hr⟩
theorem g_25 {d : Nat} {av : List Value} {h : zH} {Q : zQ} (hw : zaw av ≤ 6) (hr : zRun kX3_rationAt (zG d) Q 0 (zent 6 av) [] h) : zG (d + 1) 25 av h Q := ⟨hw, hr⟩
theorem g_26 {d : Nat} {av : List Value} {h : zH} {Q : zQ} (hw : zaw av ≤ 5) (hr : zRun kX1_demandLeft (zG d) Q 0 (zent 5 av) [] h) : zG (d + 1) 26 av h Q := ⟨hw, hr⟩
theorem g_27 {d : Nat} {av : List Value} {h : zH} {Q : zQ} (hw : zaw av ≤ 3) (hr : zRun kX1_lackOf (zG d) Q 0 (zent 3 av) [] h) : zG (d + 1) 27 av h Q := ⟨hw, hr⟩
theorem g_28 {d : Nat} {av : List Value} {h : zH} {Q : zQ} (hw : zaw av ≤ 7) (hr : zRun kX1_weighSet (zG d) Q 0 (zent 7 av) [] h) : zG (d + 1) 28 av h Q := ⟨hw, hr⟩
theorem g_29 {d : Nat} {av : List Value} {h : zH} {Q : zQ} (hw : zaw av ≤ 6) (hr : zRun kX1_weighHour (zG d) Q 0 (zent 6 av) [] h) : zG (d + 1) 29 av h Q := ⟨hw, hr⟩
theorem g_30 {d : Nat} {av : List Value} {h : zH} {Q : zQ} (hw : zaw av ≤ 4) (hr : zRun kX1_keepPlan (zG d) Q 0 (zent 4 av) [] h) : zG (d + 1) 30 av h Q := ⟨hw, hr⟩
theorem g_31 {d : Nat} {av : List Value} {h : zH} {Q : zQ} (hw : zaw av ≤ 7) (hr : zRun kX1_makePlan (zG d) Q 0 (zent 7 av) [] h) : zG (d + 1) 31 av h Q := ⟨hw, hr⟩
theorem g_32 {d : Nat} {av : List Value} {h : zH} {Q : zQ} (hw : zaw av ≤ 3) (hr : zRun kX1_ofPlan (zG d) Q 0 (zent 3 av) [] h) : zG (d + 1) 32 av h Q := ⟨hw, hr⟩
theorem g_33 {d : Nat} {av : List Value} {h : zH} {Q : zQ} (hw : zaw av ≤ 5) (hr : zRun kX2_tune (zG d) Q 0 (zent 5 av) [] h) : zG (d + 1) 33 av h Q := ⟨hw, hr⟩
theorem g_34 {d : Nat} {av : List Value} {h : zH} {Q : zQ} (hw : zaw av ≤ 3) (hr : zRun kX2_addMessage (zG d) Q 0 (zent 3 av) [] h) : zG (d + 1) 34 av h Q := ⟨hw, hr⟩
theorem g_35 {d : Nat} {av : List Value} {h : zH} {Q : zQ} (hw : zaw av ≤ 3) (hr : zRun kX2_addFailure (zG d) Q 0 (zent 3 av) [] h) : zG (d + 1) 35 av h Q := ⟨hw, hr⟩
theorem g_36 {d : Nat} {av : List Value} {h : zH} {Q : zQ} (hw : zaw av ≤ 2) (hr : zRun kX2_isAllSent (zG d) Q 0 (zent 2 av) [] h) : zG (d + 1) 36 av h Q := ⟨hw, hr⟩
theorem g_37 {d : Nat} {av : List Value} {h : zH} {Q : zQ} (hw : zaw av ≤ 5) (hr : zRun kX2_sendPart (zG d) Q 0 (zent 5 av) [] h) : zG (d + 1) 37 av h Q := ⟨hw, hr⟩
theorem g_38 {d : Nat} {av : List Value} {h : zH} {Q : zQ} (hw : zaw av ≤ 5) (hr : zRun kX2_passHour (zG d) Q 0 (zent 5 av) [] h) : zG (d + 1) 38 av h Q := ⟨hw, hr⟩
theorem g_39 {d : Nat} {av : List Value} {h : zH} {Q : zQ} (hw : zaw av ≤ 2) (hr : zRun kX2_isMessage (zG d) Q 0 (zent 2 av) [] h) : zG (d + 1) 39 av h Q := ⟨hw, hr⟩
theorem g_40 {d : Nat} {av : List Value} {h : zH} {Q : zQ} (hw : zaw av ≤ 3) (hr : zRun kX2_ofMessage (zG d) Q 0 (zent 3 av) [] h) : zG (d + 1) 40 av h Q := ⟨hw, hr⟩
theorem g_41 {d : Nat} {av : List Value} {h : zH} {Q : zQ} (hw : zaw av ≤ 6) (hr : zRun kX2_hasArrived (zG d) Q 0 (zent 6 av) [] h) : zG (d + 1) 41 av h Q := ⟨hw, hr⟩
theorem g_42 {d : Nat} {av : List Value} {h : zH} {Q : zQ} (hw : zaw av ≤ 1) (hr : zRun kX3_clear (zG d) Q 0 (zent 1 av) [] h) : zG (d + 1) 42 av h Q := ⟨hw, hr⟩
theorem g_43 {d : Nat} {av : List Value} {h : zH} {Q : zQ} (hw : zaw av ≤ 1) (hr : zRun kX3_roomForTests (zG d) Q 0 (zent 1 av) [] h) : zG (d + 1) 43 av h Q := ⟨hw, hr⟩
theorem g_44 {d : Nat} {av : List Value} {h : zH} {Q : zQ} (hw : zaw av ≤ 2) (hr : zRun kX3_addRest (zG d) Q 0 (zent 2 av) [] h) : zG (d + 1) 44 av h Q := ⟨hw, hr⟩
theorem g_45 {d : Nat} {av : List Value} {h : zH} {Q : zQ} (hw : zaw av ≤ 2) (hr : zRun kX3_addCold (zG d) Q 0 (zent 2 av) [] h) : zG (d + 1) 45 av h Q := ⟨hw, hr⟩
theorem g_46 {d : Nat} {av : List Value} {h : zH} {Q : zQ} (hw : zaw av ≤ 5) (hr : zRun kX3_addTest (zG d) Q 0 (zent 5 av) [] h) : zG (d + 1) 46 av h Q := ⟨hw, hr⟩
theorem g_47 {d : Nat} {av : List Value} {h : zH} {Q : zQ} (hw : zaw av ≤ 2) (hr : zRun kX3_addIf (zG d) Q 0 (zent 2 av) [] h) : zG (d + 1) 47 av h Q := ⟨hw, hr⟩
theorem g_48 {d : Nat} {av : List Value} {h : zH} {Q : zQ} (hw : zaw av ≤ 1) (hr : zRun kX4_isLetter (zG d) Q 0 (zent 1 av) [] h) : zG (d + 1) 48 av h Q := ⟨hw, hr⟩
theorem g_49 {d : Nat} {av : List Value} {h : zH} {Q : zQ} (hw : zaw av ≤ 1) (hr : zRun kX4_isDigit (zG d) Q 0 (zent 1 av) [] h) : zG (d + 1) 49 av h Q := ⟨hw, hr⟩
theorem g_50 {d : Nat} {av : List Value} {h : zH} {Q : zQ} (hw : zaw av ≤ 2) (hr : zRun kX4_isSameRow (zG d) Q 0 (zent 2 av) [] h) : zG (d + 1) 50 av h Q := ⟨hw, hr⟩
theorem g_51 {d : Nat} {av : List Value} {h : zH} {Q : zQ} (hw : zaw av ≤ 4) (hr : zRun kX4_endOfToken (zG d) Q 0 (zent 4 av) [] h) : zG (d + 1) 51 av h Q := ⟨hw, hr⟩
theorem g_53 {d : Nat} {av : List Value} {h : zH} {Q : zQ} (hw : zaw av ≤ 3) (hr : zRun kX4_wordToken (zG d) Q 0 (zent 3 av) [] h) : zG (d + 1) 53 av h Q := ⟨hw, hr⟩
theorem g_54 {d : Nat} {av : List Value} {h : zH} {Q : zQ} (hw : zaw av ≤ 5) (hr : zRun kX4_numberToken (zG d) Q 0 (zent 5 av) [] h) : zG (d + 1) 54 av h Q := ⟨hw, hr⟩
theorem g_55 {d : Nat} {av : List Value} {h : zH} {Q : zQ} (hw : zaw av ≤ 1) (hr : zRun kX4_signToken (zG d) Q 0 (zent 1 av) [] h) : zG (d + 1) 55 av h Q := ⟨hw, hr⟩
theorem g_56 {d : Nat} {av : List Value} {h : zH} {Q : zQ} (hw : zaw av ≤ 4) (hr : zRun kX4_tokenOf (zG d) Q 0 (zent 4 av) [] h) : zG (d + 1) 56 av h Q := ⟨hw, hr⟩
theorem g_57 {d : Nat} {av : List Value} {h : zH} {Q : zQ} (hw : zaw av ≤ 4) (hr : zRun kX4_split (zG d) Q 0 (zent 4 av) [] h) : zG (d + 1) 57 av h Q := ⟨hw, hr⟩
theorem g_58 {d : Nat} {av : List Value} {h : zH} {Q : zQ} (hw : zaw av ≤ 1) (hr : zRun kX4_token (zG d) Q 0 (zent 1 av) [] h) : zG (d + 1) 58 av h Q := ⟨hw, hr⟩
theorem g_59 {d : Nat} {av : List Value} {h : zH} {Q : zQ} (hw : zaw av ≤ 7) (hr : zRun kX4_readTest (zG d) Q 0 (zent 7 av) [] h) : zG (d + 1) 59 av h Q := ⟨hw, hr⟩
theorem g_60 {d : Nat} {av : List Value} {h : zH} {Q : zQ} (hw : zaw av ≤ 5) (hr : zRun kX4_readIf (zG d) Q 0 (zent 5 av) [] h) : zG (d + 1) 60 av h Q := ⟨hw, hr⟩
theorem g_61 {d : Nat} {av : List Value} {h : zH} {Q : zQ} (hw : zaw av ≤ 4) (hr : zRun kX4_readRule (zG d) Q 0 (zent 4 av) [] h) : zG (d + 1) 61 av h Q := ⟨hw, hr⟩
theorem g_62 {d : Nat} {av : List Value} {h : zH} {Q : zQ} (hw : zaw av ≤ 4) (hr : zRun kX4_read (zG d) Q 0 (zent 4 av) [] h) : zG (d + 1) 62 av h Q := ⟨hw, hr⟩
theorem g_63 {d : Nat} {av : List Value} {h : zH} {Q : zQ} (hw : zaw av ≤ 1) (hr : zRun kX4_place (zG d) Q 0 (zent 1 av) [] h) : zG (d + 1) 63 av h Q := ⟨hw, hr⟩
theorem g_64 {d : Nat} {av : List Value} {h : zH} {Q : zQ} (hw : zaw av ≤ 8) (hr : zRun kX5_cover (zG d) Q 0 (zent 8 av) [] h) : zG (d + 1) 64 av h Q := ⟨hw, hr⟩
theorem g_65 {d : Nat} {av : List Value} {h : zH} {Q : zQ} (hw : zaw av ≤ 2) (hr : zRun kX5_isCalm (zG d) Q 0 (zent 2 av) [] h) : zG (d + 1) 65 av h Q := ⟨hw, hr⟩
theorem g_66 {d : Nat} {av : List Value} {h : zH} {Q : zQ} (hw : zaw av ≤ 4) (hr : zRun kX5_firstLanding (zG d) Q 0 (zent 4 av) [] h) : zG (d + 1) 66 av h Q := ⟨hw, hr⟩
theorem g_67 {d : Nat} {av : List Value} {h : zH} {Q : zQ} (hw : zaw av ≤ 1) (hr : zRun kX6_isStack (zG d) Q 0 (zent 1 av) [] h) : zG (d + 1) 67 av h Q := ⟨hw, hr⟩
theorem g_68 {d : Nat} {av : List Value} {h : zH} {Q : zQ} (hw : zaw av ≤ 4) (hr : zRun kX6_put (zG d) Q 0 (zent 4 av) [] h) : zG (d + 1) 68 av h Q := ⟨hw, hr⟩
theorem g_69 {d : Nat} {av : List Value} {h : zH} {Q : zQ} (hw : zaw av ≤ 5) (hr : zRun kX6_boxesAbove (zG d) Q 0 (zent 5 av) [] h) : zG (d + 1) 69 av h Q := ⟨hw, hr⟩
theorem g_70 {d : Nat} {av : List Value} {h : zH} {Q : zQ} (hw : zaw av ≤ 6) (hr : zRun kX6_removeBelow (zG d) Q 0 (zent 6 av) [] h) : zG (d + 1) 70 av h Q := ⟨hw, hr⟩
theorem g_71 {d : Nat} {av : List Value} {h : zH} {Q : zQ} (hw : zaw av ≤ 6) (hr : zRun kX6_takeOne (zG d) Q 0 (zent 6 av) [] h) : zG (d + 1) 71 av h Q := ⟨hw, hr⟩
theorem g_72 {d : Nat} {av : List Value} {h : zH} {Q : zQ} (hw : zaw av ≤ 3) (hr : zRun kX6_ofStack (zG d) Q 0 (zent 3 av) [] h) : zG (d + 1) 72 av h Q := ⟨hw, hr⟩
theorem g_73 {d : Nat} {av : List Value} {h : zH} {Q : zQ} (hw : zaw av ≤ 1) (hr : zRun kX7_hasRoom (zG d) Q 0 (zent 1 av) [] h) : zG (d + 1) 73 av h Q := ⟨hw, hr⟩
theorem g_74 {d : Nat} {av : List Value} {h : zH} {Q : zQ} (hw : zaw av ≤ 3) (hr : zRun kX7_append (zG d) Q 0 (zent 3 av) [] h) : zG (d + 1) 74 av h Q := ⟨hw, hr⟩
theorem g_75 {d : Nat} {av : List Value} {h : zH} {Q : zQ} (hw : zaw av ≤ 2) (hr : zRun kX8_answered (zG d) Q 0 (zent 2 av) [] h) : zG (d + 1) 75 av h Q := ⟨hw, hr⟩
theorem g_76 {d : Nat} {av : List Value} {h : zH} {Q : zQ} (hw : zaw av ≤ 8) (hr : zRun kX8_weather (zG d) Q 0 (zent 8 av) [] h) : zG (d + 1) 76 av h Q := ⟨hw, hr⟩
theorem g_77 {d : Nat} {av : List Value} {h : zH} {Q : zQ} (hw : zaw av ≤ 3) (hr : zRun kX8_hour (zG d) Q 0 (zent 3 av) [] h) : zG (d + 1) 77 av h Q := ⟨hw, hr⟩
theorem g_78 {d : Nat} {av : List Value} {h : zH} {Q : zQ} (hw : zaw av ≤ 4) (hr : zRun kX8_engine (zG d) Q 0 (zent 4 av) [] h) : zG (d + 1) 78 av h Q := ⟨hw, hr⟩
theorem g_79 {d : Nat} {av : List Value} {h : zH} {Q : zQ} (hw : zaw av ≤ 3) (hr : zRun kX8_mill (zG d) Q 0 (zent 3 av) [] h) : zG (d + 1) 79 av h Q := ⟨hw, hr⟩
theorem g_80 {d : Nat} {av : List Value} {h : zH} {Q : zQ} (hw : zaw av ≤ 3) (hr : zRun kX8_demand (zG d) Q 0 (zent 3 av) [] h) : zG (d + 1) 80 av h Q := ⟨hw, hr⟩
theorem g_81 {d : Nat} {av : List Value} {h : zH} {Q : zQ} (hw : zaw av ≤ 2) (hr : zRun kX8_on (zG d) Q 0 (zent 2 av) [] h) : zG (d + 1) 81 av h Q := ⟨hw, hr⟩
theorem g_82 {d : Nat} {av : List Value} {h : zH} {Q : zQ} (hw : zaw av ≤ 2) (hr : zRun kX8_plan (zG d) Q 0 (zent 2 av) [] h) : zG (d + 1) 82 av h Q := ⟨hw, hr⟩
theorem g_83 {d : Nat} {av : List Value} {h : zH} {Q : zQ} (hw : zaw av ≤ 3) (hr : zRun kX8_planned (zG d) Q 0 (zent 3 av) [] h) : zG (d + 1) 83 av h Q := ⟨hw, hr⟩
theorem g_84 {d : Nat} {av : List Value} {h : zH} {Q : zQ} (hw : zaw av ≤ 3) (hr : zRun kX8_box (zG d) Q 0 (zent 3 av) [] h) : zG (d + 1) 84 av h Q := ⟨hw, hr⟩
theorem g_85 {d : Nat} {av : List Value} {h : zH} {Q : zQ} (hw : zaw av ≤ 2) (hr : zRun kX8_take (zG d) Q 0 (zent 2 av) [] h) : zG (d + 1) 85 av h Q := ⟨hw, hr⟩
theorem g_86 {d : Nat} {av : List Value} {h : zH} {Q : zQ} (hw : zaw av ≤ 3) (hr : zRun kX8_stack (zG d) Q 0 (zent 3 av) [] h) : zG (d + 1) 86 av h Q := ⟨hw, hr⟩
theorem g_87 {d : Nat} {av : List Value} {h : zH} {Q : zQ} (hw : zaw av ≤ 2) (hr : zRun kX8_person (zG d) Q 0 (zent 2 av) [] h) : zG (d + 1) 87 av h Q := ⟨hw, hr⟩
theorem g_88 {d : Nat} {av : List Value} {h : zH} {Q : zQ} (hw : zaw av ≤ 4) (hr : zRun kX8_ill (zG d) Q 0 (zent 4 av) [] h) : zG (d + 1) 88 av h Q := ⟨hw, hr⟩
theorem g_89 {d : Nat} {av : List Value} {h : zH} {Q : zQ} (hw : zaw av ≤ 5) (hr : zRun kX8_work (zG d) Q 0 (zent 5 av) [] h) : zG (d + 1) 89 av h Q := ⟨hw, hr⟩
theorem g_90 {d : Nat} {av : List Value} {h : zH} {Q : zQ} (hw : zaw av ≤ 1) (hr : zRun kX8_schedule (zG d) Q 0 (zent 1 av) [] h) : zG (d + 1) 90 av h Q := ⟨hw, hr⟩
theorem g_91 {d : Nat} {av : List Value} {h : zH} {Q : zQ} (hw : zaw av ≤ 3) (hr : zRun kX8_begins (zG d) Q 0 (zent 3 av) [] h) : zG (d + 1) 91 av h Q := ⟨hw, hr⟩
theorem g_92 {d : Nat} {av : List Value} {h : zH} {Q : zQ} (hw : zaw av ≤ 6) (hr : zRun kX8_feed (zG d) Q 0 (zent 6 av) [] h) : zG (d + 1) 92 av h Q := ⟨hw, hr⟩
theorem g_93 {d : Nat} {av : List Value} {h : zH} {Q : zQ} (hw : zaw av ≤ 2) (hr : zRun kX8_end (zG d) Q 0 (zent 2 av) [] h) : zG (d + 1) 93 av h Q := ⟨hw, hr⟩
theorem g_94 {d : Nat} {av : List Value} {h : zH} {Q : zQ} (hw : zaw av ≤ 3) (hr : zRun kX8_rules (zG d) Q 0 (zent 3 av) [] h) : zG (d + 1) 94 av h Q := ⟨hw, hr⟩
theorem g_95 {d : Nat} {av : List Value} {h : zH} {Q : zQ} (hw : zaw av ≤ 1) (hr : zRun kX8_fault (zG d) Q 0 (zent 1 av) [] h) : zG (d + 1) 95 av h Q := ⟨hw, hr⟩
theorem g_96 {d : Nat} {av : List Value} {h : zH} {Q : zQ} (hw : zaw av ≤ 4) (hr : zRun kX8_radio (zG d) Q 0 (zent 4 av) [] h) : zG (d + 1) 96 av h Q := ⟨hw, hr⟩
theorem g_97 {d : Nat} {av : List Value} {h : zH} {Q : zQ} (hw : zaw av ≤ 3) (hr : zRun kX8_message (zG d) Q 0 (zent 3 av) [] h) : zG (d + 1) 97 av h Q := ⟨hw, hr⟩
theorem g_98 {d : Nat} {av : List Value} {h : zH} {Q : zQ} (hw : zaw av ≤ 3) (hr : zRun kX8_fail (zG d) Q 0 (zent 3 av) [] h) : zG (d + 1) 98 av h Q := ⟨hw, hr⟩
theorem g_99 {d : Nat} {av : List Value} {h : zH} {Q : zQ} (hw : zaw av ≤ 4) (hr : zRun kX8_go (zG d) Q 0 (zent 4 av) [] h) : zG (d + 1) 99 av h Q := ⟨hw, hr⟩
theorem g_100 {d : Nat} {av : List Value} {h : zH} {Q : zQ} (hw : zaw av ≤ 3) (hr : zRun kX8_sent (zG d) Q 0 (zent 3 av) [] h) : zG (d + 1) 100 av h Q := ⟨hw, hr⟩
theorem g_101 {d : Nat} {av : List Value} {h : zH} {Q : zQ} (hw : zaw av ≤ 3) (hr : zRun kX8_arrived (zG d) Q 0 (zent 3 av) [] h) : zG (d + 1) 101 av h Q := ⟨hw, hr⟩
theorem g_102 {d : Nat} {av : List Value} {h : zH} {Q : zQ} (hw : zaw av ≤ 2) (hr : zRun kX8_land (zG d) Q 0 (zent 2 av) [] h) : zG (d + 1) 102 av h Q := ⟨hw, hr⟩
theorem g_103 {d : Nat} {av : List Value} {h : zH} {Q : zQ} (hw : zaw av ≤ 2) (hr : zRun kX8_count (zG d) Q 0 (zent 2 av) [] h) : zG (d + 1) 103 av h Q := ⟨hw, hr⟩
theorem g_104 {d : Nat} {av : List Value} {h : zH} {Q : zQ} (hw : zaw av ≤ 1) (hr : zRun kX8_status (zG d) Q 0 (zent 1 av) [] h) : zG (d + 1) 104 av h Q := ⟨hw, hr⟩
theorem g_105 {d : Nat} {av : List Value} {h : zH} {Q : zQ} (hw : zaw av ≤ 6) (hr : zRun kX9_in (zG d) Q 0 (zent 6 av) [] h) : zG (d + 1) 105 av h Q := ⟨hw, hr⟩
theorem g_106 {d : Nat} {av : List Value} {h : zH} {Q : zQ} (hw : zaw av ≤ 2) (hr : zRun kX9_told (zG d) Q 0 (zent 2 av) [] h) : zG (d + 1) 106 av h Q := ⟨hw, hr⟩
theorem g_107 {d : Nat} {av : List Value} {h : zH} {Q : zQ} (hw : zaw av ≤ 1) (hr : zRun kX9_isHour (zG d) Q 0 (zent 1 av) [] h) : zG (d + 1) 107 av h Q := ⟨hw, hr⟩
theorem g_108 {d : Nat} {av : List Value} {h : zH} {Q : zQ} (hw : zaw av ≤ 7) (hr : zRun kX9_weather (zG d) Q 0 (zent 7 av) [] h) : zG (d + 1) 108 av h Q := ⟨hw, hr⟩
theorem g_109 {d : Nat} {av : List Value} {h : zH} {Q : zQ} (hw : zaw av ≤ 4) (hr : zRun kX9_isTrue (zG d) Q 0 (zent 4 av) [] h) : zG (d + 1) 109 av h Q := ⟨hw, hr⟩
theorem g_110 {d : Nat} {av : List Value} {h : zH} {Q : zQ} (hw : zaw av ≤ 7) (hr : zRun kX9_rationOf (zG d) Q 0 (zent 7 av) [] h) : zG (d + 1) 110 av h Q := ⟨hw, hr⟩
theorem g_111 {d : Nat} {av : List Value} {h : zH} {Q : zQ} (hw : zaw av ≤ 3) (hr : zRun kX9_demandOf (zG d) Q 0 (zent 3 av) [] h) : zG (d + 1) 111 av h Q := ⟨hw, hr⟩
theorem g_112 {d : Nat} {av : List Value} {h : zH} {Q : zQ} (hw : zaw av ≤ 3) (hr : zRun kX9_hour (zG d) Q 0 (zent 3 av) [] h) : zG (d + 1) 112 av h Q := ⟨hw, hr⟩
theorem g_113 {d : Nat} {av : List Value} {h : zH} {Q : zQ} (hw : zaw av ≤ 4) (hr : zRun kX9_engine (zG d) Q 0 (zent 4 av) [] h) : zG (d + 1) 113 av h Q := ⟨hw, hr⟩
theorem g_114 {d : Nat} {av : List Value} {h : zH} {Q : zQ} (hw : zaw av ≤ 3) (hr : zRun kX9_mill (zG d) Q 0 (zent 3 av) [] h) : zG (d + 1) 114 av h Q := ⟨hw, hr⟩
theorem g_115 {d : Nat} {av : List Value} {h : zH} {Q : zQ} (hw : zaw av ≤ 3) (hr : zRun kX9_demand (zG d) Q 0 (zent 3 av) [] h) : zG (d + 1) 115 av h Q := ⟨hw, hr⟩
theorem g_116 {d : Nat} {av : List Value} {h : zH} {Q : zQ} (hw : zaw av ≤ 3) (hr : zRun kX9_on (zG d) Q 0 (zent 3 av) [] h) : zG (d + 1) 116 av h Q := ⟨hw, hr⟩
theorem g_117 {d : Nat} {av : List Value} {h : zH} {Q : zQ} (hw : zaw av ≤ 5) (hr : zRun kX9_lackOf (zG d) Q 0 (zent 5 av) [] h) : zG (d + 1) 117 av h Q := ⟨hw, hr⟩
theorem g_118 {d : Nat} {av : List Value} {h : zH} {Q : zQ} (hw : zaw av ≤ 5) (hr : zRun kX9_fuelOf (zG d) Q 0 (zent 5 av) [] h) : zG (d + 1) 118 av h Q := ⟨hw, hr⟩
theorem g_119 {d : Nat} {av : List Value} {h : zH} {Q : zQ} (hw : zaw av ≤ 14) (hr : zRun kX9_plan (zG d) Q 0 (zent 14 av) [] h) : zG (d + 1) 119 av h Q := ⟨hw, hr⟩
theorem g_120 {d : Nat} {av : List Value} {h : zH} {Q : zQ} (hw : zaw av ≤ 3) (hr : zRun kX9_planned (zG d) Q 0 (zent 3 av) [] h) : zG (d + 1) 120 av h Q := ⟨hw, hr⟩
theorem g_121 {d : Nat} {av : List Value} {h : zH} {Q : zQ} (hw : zaw av ≤ 1) (hr : zRun kX9_isStack (zG d) Q 0 (zent 1 av) [] h) : zG (d + 1) 121 av h Q := ⟨hw, hr⟩
theorem g_122 {d : Nat} {av : List Value} {h : zH} {Q : zQ} (hw : zaw av ≤ 3) (hr : zRun kX9_box (zG d) Q 0 (zent 3 av) [] h) : zG (d + 1) 122 av h Q := ⟨hw, hr⟩
theorem g_123 {d : Nat} {av : List Value} {h : zH} {Q : zQ} (hw : zaw av ≤ 4) (hr : zRun kX9_above (zG d) Q 0 (zent 4 av) [] h) : zG (d + 1) 123 av h Q := ⟨hw, hr⟩
theorem g_124 {d : Nat} {av : List Value} {h : zH} {Q : zQ} (hw : zaw av ≤ 5) (hr : zRun kX9_take (zG d) Q 0 (zent 5 av) [] h) : zG (d + 1) 124 av h Q := ⟨hw, hr⟩
theorem g_125 {d : Nat} {av : List Value} {h : zH} {Q : zQ} (hw : zaw av ≤ 3) (hr : zRun kX9_stack (zG d) Q 0 (zent 3 av) [] h) : zG (d + 1) 125 av h Q := ⟨hw, hr⟩
theorem g_126 {d : Nat} {av : List Value} {h : zH} {Q : zQ} (hw : zaw av ≤ 2) (hr : zRun kX9_person (zG d) Q 0 (zent 2 av) [] h) : zG (d + 1) 126 av h Q := ⟨hw, hr⟩
theorem g_127 {d : Nat} {av : List Value} {h : zH} {Q : zQ} (hw : zaw av ≤ 4) (hr : zRun kX9_ill (zG d) Q 0 (zent 4 av) [] h) : zG (d + 1) 127 av h Q := ⟨hw, hr⟩
theorem g_128 {d : Nat} {av : List Value} {h : zH} {Q : zQ} (hw : zaw av ≤ 5) (hr : zRun kX9_work (zG d) Q 0 (zent 5 av) [] h) : zG (d + 1) 128 av h Q := ⟨hw, hr⟩
theorem g_129 {d : Nat} {av : List Value} {h : zH} {Q : zQ} (hw : zaw av ≤ 7) (hr : zRun kX9_isFree (zG d) Q 0 (zent 7 av) [] h) : zG (d + 1) 129 av h Q := ⟨hw, hr⟩
theorem g_130 {d : Nat} {av : List Value} {h : zH} {Q : zQ} (hw : zaw av ≤ 6) (hr : zRun kX9_whoAt (zG d) Q 0 (zent 6 av) [] h) : zG (d + 1) 130 av h Q := ⟨hw, hr⟩
theorem g_131 {d : Nat} {av : List Value} {h : zH} {Q : zQ} (hw : zaw av ≤ 5) (hr : zRun kX9_schedule (zG d) Q 0 (zent 5 av) [] h) : zG (d + 1) 131 av h Q := ⟨hw, hr⟩
theorem g_132 {d : Nat} {av : List Value} {h : zH} {Q : zQ} (hw : zaw av ≤ 3) (hr : zRun kX9_begins (zG d) Q 0 (zent 3 av) [] h) : zG (d + 1) 132 av h Q := ⟨hw, hr⟩
theorem g_133 {d : Nat} {av : List Value} {h : zH} {Q : zQ} (hw : zaw av ≤ 3) (hr : zRun kX9_four (zG d) Q 0 (zent 3 av) [] h) : zG (d + 1) 133 av h Q := ⟨hw, hr⟩
theorem g_134 {d : Nat} {av : List Value} {h : zH} {Q : zQ} (hw : zaw av ≤ 6) (hr : zRun kX9_feed (zG d) Q 0 (zent 6 av) [] h) : zG (d + 1) 134 av h Q := ⟨hw, hr⟩
theorem g_135 {d : Nat} {av : List Value} {h : zH} {Q : zQ} (hw : zaw av ≤ 2) (hr : zRun kX9_end (zG d) Q 0 (zent 2 av) [] h) : zG (d + 1) 135 av h Q := ⟨hw, hr⟩
theorem g_136 {d : Nat} {av : List Value} {h : zH} {Q : zQ} (hw : zaw av ≤ 1) (hr : zRun kX9_isSmall (zG d) Q 0 (zent 1 av) [] h) : zG (d + 1) 136 av h Q := ⟨hw, hr⟩
theorem g_137 {d : Nat} {av : List Value} {h : zH} {Q : zQ} (hw : zaw av ≤ 1) (hr : zRun kX9_isDigit (zG d) Q 0 (zent 1 av) [] h) : zG (d + 1) 137 av h Q := ⟨hw, hr⟩
theorem g_138 {d : Nat} {av : List Value} {h : zH} {Q : zQ} (hw : zaw av ≤ 1) (hr : zRun kX9_next (zG d) Q 0 (zent 1 av) [] h) : zG (d + 1) 138 av h Q := ⟨hw, hr⟩
theorem g_139 {d : Nat} {av : List Value} {h : zH} {Q : zQ} (hw : zaw av ≤ 9) (hr : zRun kX9_isWord (zG d) Q 0 (zent 9 av) [] h) : zG (d + 1) 139 av h Q := ⟨hw, hr⟩
theorem g_140 {d : Nat} {av : List Value} {h : zH} {Q : zQ} (hw : zaw av ≤ 2) (hr : zRun kX9_isSign (zG d) Q 0 (zent 2 av) [] h) : zG (d + 1) 140 av h Q := ⟨hw, hr⟩
theorem g_141 {d : Nat} {av : List Value} {h : zH} {Q : zQ} (hw : zaw av ≤ 2) (hr : zRun kX9_must (zG d) Q 0 (zent 2 av) [] h) : zG (d + 1) 141 av h Q := ⟨hw, hr⟩
theorem g_142 {d : Nat} {av : List Value} {h : zH} {Q : zQ} (hw : zaw av ≤ 4) (hr : zRun kX9_number (zG d) Q 0 (zent 4 av) [] h) : zG (d + 1) 142 av h Q := ⟨hw, hr⟩
theorem g_143 {d : Nat} {av : List Value} {h : zH} {Q : zQ} (hw : zaw av ≤ 6) (hr : zRun kX9_readTest (zG d) Q 0 (zent 6 av) [] h) : zG (d + 1) 143 av h Q := ⟨hw, hr⟩
theorem g_144 {d : Nat} {av : List Value} {h : zH} {Q : zQ} (hw : zaw av ≤ 5) (hr : zRun kX9_readRule (zG d) Q 0 (zent 5 av) [] h) : zG (d + 1) 144 av h Q := ⟨hw, hr⟩
theorem g_145 {d : Nat} {av : List Value} {h : zH} {Q : zQ} (hw : zaw av ≤ 2) (hr : zRun kX9_rules (zG d) Q 0 (zent 2 av) [] h) : zG (d + 1) 145 av h Q := ⟨hw, hr⟩
theorem g_146 {d : Nat} {av : List Value} {h : zH} {Q : zQ} (hw : zaw av ≤ 1) (hr : zRun kX9_fault (zG d) Q 0 (zent 1 av) [] h) : zG (d + 1) 146 av h Q := ⟨hw, hr⟩
theorem g_147 {d : Nat} {av : List Value} {h : zH} {Q : zQ} (hw : zaw av ≤ 4) (hr : zRun kX9_radio (zG d) Q 0 (zent 4 av) [] h) : zG (d + 1) 147 av h Q := ⟨hw, hr⟩
theorem g_148 {d : Nat} {av : List Value} {h : zH} {Q : zQ} (hw : zaw av ≤ 3) (hr : zRun kX9_message (zG d) Q 0 (zent 3 av) [] h) : zG (d + 1) 148 av h Q := ⟨hw, hr⟩
theorem g_149 {d : Nat} {av : List Value} {h : zH} {Q : zQ} (hw : zaw av ≤ 3) (hr : zRun kX9_fail (zG d) Q 0 (zent 3 av) [] h) : zG (d + 1) 149 av h Q := ⟨hw, hr⟩
theorem g_150 {d : Nat} {av : List Value} {h : zH} {Q : zQ} (hw : zaw av ≤ 3) (hr : zRun kX9_nextMessage (zG d) Q 0 (zent 3 av) [] h) : zG (d + 1) 150 av h Q := ⟨hw, hr⟩
theorem g_151 {d : Nat} {av : List Value} {h : zH} {Q : zQ} (hw : zaw av ≤ 5) (hr : zRun kX9_goHour (zG d) Q 0 (zent 5 av) [] h) : zG (d + 1) 151 av h Q := ⟨hw, hr⟩
theorem g_152 {d : Nat} {av : List Value} {h : zH} {Q : zQ} (hw : zaw av ≤ 3) (hr : zRun kX9_go (zG d) Q 0 (zent 3 av) [] h) : zG (d + 1) 152 av h Q := ⟨hw, hr⟩
theorem g_153 {d : Nat} {av : List Value} {h : zH} {Q : zQ} (hw : zaw av ≤ 3) (hr : zRun kX9_sent (zG d) Q 0 (zent 3 av) [] h) : zG (d + 1) 153 av h Q := ⟨hw, hr⟩
theorem g_154 {d : Nat} {av : List Value} {h : zH} {Q : zQ} (hw : zaw av ≤ 6) (hr : zRun kX9_arrived (zG d) Q 0 (zent 6 av) [] h) : zG (d + 1) 154 av h Q := ⟨hw, hr⟩
theorem g_155 {d : Nat} {av : List Value} {h : zH} {Q : zQ} (hw : zaw av ≤ 5) (hr : zRun kX9_land (zG d) Q 0 (zent 5 av) [] h) : zG (d + 1) 155 av h Q := ⟨hw, hr⟩
theorem g_156 {d : Nat} {av : List Value} {h : zH} {Q : zQ} (hw : zaw av ≤ 4) (hr : zRun kX9_count (zG d) Q 0 (zent 4 av) [] h) : zG (d + 1) 156 av h Q := ⟨hw, hr⟩
theorem g_157 {d : Nat} {av : List Value} {h : zH} {Q : zQ} (hw : zaw av ≤ 1) (hr : zRun kX9_status (zG d) Q 0 (zent 1 av) [] h) : zG (d + 1) 157 av h Q := ⟨hw, hr⟩
