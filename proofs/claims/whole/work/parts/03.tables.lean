/-! the words that hold at every moment, the methods by their numbers, what each place of a pool links -/
def zgood : Cond → Bool
  | .methodLinkNest .. => true
  | .fieldLinkNest .. => true
  | w => w.onTables && w.keeps
def ztb : List Cond := lw_tbl.filter zgood
def zIn (i : Nat) (w : Cond) : Bool := zgood w && decide (lw_tbl[i]? = some w)
theorem zIn_mem {i : Nat} {w : Cond} (h : zIn i w = true) : w ∈ ztb := by
  unfold zIn at h
  rw [Bool.and_eq_true, decide_eq_true_eq] at h
  exact List.mem_filter.mpr ⟨List.mem_of_getElem? h.2, h.1⟩
/-- a method: its name, code, words of locals, kind of answer; whether it is static; how many arguments; its room (frames, locals) -/
abbrev zM : Type := MethodName × ByteArray × Nat × Option FieldType × Bool × Nat × Nat × Nat
def zms : List zM := [(yX8_within, cX8_within, 3, (some .boolean), true, 3, 0, 0),
  (yX0_addPerson, cX0_addPerson, 2, (some .int), false, 1, 1, 22),
  (yX8_isHour, cX8_isHour, 1, (some .boolean), true, 1, 1, 22),
  (yX8_isSpan, cX8_isSpan, 2, (some .boolean), true, 2, 2, 42),
  (yX0_addSpell, cX0_addSpell, 4, (some .int), false, 3, 3, 63),
  (yX0_addWork, cX0_addWork, 6, (some .int), false, 4, 1, 22),
  (yX0_skilledFor, cX0_skilledFor, 4, (some .int), false, 1, 0, 0),
  (yJ6_bitCount_0f7a4, cJ6_bitCount_0f7a4, 1, (some .int), true, 1, 0, 0),
  (yX5_lightAt, cX5_lightAt, 2, (some .boolean), false, 1, 0, 0),
  (yX5_coldAt, cX5_coldAt, 2, (some .int), false, 1, 0, 0),
  (yX0_isWeatherFor, cX0_isWeatherFor, 9, (some .boolean), false, 4, 1, 21),
  (yX0_illDuring, cX0_illDuring, 5, (some .int), false, 2, 0, 0),
  (yX0_busyAround, cX0_busyAround, 9, (some .int), false, 3, 0, 0),
  (yX0_lowestOf, cX0_lowestOf, 4, (some .int), true, 2, 0, 0),
  (yX0_place, cX0_place, 9, none, false, 4, 2, 49),
  (yX0_makeSchedule, cX0_makeSchedule, 6, (some .int), false, 3, 3, 77),
  (yX0_ofWork, cX0_ofWork, 3, (some .int), false, 2, 1, 22),
  (yX1_addEngine, cX1_addEngine, 6, (some .int), false, 3, 1, 22),
  (yX1_setMill, cX1_setMill, 3, (some .int), false, 2, 1, 22),
  (yX1_setDemand, cX1_setDemand, 3, (some .int), false, 2, 1, 22),
  (yX1_switchOn, cX1_switchOn, 3, (some .int), false, 1, 1, 22),
  (yX5_windAt, cX5_windAt, 2, (some .int), false, 1, 0, 0),
  (yX1_millAt, cX1_millAt, 3, (some .int), false, 2, 1, 21),
  (yX3_testHolds, cX3_testHolds, 5, (some .boolean), false, 3, 1, 21),
  (yX3_holds, cX3_holds, 7, (some .boolean), false, 4, 2, 45),
  (yX3_rationAt, cX3_rationAt, 6, (some .int), false, 2, 3, 71),
  (yX1_demandLeft, cX1_demandLeft, 5, (some .int), false, 3, 4, 96),
  (yX1_lackOf, cX1_lackOf, 3, (some .int), false, 2, 1, 21),
  (yX1_weighSet, cX1_weighSet, 7, none, false, 2, 0, 0),
  (yX1_weighHour, cX1_weighHour, 6, none, false, 2, 2, 60),
  (yX1_keepPlan, cX1_keepPlan, 4, none, false, 1, 0, 0),
  (yX1_makePlan, cX1_makePlan, 7, (some .int), false, 4, 5, 120),
  (yX1_ofPlan, cX1_ofPlan, 3, (some .int), false, 2, 1, 22),
  (yX2_tune, cX2_tune, 5, (some .int), false, 3, 1, 22),
  (yX2_addMessage, cX2_addMessage, 3, (some .int), false, 2, 1, 22),
  (yX2_addFailure, cX2_addFailure, 3, (some .int), false, 2, 2, 42),
  (yX2_isAllSent, cX2_isAllSent, 2, (some .boolean), false, 1, 0, 0),
  (yX2_sendPart, cX2_sendPart, 5, (some .int), false, 3, 1, 21),
  (yX2_passHour, cX2_passHour, 5, none, false, 1, 2, 45),
  (yX2_isMessage, cX2_isMessage, 2, (some .boolean), false, 1, 1, 22),
  (yX2_ofMessage, cX2_ofMessage, 3, (some .int), false, 2, 2, 43),
  (yX2_hasArrived, cX2_hasArrived, 6, (some .int), false, 2, 2, 43),
  (yX3_clear, cX3_clear, 1, none, false, 0, 0, 0),
  (yX3_roomForTests, cX3_roomForTests, 1, (some .int), false, 0, 0, 0),
  (yX3_addRest, cX3_addRest, 2, none, false, 1, 0, 0),
  (yX3_addCold, cX3_addCold, 2, none, false, 1, 0, 0),
  (yX3_addTest, cX3_addTest, 5, none, false, 4, 0, 0),
  (yX3_addIf, cX3_addIf, 2, none, false, 1, 0, 0),
  (yX4_isLetter, cX4_isLetter, 1, (some .boolean), true, 1, 1, 22),
  (yX4_isDigit, cX4_isDigit, 1, (some .boolean), true, 1, 1, 22),
  (yX4_isSameRow, cX4_isSameRow, 2, (some .boolean), true, 2, 2, 42),
  (yX4_endOfToken, cX4_endOfToken, 4, (some .int), true, 2, 3, 63),
  (yX4_isWord, cX4_isWord, 5, (some .boolean), true, 4, 5, 106),
  (yX4_wordToken, cX4_wordToken, 3, (some .int), true, 3, 6, 130),
  (yX4_numberToken, cX4_numberToken, 5, (some .int), true, 3, 1, 21),
  (yX4_signToken, cX4_signToken, 1, (some .int), true, 1, 0, 0),
  (yX4_tokenOf, cX4_tokenOf, 4, (some .int), true, 3, 7, 152),
  (yX4_split, cX4_split, 4, none, false, 1, 8, 175),
  (yX4_token, cX4_token, 1, (some .int), false, 0, 0, 0),
  (yX4_readTest, cX4_readTest, 7, (some .boolean), false, 2, 1, 24),
  (yX4_readIf, cX4_readIf, 5, (some .boolean), false, 1, 2, 50),
  (yX4_readRule, cX4_readRule, 4, (some .boolean), false, 1, 3, 74),
  (yX4_read, cX4_read, 4, (some .boolean), false, 2, 9, 198),
  (yX4_place, cX4_place, 1, (some .int), false, 0, 0, 0),
  (yX5_cover, cX5_cover, 8, none, false, 5, 0, 0),
  (yX5_isCalm, cX5_isCalm, 2, (some .boolean), false, 1, 1, 21),
  (yX5_firstLanding, cX5_firstLanding, 4, (some .int), false, 1, 2, 42),
  (yX6_isStack, cX6_isStack, 1, (some .boolean), true, 1, 1, 22),
  (yX6_put, cX6_put, 4, (some .int), false, 2, 2, 42),
  (yX6_boxesAbove, cX6_boxesAbove, 5, (some .int), false, 2, 0, 0),
  (yX6_removeBelow, cX6_removeBelow, 6, none, false, 2, 0, 0),
  (yX6_takeOne, cX6_takeOne, 6, (some .int), false, 1, 1, 25),
  (yX6_ofStack, cX6_ofStack, 3, (some .int), false, 2, 2, 42),
  (yX7_hasRoom, cX7_hasRoom, 1, (some .boolean), false, 0, 0, 0),
  (yX7_append, cX7_append, 3, none, false, 1, 0, 0),
  (yX8_answered, cX8_answered, 2, (some .int), false, 1, 1, 21),
  (yX8_weather, cX8_weather, 8, (some .int), false, 5, 3, 63),
  (yX8_hour, cX8_hour, 3, (some .int), false, 2, 5, 120),
  (yX8_engine, cX8_engine, 4, (some .int), false, 3, 2, 47),
  (yX8_mill, cX8_mill, 3, (some .int), false, 2, 2, 44),
  (yX8_demand, cX8_demand, 3, (some .int), false, 2, 2, 44),
  (yX8_on, cX8_on, 2, (some .int), false, 1, 2, 44),
  (yX8_plan, cX8_plan, 2, (some .int), false, 1, 6, 146),
  (yX8_planned, cX8_planned, 3, (some .int), false, 2, 2, 44),
  (yX8_box, cX8_box, 3, (some .int), false, 2, 3, 65),
  (yX8_take, cX8_take, 2, (some .int), false, 1, 2, 50),
  (yX8_stack, cX8_stack, 3, (some .int), false, 2, 3, 64),
  (yX8_person, cX8_person, 2, (some .int), false, 1, 2, 43),
  (yX8_ill, cX8_ill, 4, (some .int), false, 3, 4, 86),
  (yX8_work, cX8_work, 5, (some .int), false, 4, 2, 47),
  (yX8_schedule, cX8_schedule, 1, (some .int), false, 0, 4, 102),
  (yX8_begins, cX8_begins, 3, (some .int), false, 2, 2, 44),
  (yX8_feed, cX8_feed, 6, (some .int), false, 5, 1, 22),
  (yX8_end, cX8_end, 2, (some .int), false, 1, 1, 22),
  (yX8_rules, cX8_rules, 3, (some .int), false, 0, 10, 221),
  (yX8_fault, cX8_fault, 1, (some .int), false, 0, 0, 0),
  (yX8_radio, cX8_radio, 4, (some .int), false, 3, 2, 46),
  (yX8_message, cX8_message, 3, (some .int), false, 2, 2, 44),
  (yX8_fail, cX8_fail, 3, (some .int), false, 2, 3, 64),
  (yX8_go, cX8_go, 4, (some .int), false, 1, 3, 69),
  (yX8_sent, cX8_sent, 3, (some .int), false, 2, 3, 65),
  (yX8_arrived, cX8_arrived, 3, (some .int), false, 2, 3, 68),
  (yX8_land, cX8_land, 2, (some .int), false, 1, 3, 65),
  (yX8_count, cX8_count, 2, (some .int), false, 1, 0, 0),
  (yX8_status, cX8_status, 1, (some .int), false, 0, 0, 0),
  (yX9_in, cX9_in, 6, (some .boolean), true, 3, 0, 0),
  (yX9_told, cX9_told, 2, (some .int), false, 1, 0, 0),
  (yX9_isHour, cX9_isHour, 1, (some .boolean), true, 1, 1, 25),
  (yX9_weather, cX9_weather, 7, (some .int), false, 5, 2, 45),
  (yX9_isTrue, cX9_isTrue, 4, (some .boolean), false, 2, 0, 0),
  (yX9_rationOf, cX9_rationOf, 7, (some .int), false, 1, 1, 23),
  (yX9_demandOf, cX9_demandOf, 3, (some .int), false, 1, 2, 49),
  (yX9_hour, cX9_hour, 3, (some .int), false, 2, 3, 71),
  (yX9_engine, cX9_engine, 4, (some .int), false, 3, 1, 25),
  (yX9_mill, cX9_mill, 3, (some .int), false, 2, 1, 25),
  (yX9_demand, cX9_demand, 3, (some .int), false, 2, 1, 25),
  (yX9_on, cX9_on, 3, (some .int), false, 1, 1, 25),
  (yX9_lackOf, cX9_lackOf, 5, (some .int), false, 2, 3, 71),
  (yX9_fuelOf, cX9_fuelOf, 5, (some .int), false, 2, 0, 0),
  (yX9_plan, cX9_plan, 14, (some .int), false, 1, 4, 95),
  (yX9_planned, cX9_planned, 3, (some .int), false, 2, 1, 25),
  (yX9_isStack, cX9_isStack, 1, (some .boolean), true, 1, 1, 25),
  (yX9_box, cX9_box, 3, (some .int), false, 2, 2, 45),
  (yX9_above, cX9_above, 4, (some .int), false, 2, 0, 0),
  (yX9_take, cX9_take, 5, (some .int), false, 1, 1, 25),
  (yX9_stack, cX9_stack, 3, (some .int), false, 2, 2, 45),
  (yX9_person, cX9_person, 2, (some .int), false, 1, 1, 25),
  (yX9_ill, cX9_ill, 4, (some .int), false, 3, 2, 45),
  (yX9_work, cX9_work, 5, (some .int), false, 4, 1, 25),
  (yX9_isFree, cX9_isFree, 7, (some .boolean), false, 3, 0, 0),
  (yX9_whoAt, cX9_whoAt, 6, (some .int), false, 2, 1, 26),
  (yX9_schedule, cX9_schedule, 5, (some .int), false, 0, 2, 51),
  (yX9_begins, cX9_begins, 3, (some .int), false, 2, 1, 25),
  (yX9_four, cX9_four, 3, none, false, 1, 0, 0),
  (yX9_feed, cX9_feed, 6, (some .int), false, 5, 1, 22),
  (yX9_end, cX9_end, 2, (some .int), false, 1, 0, 0),
  (yX9_isSmall, cX9_isSmall, 1, (some .boolean), true, 1, 0, 0),
  (yX9_isDigit, cX9_isDigit, 1, (some .boolean), true, 1, 0, 0),
  (yX9_next, cX9_next, 1, none, false, 0, 1, 20),
  (yX9_isWord, cX9_isWord, 9, (some .boolean), false, 6, 0, 0),
  (yX9_isSign, cX9_isSign, 2, (some .boolean), false, 1, 0, 0),
  (yX9_must, cX9_must, 2, none, false, 1, 2, 40),
  (yX9_number, cX9_number, 4, (some .int), false, 1, 3, 61),
  (yX9_readTest, cX9_readTest, 6, none, false, 1, 4, 84),
  (yX9_readRule, cX9_readRule, 5, none, false, 0, 5, 109),
  (yX9_rules, cX9_rules, 2, (some .int), false, 0, 6, 133),
  (yX9_fault, cX9_fault, 1, (some .int), false, 0, 0, 0),
  (yX9_radio, cX9_radio, 4, (some .int), false, 3, 1, 25),
  (yX9_message, cX9_message, 3, (some .int), false, 2, 1, 25),
  (yX9_fail, cX9_fail, 3, (some .int), false, 2, 2, 45),
  (yX9_nextMessage, cX9_nextMessage, 3, (some .int), false, 0, 0, 0),
  (yX9_goHour, cX9_goHour, 5, none, false, 0, 1, 25),
  (yX9_go, cX9_go, 3, (some .int), false, 1, 2, 49),
  (yX9_sent, cX9_sent, 3, (some .int), false, 2, 1, 25),
  (yX9_arrived, cX9_arrived, 6, (some .int), false, 2, 1, 25),
  (yX9_land, cX9_land, 5, (some .int), false, 1, 2, 45),
  (yX9_count, cX9_count, 4, (some .int), false, 1, 0, 0),
  (yX9_status, cX9_status, 1, (some .int), false, 0, 0, 0)]
def zfl0 : List ((Nat × Nat × Nat) × Bool × Nat) := [((11, 0, 0), false, 157), ((15, 0, 1), false, 158), ((18, 0, 2), false, 159), ((21, 0, 3), false, 160), ((24, 0, 4), false, 161), ((27, 0, 5), false, 162), ((30, 0, 6), false, 163), ((33, 0, 7), false, 164), ((36, 0, 8), false, 165), ((39, 0, 9), false, 166), ((46, 0, 10), false, 167), ((54, 0, 11), false, 169), ((57, 0, 12), false, 170), ((64, 0, 13), false, 172), ((82, 3, 10), true, 312), ((94, 3, 9), true, 309)]
def zml0 : List ((Nat × Nat) × Bool × Nat × Nat × Nat × Nat × Nat) := [((42, 0), true, 557, 387, 43, 386, 0), ((50, 3), true, 566, 381, 43, 380, 0), ((60, 14), false, 583, 586, 47, 585, 9), ((67, 6), false, 587, 590, 47, 589, 10), ((71, 7), false, 591, 593, 55, 592, 0), ((87, 10), false, 598, 601, 47, 600, 11), ((91, 11), false, 604, 607, 47, 606, 12), ((97, 12), false, 608, 611, 47, 610, 13), ((101, 13), false, 612, 614, 47, 613, 0), ((104, 8), false, 602, 410, 44, 408, 409), ((110, 9), false, 603, 414, 44, 412, 413)]
def zcl0 : List ((Nat × Value) × Nat) := []
def zfl1 : List ((Nat × Nat × Nat) × Bool × Nat) := [((11, 1, 0), false, 85), ((15, 1, 1), false, 86), ((18, 1, 2), false, 87), ((21, 1, 3), false, 88), ((24, 1, 4), false, 89), ((27, 1, 5), false, 90), ((31, 1, 6), false, 91), ((34, 1, 7), false, 92), ((37, 1, 8), false, 93), ((40, 1, 9), false, 94), ((47, 1, 13), false, 98), ((51, 1, 12), false, 97), ((100, 1, 11), false, 96), ((103, 1, 10), false, 95)]
def zml1 : List ((Nat × Nat) × Bool × Nat × Nat × Nat × Nat × Nat) := [((43, 0), true, 447, 387, 43, 386, 0), ((54, 21), false, 438, 406, 44, 404, 405), ((60, 25), false, 433, 418, 51, 416, 417), ((66, 26), false, 480, 432, 45, 430, 431), ((70, 22), false, 481, 437, 45, 435, 436), ((73, 29), false, 482, 485, 45, 484, 3), ((77, 30), false, 501, 504, 45, 503, 6), ((81, 27), false, 486, 489, 45, 488, 4), ((86, 28), false, 494, 497, 45, 496, 5)]
def zcl1 : List ((Nat × Value) × Nat) := [((85, .int 1000000), 493)]
def zfl2 : List ((Nat × Nat × Nat) × Bool × Nat) := [((9, 2, 1), false, 247), ((15, 2, 2), false, 248), ((18, 2, 3), false, 249), ((22, 2, 4), false, 250), ((25, 2, 5), false, 251), ((28, 2, 6), false, 252), ((31, 2, 7), false, 253), ((34, 2, 8), false, 254), ((38, 2, 9), false, 255), ((41, 2, 10), false, 256), ((48, 2, 0), false, 246), ((51, 2, 11), false, 257), ((59, 2, 12), false, 259), ((75, 2, 13), false, 261)]
def zml2 : List ((Nat × Nat) × Bool × Nat × Nat × Nat × Nat × Nat) := [((44, 0), true, 792, 387, 43, 386, 0), ((54, 2), true, 809, 384, 43, 383, 0), ((62, 36), false, 819, 822, 50, 821, 19), ((65, 37), false, 823, 826, 50, 825, 20), ((78, 39), false, 836, 839, 50, 838, 21)]
def zcl2 : List ((Nat × Value) × Nat) := [((58, .int 100000), 810)]
def zfl3 : List ((Nat × Nat × Nat) × Bool × Nat) := [((11, 3, 0), false, 298), ((15, 3, 1), false, 299), ((19, 3, 2), false, 300), ((22, 3, 3), false, 301), ((25, 3, 4), false, 302), ((28, 3, 5), false, 303), ((31, 3, 10), false, 311), ((35, 3, 6), false, 304), ((38, 3, 7), false, 306), ((41, 3, 8), false, 307), ((44, 3, 9), false, 308)]
def zml3 : List ((Nat × Nat) × Bool × Nat × Nat × Nat × Nat × Nat) := [((47, 24), false, 419, 422, 51, 421, 1), ((51, 23), false, 423, 426, 51, 425, 2), ((57, 21), false, 427, 406, 44, 404, 405), ((63, 9), false, 428, 414, 44, 412, 413)]
def zcl3 : List ((Nat × Value) × Nat) := []
def zfl4 : List ((Nat × Nat × Nat) × Bool × Nat) := [((9, 4, 0), false, 224), ((15, 4, 1), false, 225), ((27, 4, 4), false, 228), ((39, 4, 2), false, 226), ((42, 4, 3), false, 227), ((75, 7, 1), true, 211), ((78, 7, 0), true, 209)]
def zml4 : List ((Nat × Nat) × Bool × Nat × Nat × Nat × Nat × Nat) := [((18, 57), false, 647, 650, 49, 649, 14), ((22, 42), false, 736, 739, 51, 737, 738), ((31, 58), false, 740, 743, 49, 742, 15), ((35, 61), false, 744, 747, 49, 746, 16), ((45, 60), false, 748, 751, 49, 750, 17), ((48, 0), true, 660, 387, 43, 386, 0), ((54, 44), false, 768, 771, 51, 769, 770), ((58, 45), false, 772, 775, 51, 773, 774), ((61, 43), false, 752, 755, 51, 753, 754), ((64, 59), false, 756, 759, 49, 758, 18), ((68, 47), false, 764, 767, 51, 765, 766), ((71, 46), false, 760, 763, 51, 761, 762), ((82, 51), false, 651, 653, 49, 652, 0), ((86, 56), false, 664, 666, 49, 665, 0), ((90, 50), false, 654, 656, 49, 655, 0), ((94, 48), false, 657, 659, 49, 658, 0), ((98, 49), false, 661, 663, 49, 662, 0), ((101, 53), false, 667, 669, 49, 668, 0), ((104, 54), false, 729, 731, 49, 730, 0), ((107, 55), false, 733, 735, 49, 734, 0), ((119, 52), false, 671, 673, 49, 672, 0)]
def zcl4 : List ((Nat × Value) × Nat) := []
def zfl5 : List ((Nat × Nat × Nat) × Bool × Nat) := [((9, 5, 0), false, 74)]
def zml5 : List ((Nat × Nat) × Bool × Nat × Nat × Nat × Nat × Nat) := [((15, 65), false, 856, 859, 44, 858, 22), ((19, 8), false, 860, 410, 44, 408, 409), ((22, 21), false, 861, 406, 44, 404, 405), ((26, 9), false, 862, 414, 44, 412, 413)]
def zcl5 : List ((Nat × Value) × Nat) := []
def zfl6 : List ((Nat × Nat × Nat) × Bool × Nat) := [((11, 6, 0), false, 136), ((15, 6, 1), false, 137), ((26, 6, 2), false, 138), ((38, 6, 3), false, 140)]
def zml6 : List ((Nat × Nat) × Bool × Nat × Nat × Nat × Nat × Nat) := [((18, 0), true, 521, 387, 43, 386, 0), ((22, 67), false, 522, 524, 46, 523, 0), ((30, 69), false, 533, 536, 46, 535, 7), ((34, 70), false, 537, 540, 46, 539, 8)]
def zcl6 : List ((Nat × Value) × Nat) := []
def zfl7 : List ((Nat × Nat × Nat) × Bool × Nat) := [((9, 7, 0), false, 208), ((13, 7, 1), false, 210)]
def zml7 : List ((Nat × Nat) × Bool × Nat × Nat × Nat × Nat × Nat) := []
def zcl7 : List ((Nat × Value) × Nat) := []
def zfl8 : List ((Nat × Nat × Nat) × Bool × Nat) := [((10, 8, 0), false, 338), ((19, 8, 1), false, 339), ((26, 8, 2), false, 340), ((33, 8, 3), false, 341), ((40, 8, 4), false, 342), ((47, 8, 5), false, 343), ((54, 8, 6), false, 344), ((61, 8, 7), false, 345), ((65, 8, 8), false, 346), ((68, 8, 10), false, 348), ((126, 8, 9), false, 347), ((169, 7, 1), true, 212), ((180, 3, 6), true, 305), ((204, 1, 13), true, 99), ((207, 6, 2), true, 139), ((210, 6, 3), true, 141), ((213, 0, 10), true, 168), ((216, 0, 12), true, 171), ((219, 2, 11), true, 258), ((222, 2, 12), true, 260), ((225, 2, 13), true, 262), ((228, 3, 9), true, 310), ((231, 3, 10), true, 313), ((234, 8, 11), false, 349)]
def zml8 : List ((Nat × Nat) × Bool × Nat × Nat × Nat × Nat × Nat) := [((72, 3), false, 379, 381, 43, 380, 0), ((76, 0), false, 385, 387, 43, 386, 0), ((80, 75), false, 388, 391, 43, 390, 0), ((84, 64), false, 395, 398, 44, 396, 397), ((88, 2), false, 382, 384, 43, 383, 0), ((92, 21), false, 403, 406, 44, 404, 405), ((95, 8), false, 407, 410, 44, 408, 409), ((98, 9), false, 411, 414, 44, 412, 413), ((101, 25), false, 415, 418, 51, 416, 417), ((105, 26), false, 429, 432, 45, 430, 431), ((109, 22), false, 434, 437, 45, 435, 436), ((112, 17), false, 443, 446, 45, 444, 445), ((116, 18), false, 452, 455, 45, 453, 454), ((120, 19), false, 460, 463, 45, 461, 462), ((123, 20), false, 468, 471, 45, 469, 470), ((129, 31), false, 476, 479, 45, 477, 478), ((133, 32), false, 509, 512, 45, 510, 511), ((136, 68), false, 517, 520, 46, 518, 519), ((139, 71), false, 529, 532, 46, 530, 531), ((142, 72), false, 545, 548, 46, 546, 547), ((145, 1), false, 553, 556, 47, 554, 555), ((148, 4), false, 562, 565, 47, 563, 564), ((151, 5), false, 571, 574, 47, 572, 573), ((155, 15), false, 579, 582, 47, 580, 581), ((158, 16), false, 619, 622, 47, 620, 621), ((161, 73), false, 627, 630, 48, 628, 629), ((165, 74), false, 631, 634, 48, 632, 633), ((172, 62), false, 643, 646, 49, 644, 645), ((176, 63), false, 776, 779, 49, 777, 778), ((183, 33), false, 788, 791, 50, 789, 790), ((186, 34), false, 797, 800, 50, 798, 799), ((189, 35), false, 805, 808, 50, 806, 807), ((192, 38), false, 815, 818, 50, 816, 817), ((195, 40), false, 832, 835, 50, 833, 834), ((198, 41), false, 844, 847, 50, 845, 846), ((201, 66), false, 852, 855, 44, 853, 854)]
def zcl8 : List ((Nat × Value) × Nat) := []
def zfl9 : List ((Nat × Nat × Nat) × Bool × Nat) := [((7, 9, 3), false, 880), ((13, 9, 4), false, 881), ((17, 9, 5), false, 882), ((20, 9, 8), false, 885), ((24, 9, 10), false, 887), ((27, 9, 11), false, 888), ((30, 9, 12), false, 889), ((33, 9, 13), false, 890), ((36, 9, 14), false, 891), ((39, 9, 15), false, 892), ((42, 9, 17), false, 894), ((45, 9, 18), false, 895), ((48, 9, 19), false, 896), ((51, 9, 20), false, 897), ((54, 9, 21), false, 898), ((57, 9, 23), false, 900), ((60, 9, 24), false, 901), ((63, 9, 25), false, 902), ((66, 9, 27), false, 904), ((70, 9, 28), false, 905), ((73, 9, 29), false, 906), ((76, 9, 30), false, 907), ((79, 9, 31), false, 908), ((82, 9, 34), false, 911), ((85, 9, 36), false, 913), ((88, 9, 37), false, 914), ((91, 9, 38), false, 915), ((94, 9, 40), false, 917), ((97, 9, 41), false, 918), ((100, 9, 42), false, 919), ((103, 9, 43), false, 920), ((106, 9, 44), false, 921), ((109, 9, 45), false, 922), ((112, 9, 47), false, 924), ((115, 9, 53), false, 930), ((118, 9, 60), false, 937), ((121, 9, 61), false, 938), ((124, 9, 62), false, 939), ((127, 9, 63), false, 940), ((130, 9, 64), false, 941), ((133, 9, 65), false, 942), ((136, 9, 67), false, 944), ((139, 9, 68), false, 945), ((142, 9, 70), false, 947), ((145, 9, 71), false, 948), ((148, 9, 72), false, 949), ((151, 9, 73), false, 950), ((154, 9, 74), false, 951), ((157, 9, 76), false, 953), ((160, 9, 77), false, 954), ((163, 9, 79), false, 956), ((166, 9, 80), false, 957), ((169, 9, 0), false, 877), ((172, 9, 1), false, 878), ((195, 9, 9), false, 886), ((210, 9, 16), false, 893), ((217, 9, 22), false, 899), ((222, 9, 2), false, 879), ((234, 9, 26), false, 903), ((248, 9, 32), false, 909), ((253, 9, 33), false, 910), ((256, 9, 35), false, 912), ((265, 9, 39), false, 916), ((268, 9, 7), false, 884), ((278, 9, 46), false, 923), ((281, 9, 48), false, 925), ((288, 9, 50), false, 927), ((291, 9, 49), false, 926), ((294, 9, 52), false, 929), ((303, 9, 51), false, 928), ((314, 9, 54), false, 931), ((329, 9, 59), false, 936), ((339, 9, 55), false, 932), ((342, 9, 56), false, 933), ((345, 9, 57), false, 934), ((348, 9, 58), false, 935), ((357, 9, 6), false, 883), ((360, 9, 66), false, 943), ((363, 9, 69), false, 946), ((368, 9, 78), false, 955), ((375, 9, 81), false, 958), ((378, 9, 75), false, 952)]
def zml9 : List ((Nat × Nat) × Bool × Nat × Nat × Nat × Nat × Nat) := [((177, 105), false, 1133, 1135, 52, 1134, 0), ((181, 107), false, 1129, 1131, 52, 1130, 0), ((191, 106), false, 1139, 1142, 52, 1141, 23), ((198, 109), false, 1151, 1154, 52, 1153, 25), ((202, 110), false, 1147, 1150, 52, 1149, 24), ((205, 111), false, 1155, 1158, 52, 1157, 26), ((225, 117), false, 1183, 1186, 52, 1185, 27), ((231, 118), false, 1188, 1191, 52, 1190, 28), ((242, 121), false, 1201, 1203, 52, 1202, 0), ((245, 123), false, 1209, 1212, 52, 1211, 29), ((271, 129), false, 1241, 1244, 52, 1243, 31), ((275, 130), false, 1237, 1240, 52, 1239, 30), ((284, 133), false, 1253, 1256, 52, 1255, 32), ((297, 136), false, 1269, 1271, 52, 1270, 0), ((300, 137), false, 1272, 1274, 52, 1273, 0), ((318, 138), false, 1265, 1268, 52, 1267, 33), ((321, 141), false, 1287, 1290, 52, 1289, 36), ((325, 139), false, 1283, 1286, 52, 1285, 35), ((332, 140), false, 1299, 1302, 52, 1301, 39), ((335, 142), false, 1291, 1294, 52, 1293, 37), ((351, 143), false, 1295, 1298, 52, 1297, 38), ((354, 144), false, 1279, 1282, 52, 1281, 34), ((371, 150), false, 1329, 1332, 52, 1331, 41), ((383, 151), false, 1325, 1328, 52, 1327, 40)]
def zcl9 : List ((Nat × Value) × Nat) := [((175, .long 2399), 1132), ((185, .long 60), 1136), ((187, .long (-90)), 1137), ((189, .long 20), 1138), ((208, .long 1000), 1163), ((213, .long 23), 1172), ((215, .long 10000), 1173), ((220, .long 100), 1182), ((229, .long (-1)), 1187), ((238, .long 5), 1204), ((240, .long 9), 1200), ((251, .long 255), 1221), ((259, .long 24), 1230), ((261, .long 4), 1231), ((263, .long 3), 1232), ((306, .long 32), 1275), ((308, .long 96), 1276), ((310, .long 10), 1277), ((312, .long 48), 1278), ((366, .long 100000), 1319), ((381, .long 200), 1324)]
def zfl10 : List ((Nat × Nat × Nat) × Bool × Nat) := []
def zml10 : List ((Nat × Nat) × Bool × Nat × Nat × Nat × Nat × Nat) := []
def zcl10 : List ((Nat × Value) × Nat) := [((265, .int 1431655765), 594), ((266, .int 858993459), 595), ((267, .int 252645135), 596)]
def zfl (o : Nat) : List ((Nat × Nat × Nat) × Bool × Nat) := match o with
  | 0 => zfl0
  | 1 => zfl1
  | 2 => zfl2
  | 3 => zfl3
  | 4 => zfl4
  | 5 => zfl5
  | 6 => zfl6
  | 7 => zfl7
  | 8 => zfl8
  | 9 => zfl9
  | 10 => zfl10
  | _ => []
def zml (o : Nat) : List ((Nat × Nat) × Bool × Nat × Nat × Nat × Nat × Nat) := match o with
  | 0 => zml0
  | 1 => zml1
  | 2 => zml2
  | 3 => zml3
  | 4 => zml4
  | 5 => zml5
  | 6 => zml6
  | 7 => zml7
  | 8 => zml8
  | 9 => zml9
  | 10 => zml10
  | _ => []
def zcl (o : Nat) : List ((Nat × Value) × Nat) := match o with
  | 0 => zcl0
  | 1 => zcl1
  | 2 => zcl2
  | 3 => zcl3
  | 4 => zcl4
  | 5 => zcl5
  | 6 => zcl6
  | 7 => zcl7
  | 8 => zcl8
  | 9 => zcl9
  | 10 => zcl10
  | _ => []
def zow (o : Nat) : String := match o with
  | 0 => RX0
  | 1 => RX1
  | 2 => RX2
  | 3 => RX3
  | 4 => RX4
  | 5 => RX5
  | 6 => RX6
  | 7 => RX7
  | 8 => RX8
  | 9 => RX9
  | 10 => RJ6
  | _ => ""
def zFb (own : String) (q : (Nat × Nat × Nat) × Bool × Nat) : Bool := match vwCl[q.1.2.1]? with
  | some (_, T, N) => decide (q.1.2.2 < N) && zIn q.2.2 (if q.2.1 then .fieldLinkNest own q.1.1 (T q.1.2.2).1 (T q.1.2.2).2.1 (T q.1.2.2).2.2.1 "WinterStation" else .fieldLink own q.1.1 (T q.1.2.2).1 (T q.1.2.2).2.1 (T q.1.2.2).2.2.1)
  | none => false
def zMb (own : String) (q : (Nat × Nat) × Bool × Nat × Nat × Nat × Nat × Nat) : Bool := match zms[q.1.2]? with
  | some (y, _, _, _, st, n, _, _) => zIn q.2.2.1 (if q.2.1 then .methodLinkNest own q.1.1 y "WinterStation" else .methodLink own q.1.1 y) && zIn q.2.2.2.2.1 (.initialized y.cls) && (if st then zIn q.2.2.2.2.2.1 (.static y) else zIn q.2.2.2.2.2.1 (.instanceMethod y) && zIn q.2.2.2.2.2.2 (.selects y.cls y y)) && (decide (y.cls ≠ "java/lang/invoke/MethodHandle") && decide (y.cls ≠ "java/lang/invoke/VarHandle") && decide ((parseMethodDescriptor y.desc).map (fun d => d.parameters.length) = some n))
  | none => false
def zCb (own : String) (q : (Nat × Value) × Nat) : Bool := match q.1.2 with
  | .int v => zIn q.2 (.constant own q.1.1 v)
  | .long v => zIn q.2 (.constantLong own q.1.1 v)
  | _ => false
set_option maxRecDepth 100000 in
theorem zf_0 : (zfl 0).all (zFb (zow 0)) = true := by decide +kernel
set_option maxRecDepth 100000 in
theorem zm_0 : (zml 0).all (zMb (zow 0)) = true := by decide +kernel
set_option maxRecDepth 100000 in
theorem zc_0 : (zcl 0).all (zCb (zow 0)) = true := by decide +kernel
set_option maxRecDepth 100000 in
theorem zf_1 : (zfl 1).all (zFb (zow 1)) = true := by decide +kernel
set_option maxRecDepth 100000 in
theorem zm_1 : (zml 1).all (zMb (zow 1)) = true := by decide +kernel
set_option maxRecDepth 100000 in
theorem zc_1 : (zcl 1).all (zCb (zow 1)) = true := by decide +kernel
set_option maxRecDepth 100000 in
theorem zf_2 : (zfl 2).all (zFb (zow 2)) = true := by decide +kernel
set_option maxRecDepth 100000 in
theorem zm_2 : (zml 2).all (zMb (zow 2)) = true := by decide +kernel
set_option maxRecDepth 100000 in
theorem zc_2 : (zcl 2).all (zCb (zow 2)) = true := by decide +kernel
set_option maxRecDepth 100000 in
theorem zf_3 : (zfl 3).all (zFb (zow 3)) = true := by decide +kernel
set_option maxRecDepth 100000 in
theorem zm_3 : (zml 3).all (zMb (zow 3)) = true := by decide +kernel
set_option maxRecDepth 100000 in
theorem zc_3 : (zcl 3).all (zCb (zow 3)) = true := by decide +kernel
set_option maxRecDepth 100000 in
theorem zf_4 : (zfl 4).all (zFb (zow 4)) = true := by decide +kernel
set_option maxRecDepth 100000 in
theorem zm_4 : (zml 4).all (zMb (zow 4)) = true := by decide +kernel
set_option maxRecDepth 100000 in
theorem zc_4 : (zcl 4).all (zCb (zow 4)) = true := by decide +kernel
set_option maxRecDepth 100000 in
theorem zf_5 : (zfl 5).all (zFb (zow 5)) = true := by decide +kernel
set_option maxRecDepth 100000 in
theorem zm_5 : (zml 5).all (zMb (zow 5)) = true := by decide +kernel
set_option maxRecDepth 100000 in
theorem zc_5 : (zcl 5).all (zCb (zow 5)) = true := by decide +kernel
set_option maxRecDepth 100000 in
theorem zf_6 : (zfl 6).all (zFb (zow 6)) = true := by decide +kernel
set_option maxRecDepth 100000 in
theorem zm_6 : (zml 6).all (zMb (zow 6)) = true := by decide +kernel
set_option maxRecDepth 100000 in
theorem zc_6 : (zcl 6).all (zCb (zow 6)) = true := by decide +kernel
set_option maxRecDepth 100000 in
theorem zf_7 : (zfl 7).all (zFb (zow 7)) = true := by decide +kernel
set_option maxRecDepth 100000 in
theorem zm_7 : (zml 7).all (zMb (zow 7)) = true := by decide +kernel
set_option maxRecDepth 100000 in
theorem zc_7 : (zcl 7).all (zCb (zow 7)) = true := by decide +kernel
set_option maxRecDepth 100000 in
theorem zf_8 : (zfl 8).all (zFb (zow 8)) = true := by decide +kernel
set_option maxRecDepth 100000 in
theorem zm_8 : (zml 8).all (zMb (zow 8)) = true := by decide +kernel
set_option maxRecDepth 100000 in
theorem zc_8 : (zcl 8).all (zCb (zow 8)) = true := by decide +kernel
set_option maxRecDepth 100000 in
theorem zf_9 : (zfl 9).all (zFb (zow 9)) = true := by decide +kernel
set_option maxRecDepth 100000 in
theorem zm_9 : (zml 9).all (zMb (zow 9)) = true := by decide +kernel
set_option maxRecDepth 100000 in
theorem zc_9 : (zcl 9).all (zCb (zow 9)) = true := by decide +kernel
set_option maxRecDepth 100000 in
theorem zf_10 : (zfl 10).all (zFb (zow 10)) = true := by decide +kernel
set_option maxRecDepth 100000 in
theorem zm_10 : (zml 10).all (zMb (zow 10)) = true := by decide +kernel
set_option maxRecDepth 100000 in
theorem zc_10 : (zcl 10).all (zCb (zow 10)) = true := by decide +kernel
theorem zt_1 {w : Cond} (i : Nat) (h : tables_1_1[i]? = some w) (hg : zgood w = true) : w ∈ ztb := List.mem_filter.mpr ⟨List.mem_append_right _ (List.mem_append_left _ (List.mem_of_getElem? h)), hg⟩
theorem zt_2 {w : Cond} (i : Nat) (h : tables_1_2[i]? = some w) (hg : zgood w = true) : w ∈ ztb := List.mem_filter.mpr ⟨List.mem_append_right _ (List.mem_append_right _ (List.mem_append_left _ (List.mem_of_getElem? h))), hg⟩
theorem zt_3 {w : Cond} (i : Nat) (h : tables_1_3[i]? = some w) (hg : zgood w = true) : w ∈ ztb := List.mem_filter.mpr ⟨List.mem_append_right _ (List.mem_append_right _ (List.mem_append_right _ (List.mem_append_left _ (List.mem_of_getElem? h)))), hg⟩
theorem zt_4 {w : Cond} (i : Nat) (h : tables_1_4[i]? = some w) (hg : zgood w = true) : w ∈ ztb := List.mem_filter.mpr ⟨List.mem_append_right _ (List.mem_append_right _ (List.mem_append_right _ (List.mem_append_right _ (List.mem_append_left _ (List.mem_of_getElem? h))))), hg⟩
theorem zt_5 {w : Cond} (i : Nat) (h : tables_1_5[i]? = some w) (hg : zgood w = true) : w ∈ ztb := List.mem_filter.mpr ⟨List.mem_append_right _ (List.mem_append_right _ (List.mem_append_right _ (List.mem_append_right _ (List.mem_append_right _ (List.mem_append_left _ (List.mem_of_getElem? h)))))), hg⟩
theorem zt_6 {w : Cond} (i : Nat) (h : tables_1_6[i]? = some w) (hg : zgood w = true) : w ∈ ztb := List.mem_filter.mpr ⟨List.mem_append_right _ (List.mem_append_right _ (List.mem_append_right _ (List.mem_append_right _ (List.mem_append_right _ (List.mem_append_right _ (List.mem_of_getElem? h)))))), hg⟩
theorem zcw_0 : Cond.code yX8_within cX8_within 3 (some .boolean) ∈ ztb := zt_2 105 rfl rfl
theorem zcw_1 : Cond.code yX0_addPerson cX0_addPerson 2 (some .int) ∈ ztb := zt_3 34 rfl rfl
theorem zcw_2 : Cond.code yX8_isHour cX8_isHour 1 (some .boolean) ∈ ztb := zt_2 102 rfl rfl
theorem zcw_3 : Cond.code yX8_isSpan cX8_isSpan 2 (some .boolean) ∈ ztb := zt_2 99 rfl rfl
theorem zcw_4 : Cond.code yX0_addSpell cX0_addSpell 4 (some .int) ∈ ztb := zt_3 43 rfl rfl
theorem zcw_5 : Cond.code yX0_addWork cX0_addWork 6 (some .int) ∈ ztb := zt_3 52 rfl rfl
theorem zcw_6 : Cond.code yX0_skilledFor cX0_skilledFor 4 (some .int) ∈ ztb := zt_3 68 rfl rfl
theorem zcw_7 : Cond.code yJ6_bitCount_0f7a4 cJ6_bitCount_0f7a4 1 (some .int) ∈ ztb := zt_3 71 rfl rfl
theorem zcw_8 : Cond.code yX5_lightAt cX5_lightAt 2 (some .boolean) ∈ ztb := zt_2 128 rfl rfl
theorem zcw_9 : Cond.code yX5_coldAt cX5_coldAt 2 (some .int) ∈ ztb := zt_2 132 rfl rfl
theorem zcw_10 : Cond.code yX0_isWeatherFor cX0_isWeatherFor 9 (some .boolean) ∈ ztb := zt_3 79 rfl rfl
theorem zcw_11 : Cond.code yX0_illDuring cX0_illDuring 5 (some .int) ∈ ztb := zt_3 85 rfl rfl
theorem zcw_12 : Cond.code yX0_busyAround cX0_busyAround 9 (some .int) ∈ ztb := zt_3 89 rfl rfl
theorem zcw_13 : Cond.code yX0_lowestOf cX0_lowestOf 4 (some .int) ∈ ztb := zt_3 92 rfl rfl
theorem zcw_14 : Cond.code yX0_place cX0_place 9 none ∈ ztb := zt_3 64 rfl rfl
theorem zcw_15 : Cond.code yX0_makeSchedule cX0_makeSchedule 6 (some .int) ∈ ztb := zt_3 60 rfl rfl
theorem zcw_16 : Cond.code yX0_ofWork cX0_ofWork 3 (some .int) ∈ ztb := zt_3 100 rfl rfl
theorem zcw_17 : Cond.code yX1_addEngine cX1_addEngine 6 (some .int) ∈ ztb := zt_2 164 rfl rfl
theorem zcw_18 : Cond.code yX1_setMill cX1_setMill 3 (some .int) ∈ ztb := zt_2 173 rfl rfl
theorem zcw_19 : Cond.code yX1_setDemand cX1_setDemand 3 (some .int) ∈ ztb := zt_2 181 rfl rfl
theorem zcw_20 : Cond.code yX1_switchOn cX1_switchOn 3 (some .int) ∈ ztb := zt_2 189 rfl rfl
theorem zcw_21 : Cond.code yX5_windAt cX5_windAt 2 (some .int) ∈ ztb := zt_2 124 rfl rfl
theorem zcw_22 : Cond.code yX1_millAt cX1_millAt 3 (some .int) ∈ ztb := zt_2 155 rfl rfl
theorem zcw_23 : Cond.code yX3_testHolds cX3_testHolds 5 (some .boolean) ∈ ztb := zt_2 144 rfl rfl
theorem zcw_24 : Cond.code yX3_holds cX3_holds 7 (some .boolean) ∈ ztb := zt_2 140 rfl rfl
theorem zcw_25 : Cond.code yX3_rationAt cX3_rationAt 6 (some .int) ∈ ztb := zt_2 136 rfl rfl
theorem zcw_26 : Cond.code yX1_demandLeft cX1_demandLeft 5 (some .int) ∈ ztb := zt_2 150 rfl rfl
theorem zcw_27 : Cond.code yX1_lackOf cX1_lackOf 3 (some .int) ∈ ztb := zt_2 207 rfl rfl
theorem zcw_28 : Cond.code yX1_weighSet cX1_weighSet 7 none ∈ ztb := zt_2 215 rfl rfl
theorem zcw_29 : Cond.code yX1_weighHour cX1_weighHour 6 none ∈ ztb := zt_2 203 rfl rfl
theorem zcw_30 : Cond.code yX1_keepPlan cX1_keepPlan 4 none ∈ ztb := zt_2 222 rfl rfl
theorem zcw_31 : Cond.code yX1_makePlan cX1_makePlan 7 (some .int) ∈ ztb := zt_2 197 rfl rfl
theorem zcw_32 : Cond.code yX1_ofPlan cX1_ofPlan 3 (some .int) ∈ ztb := zt_2 230 rfl rfl
theorem zcw_33 : Cond.code yX2_tune cX2_tune 5 (some .int) ∈ ztb := zt_4 29 rfl rfl
theorem zcw_34 : Cond.code yX2_addMessage cX2_addMessage 3 (some .int) ∈ ztb := zt_4 38 rfl rfl
theorem zcw_35 : Cond.code yX2_addFailure cX2_addFailure 3 (some .int) ∈ ztb := zt_4 46 rfl rfl
theorem zcw_36 : Cond.code yX2_isAllSent cX2_isAllSent 2 (some .boolean) ∈ ztb := zt_4 60 rfl rfl
theorem zcw_37 : Cond.code yX2_sendPart cX2_sendPart 5 (some .int) ∈ ztb := zt_4 64 rfl rfl
theorem zcw_38 : Cond.code yX2_passHour cX2_passHour 5 none ∈ ztb := zt_4 56 rfl rfl
theorem zcw_39 : Cond.code yX2_isMessage cX2_isMessage 2 (some .boolean) ∈ ztb := zt_4 77 rfl rfl
theorem zcw_40 : Cond.code yX2_ofMessage cX2_ofMessage 3 (some .int) ∈ ztb := zt_4 73 rfl rfl
theorem zcw_41 : Cond.code yX2_hasArrived cX2_hasArrived 6 (some .int) ∈ ztb := zt_4 85 rfl rfl
theorem zcw_42 : Cond.code yX3_clear cX3_clear 1 none ∈ ztb := zt_3 217 rfl rfl
theorem zcw_43 : Cond.code yX3_roomForTests cX3_roomForTests 1 (some .int) ∈ ztb := zt_3 233 rfl rfl
theorem zcw_44 : Cond.code yX3_addRest cX3_addRest 2 none ∈ ztb := zt_4 9 rfl rfl
theorem zcw_45 : Cond.code yX3_addCold cX3_addCold 2 none ∈ ztb := zt_4 13 rfl rfl
theorem zcw_46 : Cond.code yX3_addTest cX3_addTest 5 none ∈ ztb := zt_4 1 rfl rfl
theorem zcw_47 : Cond.code yX3_addIf cX3_addIf 2 none ∈ ztb := zt_4 5 rfl rfl
theorem zcw_48 : Cond.code yX4_isLetter cX4_isLetter 1 (some .boolean) ∈ ztb := zt_3 137 rfl rfl
theorem zcw_49 : Cond.code yX4_isDigit cX4_isDigit 1 (some .boolean) ∈ ztb := zt_3 141 rfl rfl
theorem zcw_50 : Cond.code yX4_isSameRow cX4_isSameRow 2 (some .boolean) ∈ ztb := zt_3 134 rfl rfl
theorem zcw_51 : Cond.code yX4_endOfToken cX4_endOfToken 4 (some .int) ∈ ztb := zt_3 131 rfl rfl
theorem zcw_52 : Cond.code yX4_isWord cX4_isWord 5 (some .boolean) ∈ ztb := zt_3 151 rfl rfl
theorem zcw_53 : Cond.code yX4_wordToken cX4_wordToken 3 (some .int) ∈ ztb := zt_3 147 rfl rfl
theorem zcw_54 : Cond.code yX4_numberToken cX4_numberToken 5 (some .int) ∈ ztb := zt_3 209 rfl rfl
theorem zcw_55 : Cond.code yX4_signToken cX4_signToken 1 (some .int) ∈ ztb := zt_3 213 rfl rfl
theorem zcw_56 : Cond.code yX4_tokenOf cX4_tokenOf 4 (some .int) ∈ ztb := zt_3 144 rfl rfl
theorem zcw_57 : Cond.code yX4_split cX4_split 4 none ∈ ztb := zt_3 128 rfl rfl
theorem zcw_58 : Cond.code yX4_token cX4_token 1 (some .int) ∈ ztb := zt_3 221 rfl rfl
theorem zcw_59 : Cond.code yX4_readTest cX4_readTest 7 (some .boolean) ∈ ztb := zt_3 237 rfl rfl
theorem zcw_60 : Cond.code yX4_readIf cX4_readIf 5 (some .boolean) ∈ ztb := zt_3 229 rfl rfl
theorem zcw_61 : Cond.code yX4_readRule cX4_readRule 4 (some .boolean) ∈ ztb := zt_3 225 rfl rfl
theorem zcw_62 : Cond.code yX4_read cX4_read 4 (some .boolean) ∈ ztb := zt_3 124 rfl rfl
theorem zcw_63 : Cond.code yX4_place cX4_place 1 (some .int) ∈ ztb := zt_4 17 rfl rfl
theorem zcw_64 : Cond.code yX5_cover cX5_cover 8 none ∈ ztb := zt_2 116 rfl rfl
theorem zcw_65 : Cond.code yX5_isCalm cX5_isCalm 2 (some .boolean) ∈ ztb := zt_4 97 rfl rfl
theorem zcw_66 : Cond.code yX5_firstLanding cX5_firstLanding 4 (some .int) ∈ ztb := zt_4 93 rfl rfl
theorem zcw_67 : Cond.code yX6_isStack cX6_isStack 1 (some .boolean) ∈ ztb := zt_3 2 rfl rfl
theorem zcw_68 : Cond.code yX6_put cX6_put 4 (some .int) ∈ ztb := zt_2 238 rfl rfl
theorem zcw_69 : Cond.code yX6_boxesAbove cX6_boxesAbove 5 (some .int) ∈ ztb := zt_3 14 rfl rfl
theorem zcw_70 : Cond.code yX6_removeBelow cX6_removeBelow 6 none ∈ ztb := zt_3 18 rfl rfl
theorem zcw_71 : Cond.code yX6_takeOne cX6_takeOne 6 (some .int) ∈ ztb := zt_3 10 rfl rfl
theorem zcw_72 : Cond.code yX6_ofStack cX6_ofStack 3 (some .int) ∈ ztb := zt_3 26 rfl rfl
theorem zcw_73 : Cond.code yX7_hasRoom cX7_hasRoom 1 (some .boolean) ∈ ztb := zt_3 108 rfl rfl
theorem zcw_74 : Cond.code yX7_append cX7_append 3 none ∈ ztb := zt_3 112 rfl rfl
theorem zcw_75 : Cond.code yX8_answered cX8_answered 2 (some .int) ∈ ztb := zt_2 109 rfl rfl
theorem zcw_76 : Cond.code yX8_weather cX8_weather 8 (some .int) ∈ ztb := zt_2 96 rfl rfl
theorem zcw_77 : Cond.code yX8_hour cX8_hour 3 (some .int) ∈ ztb := zt_2 120 rfl rfl
theorem zcw_78 : Cond.code yX8_engine cX8_engine 4 (some .int) ∈ ztb := zt_2 160 rfl rfl
theorem zcw_79 : Cond.code yX8_mill cX8_mill 3 (some .int) ∈ ztb := zt_2 169 rfl rfl
theorem zcw_80 : Cond.code yX8_demand cX8_demand 3 (some .int) ∈ ztb := zt_2 177 rfl rfl
theorem zcw_81 : Cond.code yX8_on cX8_on 2 (some .int) ∈ ztb := zt_2 185 rfl rfl
theorem zcw_82 : Cond.code yX8_plan cX8_plan 2 (some .int) ∈ ztb := zt_2 193 rfl rfl
theorem zcw_83 : Cond.code yX8_planned cX8_planned 3 (some .int) ∈ ztb := zt_2 226 rfl rfl
theorem zcw_84 : Cond.code yX8_box cX8_box 3 (some .int) ∈ ztb := zt_2 234 rfl rfl
theorem zcw_85 : Cond.code yX8_take cX8_take 2 (some .int) ∈ ztb := zt_3 6 rfl rfl
theorem zcw_86 : Cond.code yX8_stack cX8_stack 3 (some .int) ∈ ztb := zt_3 22 rfl rfl
theorem zcw_87 : Cond.code yX8_person cX8_person 2 (some .int) ∈ ztb := zt_3 30 rfl rfl
theorem zcw_88 : Cond.code yX8_ill cX8_ill 4 (some .int) ∈ ztb := zt_3 39 rfl rfl
theorem zcw_89 : Cond.code yX8_work cX8_work 5 (some .int) ∈ ztb := zt_3 48 rfl rfl
theorem zcw_90 : Cond.code yX8_schedule cX8_schedule 1 (some .int) ∈ ztb := zt_3 56 rfl rfl
theorem zcw_91 : Cond.code yX8_begins cX8_begins 3 (some .int) ∈ ztb := zt_3 96 rfl rfl
theorem zcw_92 : Cond.code yX8_feed cX8_feed 6 (some .int) ∈ ztb := zt_3 104 rfl rfl
theorem zcw_93 : Cond.code yX8_end cX8_end 2 (some .int) ∈ ztb := zt_3 116 rfl rfl
theorem zcw_94 : Cond.code yX8_rules cX8_rules 3 (some .int) ∈ ztb := zt_3 120 rfl rfl
theorem zcw_95 : Cond.code yX8_fault cX8_fault 1 (some .int) ∈ ztb := zt_4 21 rfl rfl
theorem zcw_96 : Cond.code yX8_radio cX8_radio 4 (some .int) ∈ ztb := zt_4 25 rfl rfl
theorem zcw_97 : Cond.code yX8_message cX8_message 3 (some .int) ∈ ztb := zt_4 34 rfl rfl
theorem zcw_98 : Cond.code yX8_fail cX8_fail 3 (some .int) ∈ ztb := zt_4 42 rfl rfl
theorem zcw_99 : Cond.code yX8_go cX8_go 4 (some .int) ∈ ztb := zt_4 52 rfl rfl
theorem zcw_100 : Cond.code yX8_sent cX8_sent 3 (some .int) ∈ ztb := zt_4 69 rfl rfl
theorem zcw_101 : Cond.code yX8_arrived cX8_arrived 3 (some .int) ∈ ztb := zt_4 81 rfl rfl
theorem zcw_102 : Cond.code yX8_land cX8_land 2 (some .int) ∈ ztb := zt_4 89 rfl rfl
theorem zcw_103 : Cond.code yX8_count cX8_count 2 (some .int) ∈ ztb := zt_4 104 rfl rfl
theorem zcw_104 : Cond.code yX8_status cX8_status 1 (some .int) ∈ ztb := zt_4 108 rfl rfl
theorem zcw_105 : Cond.code yX9_in cX9_in 6 (some .boolean) ∈ ztb := zt_5 133 rfl rfl
theorem zcw_106 : Cond.code yX9_told cX9_told 2 (some .int) ∈ ztb := zt_5 140 rfl rfl
theorem zcw_107 : Cond.code yX9_isHour cX9_isHour 1 (some .boolean) ∈ ztb := zt_5 129 rfl rfl
theorem zcw_108 : Cond.code yX9_weather cX9_weather 7 (some .int) ∈ ztb := zt_5 126 rfl rfl
theorem zcw_109 : Cond.code yX9_isTrue cX9_isTrue 4 (some .boolean) ∈ ztb := zt_5 152 rfl rfl
theorem zcw_110 : Cond.code yX9_rationOf cX9_rationOf 7 (some .int) ∈ ztb := zt_5 148 rfl rfl
theorem zcw_111 : Cond.code yX9_demandOf cX9_demandOf 3 (some .int) ∈ ztb := zt_5 156 rfl rfl
theorem zcw_112 : Cond.code yX9_hour cX9_hour 3 (some .int) ∈ ztb := zt_5 144 rfl rfl
theorem zcw_113 : Cond.code yX9_engine cX9_engine 4 (some .int) ∈ ztb := zt_5 160 rfl rfl
theorem zcw_114 : Cond.code yX9_mill cX9_mill 3 (some .int) ∈ ztb := zt_5 165 rfl rfl
theorem zcw_115 : Cond.code yX9_demand cX9_demand 3 (some .int) ∈ ztb := zt_5 169 rfl rfl
theorem zcw_116 : Cond.code yX9_on cX9_on 3 (some .int) ∈ ztb := zt_5 175 rfl rfl
theorem zcw_117 : Cond.code yX9_lackOf cX9_lackOf 5 (some .int) ∈ ztb := zt_5 184 rfl rfl
theorem zcw_118 : Cond.code yX9_fuelOf cX9_fuelOf 5 (some .int) ∈ ztb := zt_5 189 rfl rfl
theorem zcw_119 : Cond.code yX9_plan cX9_plan 14 (some .int) ∈ ztb := zt_5 179 rfl rfl
theorem zcw_120 : Cond.code yX9_planned cX9_planned 3 (some .int) ∈ ztb := zt_5 193 rfl rfl
theorem zcw_121 : Cond.code yX9_isStack cX9_isStack 1 (some .boolean) ∈ ztb := zt_5 201 rfl rfl
theorem zcw_122 : Cond.code yX9_box cX9_box 3 (some .int) ∈ ztb := zt_5 197 rfl rfl
theorem zcw_123 : Cond.code yX9_above cX9_above 4 (some .int) ∈ ztb := zt_5 210 rfl rfl
theorem zcw_124 : Cond.code yX9_take cX9_take 5 (some .int) ∈ ztb := zt_5 206 rfl rfl
theorem zcw_125 : Cond.code yX9_stack cX9_stack 3 (some .int) ∈ ztb := zt_5 214 rfl rfl
theorem zcw_126 : Cond.code yX9_person cX9_person 2 (some .int) ∈ ztb := zt_5 218 rfl rfl
theorem zcw_127 : Cond.code yX9_ill cX9_ill 4 (some .int) ∈ ztb := zt_5 223 rfl rfl
theorem zcw_128 : Cond.code yX9_work cX9_work 5 (some .int) ∈ ztb := zt_5 227 rfl rfl
theorem zcw_129 : Cond.code yX9_isFree cX9_isFree 7 (some .boolean) ∈ ztb := zt_6 2 rfl rfl
theorem zcw_130 : Cond.code yX9_whoAt cX9_whoAt 6 (some .int) ∈ ztb := zt_5 238 rfl rfl
theorem zcw_131 : Cond.code yX9_schedule cX9_schedule 5 (some .int) ∈ ztb := zt_5 234 rfl rfl
theorem zcw_132 : Cond.code yX9_begins cX9_begins 3 (some .int) ∈ ztb := zt_6 6 rfl rfl
theorem zcw_133 : Cond.code yX9_four cX9_four 3 none ∈ ztb := zt_6 14 rfl rfl
theorem zcw_134 : Cond.code yX9_feed cX9_feed 6 (some .int) ∈ ztb := zt_6 10 rfl rfl
theorem zcw_135 : Cond.code yX9_end cX9_end 2 (some .int) ∈ ztb := zt_6 18 rfl rfl
theorem zcw_136 : Cond.code yX9_isSmall cX9_isSmall 1 (some .boolean) ∈ ztb := zt_6 29 rfl rfl
theorem zcw_137 : Cond.code yX9_isDigit cX9_isDigit 1 (some .boolean) ∈ ztb := zt_6 32 rfl rfl
theorem zcw_138 : Cond.code yX9_next cX9_next 1 none ∈ ztb := zt_6 26 rfl rfl
theorem zcw_139 : Cond.code yX9_isWord cX9_isWord 9 (some .boolean) ∈ ztb := zt_6 44 rfl rfl
theorem zcw_140 : Cond.code yX9_isSign cX9_isSign 2 (some .boolean) ∈ ztb := zt_6 60 rfl rfl
theorem zcw_141 : Cond.code yX9_must cX9_must 2 none ∈ ztb := zt_6 48 rfl rfl
theorem zcw_142 : Cond.code yX9_number cX9_number 4 (some .int) ∈ ztb := zt_6 52 rfl rfl
theorem zcw_143 : Cond.code yX9_readTest cX9_readTest 6 none ∈ ztb := zt_6 56 rfl rfl
theorem zcw_144 : Cond.code yX9_readRule cX9_readRule 5 none ∈ ztb := zt_6 40 rfl rfl
theorem zcw_145 : Cond.code yX9_rules cX9_rules 2 (some .int) ∈ ztb := zt_6 22 rfl rfl
theorem zcw_146 : Cond.code yX9_fault cX9_fault 1 (some .int) ∈ ztb := zt_6 64 rfl rfl
theorem zcw_147 : Cond.code yX9_radio cX9_radio 4 (some .int) ∈ ztb := zt_6 68 rfl rfl
theorem zcw_148 : Cond.code yX9_message cX9_message 3 (some .int) ∈ ztb := zt_6 72 rfl rfl
theorem zcw_149 : Cond.code yX9_fail cX9_fail 3 (some .int) ∈ ztb := zt_6 76 rfl rfl
theorem zcw_150 : Cond.code yX9_nextMessage cX9_nextMessage 3 (some .int) ∈ ztb := zt_6 90 rfl rfl
theorem zcw_151 : Cond.code yX9_goHour cX9_goHour 5 none ∈ ztb := zt_6 86 rfl rfl
theorem zcw_152 : Cond.code yX9_go cX9_go 3 (some .int) ∈ ztb := zt_6 81 rfl rfl
theorem zcw_153 : Cond.code yX9_sent cX9_sent 3 (some .int) ∈ ztb := zt_6 94 rfl rfl
theorem zcw_154 : Cond.code yX9_arrived cX9_arrived 6 (some .int) ∈ ztb := zt_6 98 rfl rfl
theorem zcw_155 : Cond.code yX9_land cX9_land 5 (some .int) ∈ ztb := zt_6 102 rfl rfl
theorem zcw_156 : Cond.code yX9_count cX9_count 4 (some .int) ∈ ztb := zt_6 106 rfl rfl
theorem zcw_157 : Cond.code yX9_status cX9_status 1 (some .int) ∈ ztb := zt_6 110 rfl rfl
theorem zcw : ∀ M ∈ zms, Cond.code M.1 M.2.1 M.2.2.1 M.2.2.2.1 ∈ ztb := List.forall_mem_cons.mpr ⟨zcw_0, List.forall_mem_cons.mpr ⟨zcw_1, List.forall_mem_cons.mpr ⟨zcw_2, List.forall_mem_cons.mpr ⟨zcw_3, List.forall_mem_cons.mpr ⟨zcw_4, List.forall_mem_cons.mpr ⟨zcw_5, List.forall_mem_cons.mpr ⟨zcw_6, List.forall_mem_cons.mpr ⟨zcw_7, List.forall_mem_cons.mpr ⟨zcw_8, List.forall_mem_cons.mpr ⟨zcw_9, List.forall_mem_cons.mpr ⟨zcw_10, List.forall_mem_cons.mpr ⟨zcw_11, List.forall_mem_cons.mpr ⟨zcw_12, List.forall_mem_cons.mpr ⟨zcw_13, List.forall_mem_cons.mpr ⟨zcw_14, List.forall_mem_cons.mpr ⟨zcw_15, List.forall_mem_cons.mpr ⟨zcw_16, List.forall_mem_cons.mpr ⟨zcw_17, List.forall_mem_cons.mpr ⟨zcw_18, List.forall_mem_cons.mpr ⟨zcw_19, List.forall_mem_cons.mpr ⟨zcw_20, List.forall_mem_cons.mpr ⟨zcw_21, List.forall_mem_cons.mpr ⟨zcw_22, List.forall_mem_cons.mpr ⟨zcw_23, List.forall_mem_cons.mpr ⟨zcw_24, List.forall_mem_cons.mpr ⟨zcw_25, List.forall_mem_cons.mpr ⟨zcw_26, List.forall_mem_cons.mpr ⟨zcw_27, List.forall_mem_cons.mpr ⟨zcw_28, List.forall_mem_cons.mpr ⟨zcw_29, List.forall_mem_cons.mpr ⟨zcw_30, List.forall_mem_cons.mpr ⟨zcw_31, List.forall_mem_cons.mpr ⟨zcw_32, List.forall_mem_cons.mpr ⟨zcw_33, List.forall_mem_cons.mpr ⟨zcw_34, List.forall_mem_cons.mpr ⟨zcw_35, List.forall_mem_cons.mpr ⟨zcw_36, List.forall_mem_cons.mpr ⟨zcw_37, List.forall_mem_cons.mpr ⟨zcw_38, List.forall_mem_cons.mpr ⟨zcw_39, List.forall_mem_cons.mpr ⟨zcw_40, List.forall_mem_cons.mpr ⟨zcw_41, List.forall_mem_cons.mpr ⟨zcw_42, List.forall_mem_cons.mpr ⟨zcw_43, List.forall_mem_cons.mpr ⟨zcw_44, List.forall_mem_cons.mpr ⟨zcw_45, List.forall_mem_cons.mpr ⟨zcw_46, List.forall_mem_cons.mpr ⟨zcw_47, List.forall_mem_cons.mpr ⟨zcw_48, List.forall_mem_cons.mpr ⟨zcw_49, List.forall_mem_cons.mpr ⟨zcw_50, List.forall_mem_cons.mpr ⟨zcw_51, List.forall_mem_cons.mpr ⟨zcw_52, List.forall_mem_cons.mpr ⟨zcw_53, List.forall_mem_cons.mpr ⟨zcw_54, List.forall_mem_cons.mpr ⟨zcw_55, List.forall_mem_cons.mpr ⟨zcw_56, List.forall_mem_cons.mpr ⟨zcw_57, List.forall_mem_cons.mpr ⟨zcw_58, List.forall_mem_cons.mpr ⟨zcw_59, List.forall_mem_cons.mpr ⟨zcw_60, List.forall_mem_cons.mpr ⟨zcw_61, List.forall_mem_cons.mpr ⟨zcw_62, List.forall_mem_cons.mpr ⟨zcw_63, List.forall_mem_cons.mpr ⟨zcw_64, List.forall_mem_cons.mpr ⟨zcw_65, List.forall_mem_cons.mpr ⟨zcw_66, List.forall_mem_cons.mpr ⟨zcw_67, List.forall_mem_cons.mpr ⟨zcw_68, List.forall_mem_cons.mpr ⟨zcw_69, List.forall_mem_cons.mpr ⟨zcw_70, List.forall_mem_cons.mpr ⟨zcw_71, List.forall_mem_cons.mpr ⟨zcw_72, List.forall_mem_cons.mpr ⟨zcw_73, List.forall_mem_cons.mpr ⟨zcw_74, List.forall_mem_cons.mpr ⟨zcw_75, List.forall_mem_cons.mpr ⟨zcw_76, List.forall_mem_cons.mpr ⟨zcw_77, List.forall_mem_cons.mpr ⟨zcw_78, List.forall_mem_cons.mpr ⟨zcw_79, List.forall_mem_cons.mpr ⟨zcw_80, List.forall_mem_cons.mpr ⟨zcw_81, List.forall_mem_cons.mpr ⟨zcw_82, List.forall_mem_cons.mpr ⟨zcw_83, List.forall_mem_cons.mpr ⟨zcw_84, List.forall_mem_cons.mpr ⟨zcw_85, List.forall_mem_cons.mpr ⟨zcw_86, List.forall_mem_cons.mpr ⟨zcw_87, List.forall_mem_cons.mpr ⟨zcw_88, List.forall_mem_cons.mpr ⟨zcw_89, List.forall_mem_cons.mpr ⟨zcw_90, List.forall_mem_cons.mpr ⟨zcw_91, List.forall_mem_cons.mpr ⟨zcw_92, List.forall_mem_cons.mpr ⟨zcw_93, List.forall_mem_cons.mpr ⟨zcw_94, List.forall_mem_cons.mpr ⟨zcw_95, List.forall_mem_cons.mpr ⟨zcw_96, List.forall_mem_cons.mpr ⟨zcw_97, List.forall_mem_cons.mpr ⟨zcw_98, List.forall_mem_cons.mpr ⟨zcw_99, List.forall_mem_cons.mpr ⟨zcw_100, List.forall_mem_cons.mpr ⟨zcw_101, List.forall_mem_cons.mpr ⟨zcw_102, List.forall_mem_cons.mpr ⟨zcw_103, List.forall_mem_cons.mpr ⟨zcw_104, List.forall_mem_cons.mpr ⟨zcw_105, List.forall_mem_cons.mpr ⟨zcw_106, List.forall_mem_cons.mpr ⟨zcw_107, List.forall_mem_cons.mpr ⟨zcw_108, List.forall_mem_cons.mpr ⟨zcw_109, List.forall_mem_cons.mpr ⟨zcw_110, List.forall_mem_cons.mpr ⟨zcw_111, List.forall_mem_cons.mpr ⟨zcw_112, List.forall_mem_cons.mpr ⟨zcw_113, List.forall_mem_cons.mpr ⟨zcw_114, List.forall_mem_cons.mpr ⟨zcw_115, List.forall_mem_cons.mpr ⟨zcw_116, List.forall_mem_cons.mpr ⟨zcw_117, List.forall_mem_cons.mpr ⟨zcw_118, List.forall_mem_cons.mpr ⟨zcw_119, List.forall_mem_cons.mpr ⟨zcw_120, List.forall_mem_cons.mpr ⟨zcw_121, List.forall_mem_cons.mpr ⟨zcw_122, List.forall_mem_cons.mpr ⟨zcw_123, List.forall_mem_cons.mpr ⟨zcw_124, List.forall_mem_cons.mpr ⟨zcw_125, List.forall_mem_cons.mpr ⟨zcw_126, List.forall_mem_cons.mpr ⟨zcw_127, List.forall_mem_cons.mpr ⟨zcw_128, List.forall_mem_cons.mpr ⟨zcw_129, List.forall_mem_cons.mpr ⟨zcw_130, List.forall_mem_cons.mpr ⟨zcw_131, List.forall_mem_cons.mpr ⟨zcw_132, List.forall_mem_cons.mpr ⟨zcw_133, List.forall_mem_cons.mpr ⟨zcw_134, List.forall_mem_cons.mpr ⟨zcw_135, List.forall_mem_cons.mpr ⟨zcw_136, List.forall_mem_cons.mpr ⟨zcw_137, List.forall_mem_cons.mpr ⟨zcw_138, List.forall_mem_cons.mpr ⟨zcw_139, List.forall_mem_cons.mpr ⟨zcw_140, List.forall_mem_cons.mpr ⟨zcw_141, List.forall_mem_cons.mpr ⟨zcw_142, List.forall_mem_cons.mpr ⟨zcw_143, List.forall_mem_cons.mpr ⟨zcw_144, List.forall_mem_cons.mpr ⟨zcw_145, List.forall_mem_cons.mpr ⟨zcw_146, List.forall_mem_cons.mpr ⟨zcw_147, List.forall_mem_cons.mpr ⟨zcw_148, List.forall_mem_cons.mpr ⟨zcw_149, List.forall_mem_cons.mpr ⟨zcw_150, List.forall_mem_cons.mpr ⟨zcw_151, List.forall_mem_cons.mpr ⟨zcw_152, List.forall_mem_cons.mpr ⟨zcw_153, List.forall_mem_cons.mpr ⟨zcw_154, List.forall_mem_cons.mpr ⟨zcw_155, List.forall_mem_cons.mpr ⟨zcw_156, List.forall_mem_cons.mpr ⟨zcw_157, fun _ h => absurd h List.not_mem_nil⟩⟩⟩⟩⟩⟩⟩⟩⟩⟩⟩⟩⟩⟩⟩⟩⟩⟩⟩⟩⟩⟩⟩⟩⟩⟩⟩⟩⟩⟩⟩⟩⟩⟩⟩⟩⟩⟩⟩⟩⟩⟩⟩⟩⟩⟩⟩⟩⟩⟩⟩⟩⟩⟩⟩⟩⟩⟩⟩⟩⟩⟩⟩⟩⟩⟩⟩⟩⟩⟩⟩⟩⟩⟩⟩⟩⟩⟩⟩⟩⟩⟩⟩⟩⟩⟩⟩⟩⟩⟩⟩⟩⟩⟩⟩⟩⟩⟩⟩⟩⟩⟩⟩⟩⟩⟩⟩⟩⟩⟩⟩⟩⟩⟩⟩⟩⟩⟩⟩⟩⟩⟩⟩⟩⟩⟩⟩⟩⟩⟩⟩⟩⟩⟩⟩⟩⟩⟩⟩⟩⟩⟩⟩⟩⟩⟩⟩⟩⟩⟩⟩⟩⟩⟩⟩⟩⟩⟩
theorem zf_all (o : Nat) : (zfl o).all (zFb (zow o)) = true := match o with
  | 0 => zf_0
  | 1 => zf_1
  | 2 => zf_2
  | 3 => zf_3
  | 4 => zf_4
  | 5 => zf_5
  | 6 => zf_6
  | 7 => zf_7
  | 8 => zf_8
  | 9 => zf_9
  | 10 => zf_10
  | _ + 11 => rfl
theorem zm_all (o : Nat) : (zml o).all (zMb (zow o)) = true := match o with
  | 0 => zm_0
  | 1 => zm_1
  | 2 => zm_2
  | 3 => zm_3
  | 4 => zm_4
  | 5 => zm_5
  | 6 => zm_6
  | 7 => zm_7
  | 8 => zm_8
  | 9 => zm_9
  | 10 => zm_10
  | _ + 11 => rfl
theorem zc_all (o : Nat) : (zcl o).all (zCb (zow o)) = true := match o with
  | 0 => zc_0
  | 1 => zc_1
  | 2 => zc_2
  | 3 => zc_3
  | 4 => zc_4
  | 5 => zc_5
  | 6 => zc_6
  | 7 => zc_7
  | 8 => zc_8
  | 9 => zc_9
  | 10 => zc_10
  | _ + 11 => rfl
