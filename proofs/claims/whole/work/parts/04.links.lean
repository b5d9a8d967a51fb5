/-! the links of the program, as words of the tables; what is checked of each instruction -/
def ex_nm (k : Nat) : String := ex_cn.getD k ""
def ex_my : List (MethodName × ByteArray × Nat × Option FieldType) := [(yX0_init, cX0_init, 1, none),
  (yX0_mostCars, cX0_mostCars, 6, some .int),
  (yX0_waitingCars, cX0_waitingCars, 5, some .int),
  (yX0_shareHours, cX0_shareHours, 8, some .boolean),
  (yX0_neediest, cX0_neediest, 6, some .int),
  (yX0_chargeThose, cX0_chargeThose, 4, some .int),
  (yX1_init, cX1_init, 1, none),
  (yX1_become, cX1_become, 2, none),
  (yX1_placeInEvening, cX1_placeInEvening, 3, some .int),
  (yX2_init, cX2_init, 1, none),
  (yX2_become, cX2_become, 2, none),
  (yX2_isKind, cX2_isKind, 1, some .boolean),
  (yX2_isFact, cX2_isFact, 2, some .boolean),
  (yX2_hasLane, cX2_hasLane, 2, some .boolean),
  (yX2_hasCar, cX2_hasCar, 2, some .boolean),
  (yX2_addLane, cX2_addLane, 6, some .int),
  (yX2_addCar, cX2_addCar, 9, some .int),
  (yX2_fact, cX2_fact, 3, some .int),
  (yX2_changeFact, cX2_changeFact, 5, some .int),
  (yX2_isOfKind, cX2_isOfKind, 5, some .boolean),
  (yX2_cycleOf, cX2_cycleOf, 2, some .int),
  (yX2_bears, cX2_bears, 2, some .int),
  (yX2_suits, cX2_suits, 3, some .boolean),
  (yX2_carAt, cX2_carAt, 3, some .int),
  (yX2_lengthLeft, cX2_lengthLeft, 4, some .int),
  (yX2_isShut, cX2_isShut, 2, some .boolean),
  (yX2_isFree, cX2_isFree, 3, some .boolean),
  (yX2_parkFinding, cX2_parkFinding, 3, some .int),
  (yX2_shuntFinding, cX2_shuntFinding, 3, some .int),
  (yX2_bring, cX2_bring, 3, none),
  (yX2_take, cX2_take, 3, none),
  (yX2_move, cX2_move, 3, none),
  (yX2_moveBack, cX2_moveBack, 4, none),
  (yX2_forgetCycles, cX2_forgetCycles, 3, some .int),
  (yX2_carsAhead, cX2_carsAhead, 5, some .int),
  (yX2_carsInLanes, cX2_carsInLanes, 3, some .int),
  (yX2_morningOf, cX2_morningOf, 6, some .int),
  (yX2_floodMinute, cX2_floodMinute, 2, some .int),
  (yX3_init, cX3_init, 1, none),
  (yX3_become, cX3_become, 2, none),
  (yX3_add, cX3_add, 4, none),
  (yX3_isThere, cX3_isThere, 7, some .boolean),
  (yX3_carsWithKey, cX3_carsWithKey, 5, some .int),
  (yX4_init, cX4_init, 1, none),
  (yX4_become, cX4_become, 2, none),
  (yX4_add, cX4_add, 3, none),
  (yX4_shareOf, cX4_shareOf, 11, some .int),
  (yX4_latestUnharmed, cX4_latestUnharmed, 3, some .int),
  (yX4_firstHarmed, cX4_firstHarmed, 4, some .int),
  (yX4_shuntsBy, cX4_shuntsBy, 7, some .int),
  (yX5_init, cX5_init, 1, none),
  (yX5_leastMornings, cX5_leastMornings, 2, some .int),
  (yX5_assign, cX5_assign, 8, none),
  (yX5_added, cX5_added, 7, some .int),
  (yX6_init, cX6_init, 1, none),
  (yX6_mostBids, cX6_mostBids, 3, some .int),
  (yX6_give, cX6_give, 7, none),
  (yX6_rentOf, cX6_rentOf, 5, some .int),
  (yX7_init, cX7_init, 1, none),
  (yX7_mostWorth, cX7_mostWorth, 4, some .int),
  (yX7_takeMore, cX7_takeMore, 8, none),
  (yX8_init, cX8_init, 1, none),
  (yX8_isSign, cX8_isSign, 1, some .boolean),
  (yX8_suppose, cX8_suppose, 7, none),
  (yX8_let, cX8_let, 3, some .boolean),
  (yX8_firstFault, cX8_firstFault, 7, some .int),
  (yX8_asked, cX8_asked, 1, some .int),
  (yX8_worked, cX8_worked, 5, some .int),
  (yX8_knownBy, cX8_knownBy, 2, some .int),
  (yX8_joins, cX8_joins, 3, some .boolean),
  (yX9_init, cX9_init, 1, none),
  (yX9_isSheet, cX9_isSheet, 2, some .boolean),
  (yX9_isMissing, cX9_isMissing, 2, some .boolean),
  (yX9_begin, cX9_begin, 4, none),
  (yX9_number, cX9_number, 3, some .int),
  (yX9_write, cX9_write, 4, none),
  (yX9_hasSpan, cX9_hasSpan, 4, some .boolean),
  (yX9_carryOver, cX9_carryOver, 6, none),
  (yX10_init, cX10_init, 1, none),
  (yX10_begin, cX10_begin, 3, none),
  (yX10_frees, cX10_frees, 2, some .boolean),
  (yX10_shortest, cX10_shortest, 5, some .int),
  (yX10_search, cX10_search, 9, some .boolean),
  (yX10_carryOut, cX10_carryOut, 5, some .boolean),
  (yX11_init, cX11_init, 2, none),
  (yX11_lane, cX11_lane, 5, some .int),
  (yX11_as, cX11_as, 3, some .int),
  (yX11_laneIs, cX11_laneIs, 4, some .int),
  (yX11_breaks, cX11_breaks, 5, some .int),
  (yX11_car, cX11_car, 7, some .int),
  (yX11_carIs, cX11_carIs, 4, some .int),
  (yX11_tell, cX11_tell, 4, some .int),
  (yX11_at, cX11_at, 4, some .int),
  (yX11_fits, cX11_fits, 3, some .int),
  (yX11_park, cX11_park, 5, some .int),
  (yX11_shunt, cX11_shunt, 5, some .int),
  (yX11_leave, cX11_leave, 4, some .int),
  (yX11_night, cX11_night, 1, some .int),
  (yX11_hour, cX11_hour, 3, some .int),
  (yX11_ahead, cX11_ahead, 3, some .int),
  (yX11_fewest, cX11_fewest, 4, some .int),
  (yX11_step, cX11_step, 5, some .int),
  (yX11_proves, cX11_proves, 4, some .int),
  (yX11_morning, cX11_morning, 4, some .int),
  (yX11_arrive, cX11_arrive, 2, some .int),
  (yX11_clear, cX11_clear, 2, some .int),
  (yX11_plan, cX11_plan, 2, some .int),
  (yX11_planned, cX11_planned, 3, some .int),
  (yX11_chargers, cX11_chargers, 3, some .int),
  (yX11_charged, cX11_charged, 1, some .int),
  (yX11_charging, cX11_charging, 3, some .int),
  (yX11_bid, cX11_bid, 5, some .int),
  (yX11_given, cX11_given, 2, some .int),
  (yX11_rent, cX11_rent, 2, some .int),
  (yX11_giving, cX11_giving, 1, some .int),
  (yX11_porter, cX11_porter, 3, some .int),
  (yX11_look, cX11_look, 3, some .int),
  (yX11_harm, cX11_harm, 5, some .int),
  (yX11_text, cX11_text, 4, some .int),
  (yX11_wrong, cX11_wrong, 1, some .int),
  (yX11_lets, cX11_lets, 4, some .int),
  (yX11_flood, cX11_flood, 4, some .int),
  (yX11_pace, cX11_pace, 3, some .int),
  (yX11_rescue, cX11_rescue, 1, some .int),
  (yX11_rescued, cX11_rescued, 2, some .int),
  (yX11_note, cX11_note, 4, some .int),
  (yX11_key, cX11_key, 4, some .int),
  (yX11_sheet, cX11_sheet, 4, some .int),
  (yX11_put, cX11_put, 4, some .int),
  (yX11_copy, cX11_copy, 6, some .int),
  (yX11_undo, cX11_undo, 2, some .int),
  (yX11_all, cX11_all, 2, some .int),
  (yX11_refuse, cX11_refuse, 2, some .int),
  (yX11_keepForUndo, cX11_keepForUndo, 2, none),
  (yX11_inLaneFinding, cX11_inLaneFinding, 2, some .int),
  (yX11_keysNow, cX11_keysNow, 1, some .int),
  (yX11_isLet, cX11_isLet, 5, some .boolean),
  (yX11_isWithin, cX11_isWithin, 3, some .boolean),
  (yX11_isHour, cX11_isHour, 1, some .boolean),
  (yX11_isTenant, cX11_isTenant, 1, some .boolean),
  (yX11_isPorter, cX11_isPorter, 1, some .boolean),
  (yX12_init, cX12_init, 2, none),
  (yX12_finding, cX12_finding, 2, some .int),
  (yX12_within, cX12_within, 3, some .boolean),
  (yX12_isLane, cX12_isLane, 2, some .boolean),
  (yX12_isCar, cX12_isCar, 2, some .boolean),
  (yX12_isHour, cX12_isHour, 1, some .boolean),
  (yX12_keep, cX12_keep, 2, none),
  (yX12_undo, cX12_undo, 2, some .int),
  (yX12_lane, cX12_lane, 6, some .int),
  (yX12_isLift, cX12_isLift, 2, some .boolean),
  (yX12_as, cX12_as, 4, some .int),
  (yX12_carAt, cX12_carAt, 3, some .int),
  (yX12_leftOf, cX12_leftOf, 4, some .int),
  (yX12_laneIs, cX12_laneIs, 3, some .int),
  (yX12_breaks, cX12_breaks, 4, some .int),
  (yX12_car, cX12_car, 9, some .int),
  (yX12_standOf, cX12_standOf, 4, some .int),
  (yX12_manyAhead, cX12_manyAhead, 2, some .int),
  (yX12_carIs, cX12_carIs, 4, some .int),
  (yX12_tell, cX12_tell, 5, some .int),
  (yX12_at, cX12_at, 3, some .int),
  (yX12_canFit, cX12_canFit, 3, some .boolean),
  (yX12_fits, cX12_fits, 3, some .int),
  (yX12_isStuck, cX12_isStuck, 2, some .boolean),
  (yX12_isFree, cX12_isFree, 3, some .boolean),
  (yX12_turns, cX12_turns, 2, none),
  (yX12_comes, cX12_comes, 3, none),
  (yX12_goes, cX12_goes, 2, none),
  (yX12_park, cX12_park, 3, some .int),
  (yX12_hinders, cX12_hinders, 4, some .int),
  (yX12_does, cX12_does, 3, none),
  (yX12_led, cX12_led, 3, none),
  (yX12_shunt, cX12_shunt, 4, some .int),
  (yX12_leave, cX12_leave, 3, some .int),
  (yX12_night, cX12_night, 3, some .int),
  (yX12_hour, cX12_hour, 3, some .int),
  (yX12_ahead, cX12_ahead, 5, some .int),
  (yX12_lay, cX12_lay, 3, none),
  (yX12_bring, cX12_bring, 3, none),
  (yX12_frees, cX12_frees, 6, some .boolean),
  (yX12_findFewest, cX12_findFewest, 3, some .int),
  (yX12_fewest, cX12_fewest, 3, some .int),
  (yX12_step, cX12_step, 4, some .int),
  (yX12_proves, cX12_proves, 6, some .int),
  (yX12_morningOf, cX12_morningOf, 5, some .int),
  (yX12_morning, cX12_morning, 4, some .int),
  (yX12_arrivalOf, cX12_arrivalOf, 3, some .int),
  (yX12_arrive, cX12_arrive, 2, some .int),
  (yX12_clear, cX12_clear, 2, some .int),
  (yX12_moreBy, cX12_moreBy, 8, some .int),
  (yX12_plans, cX12_plans, 5, none),
  (yX12_findPlan, cX12_findPlan, 1, none),
  (yX12_plan, cX12_plan, 1, some .int),
  (yX12_planned, cX12_planned, 3, some .int),
  (yX12_chargers, cX12_chargers, 3, some .int),
  (yX12_begin, cX12_begin, 3, none),
  (yX12_charge, cX12_charge, 7, some .int),
  (yX12_canAll, cX12_canAll, 4, some .boolean),
  (yX12_many, cX12_many, 3, some .int),
  (yX12_findCharged, cX12_findCharged, 4, some .int),
  (yX12_charged, cX12_charged, 1, some .int),
  (yX12_charging, cX12_charging, 4, some .int),
  (yX12_bid, cX12_bid, 5, some .int),
  (yX12_mostFrom, cX12_mostFrom, 6, some .int),
  (yX12_findGiving, cX12_findGiving, 6, some .int),
  (yX12_given, cX12_given, 3, some .int),
  (yX12_rent, cX12_rent, 3, some .int),
  (yX12_giving, cX12_giving, 1, some .int),
  (yX12_porter, cX12_porter, 3, some .int),
  (yX12_look, cX12_look, 3, some .int),
  (yX12_harm, cX12_harm, 11, some .int),
  (yX12_isSign, cX12_isSign, 1, some .boolean),
  (yX12_text, cX12_text, 3, some .int),
  (yX12_wrongAt, cX12_wrongAt, 5, some .int),
  (yX12_wrong, cX12_wrong, 1, some .int),
  (yX12_readBy, cX12_readBy, 5, some .int),
  (yX12_joined, cX12_joined, 3, some .boolean),
  (yX12_isLet, cX12_isLet, 7, some .boolean),
  (yX12_lets, cX12_lets, 4, some .int),
  (yX12_flood, cX12_flood, 4, some .int),
  (yX12_pace, cX12_pace, 3, some .int),
  (yX12_minuteOf, cX12_minuteOf, 3, some .int),
  (yX12_rescues, cX12_rescues, 5, none),
  (yX12_findRescue, cX12_findRescue, 1, none),
  (yX12_rescue, cX12_rescue, 1, some .int),
  (yX12_rescued, cX12_rescued, 2, some .int),
  (yX12_note, cX12_note, 4, some .int),
  (yX12_hasKey, cX12_hasKey, 9, some .boolean),
  (yX12_key, cX12_key, 4, some .int),
  (yX12_isSheet, cX12_isSheet, 1, some .boolean),
  (yX12_sheet, cX12_sheet, 5, some .int),
  (yX12_put, cX12_put, 5, some .int),
  (yX12_copy, cX12_copy, 7, some .int),
  (yX12_all, cX12_all, 4, some .int),
  (yJ6_bitCount_0f7a4, cJ6_bitCount_0f7a4, 1, some .int),
  (yJ9_max_7cf53, cJ9_max_7cf53, 2, some .int),
  (yJ9_min_7cf53, cJ9_min_7cf53, 2, some .int),
  (yJ7_rangeCheck_23922, cJ7_rangeCheck_23922, 3, none),
  (yJ7_fill_53178, cJ7_fill_53178, 4, none),
  (yJ7_fill_fda19, cJ7_fill_fda19, 5, none),
  (yL_law, cL_law, 4, some .boolean)]
def ex_y (m : Nat) : MethodName := match ex_my[m]? with
  | some q => q.1
  | none => yL_law
def ex_fT (q : Nat) : String × String × String × Bool := match vwCl[q / 32]? with
  | some c => c.2.1 (q % 32)
  | none => ("", "", "", false)
def ex_sN (k : Nat) : String := ["KIND_ABOVE", "LEAST_FACT", "MOST_FACT"].getD k ""
/-- a link: its kind, the class, the place in its pool, what it names -/
abbrev ex_L : Type := Nat × Nat × Nat × Int
def ex_lw (q : ex_L) : Cond := match q.1 with
  | 1 => .fieldLink (ex_nm q.2.1) q.2.2.1 (ex_fT q.2.2.2.toNat).1 (ex_fT q.2.2.2.toNat).2.1 (ex_fT q.2.2.2.toNat).2.2.1
  | 2 => .methodLink (ex_nm q.2.1) q.2.2.1 (ex_y q.2.2.2.toNat)
  | 3 => .methodLinkNest (ex_nm q.2.1) q.2.2.1 (ex_y q.2.2.2.toNat) "CellarCars"
  | 4 => .constant (ex_nm q.2.1) q.2.2.1 (Int32.ofInt q.2.2.2)
  | 5 => .classLink (ex_nm q.2.1) q.2.2.1 (ex_nm q.2.2.2.toNat)
  | 6 => .fieldLink (ex_nm q.2.1) q.2.2.1 "CellarCars$Garage" (ex_sN q.2.2.2.toNat) "[I"
  | 7 => .methodLink (ex_nm q.2.1) q.2.2.1 objectInit
  | _ => .methodLink (ex_nm q.2.1) q.2.2.1 arraycopyName
def ex_lk_0 : List ex_L := [(7, 0, 3, 0), (1, 0, 9, 0), (1, 0, 15, 1), (2, 0, 18, 2), (2, 0, 22, 235), (2, 0, 28, 3), (1, 0, 32, 65), (1, 0, 38, 76), (2, 0, 41, 17), (2, 0, 45, 4), (2, 0, 49, 5)]
def ex_lp_0 : List Nat := [314, 315, 317, 805, 810, 811, 103, 127, 809, 815, 819]
def ex_lk_1 : List ex_L := [(7, 1, 3, 0), (5, 1, 9, 2), (3, 1, 11, 9), (1, 1, 12, 32), (5, 1, 18, 4), (3, 1, 20, 43), (1, 1, 21, 33), (5, 1, 25, 3), (3, 1, 27, 38), (1, 1, 28, 34), (1, 1, 32, 35), (1, 1, 36, 36), (1, 1, 39, 37), (1, 1, 42, 38), (1, 1, 46, 39), (1, 1, 49, 40), (1, 1, 52, 41), (1, 1, 55, 42), (1, 1, 58, 43), (1, 1, 61, 44), (2, 1, 64, 10), (2, 1, 68, 44), (2, 1, 71, 39), (8, 1, 74, 0)]
def ex_lp_1 : List Nat := [90, 91, 93, 195, 158, 160, 198, 175, 177, 200, 202, 204, 206, 209, 211, 214, 216, 218, 220, 222, 440, 447, 452, 457]
def ex_lk_2 : List ex_L := [(7, 2, 3, 0), (1, 2, 9, 64), (1, 2, 15, 65), (1, 2, 18, 66), (1, 2, 22, 67), (1, 2, 25, 68), (1, 2, 28, 69), (1, 2, 31, 70), (1, 2, 34, 71), (1, 2, 37, 72), (1, 2, 40, 73), (1, 2, 43, 74), (1, 2, 46, 75), (1, 2, 49, 76), (8, 2, 52, 0), (6, 2, 58, 0), (6, 2, 61, 1), (6, 2, 64, 2), (2, 2, 67, 17), (2, 2, 71, 21), (2, 2, 75, 23), (2, 2, 78, 25), (4, 2, 82, (-100007)), (2, 2, 83, 22), (4, 2, 87, (-100004)), (4, 2, 88, (-100008)), (2, 2, 89, 24), (4, 2, 92, (-100005)), (4, 2, 93, (-100006)), (2, 2, 94, 26), (2, 2, 97, 20), (2, 2, 100, 30), (2, 2, 104, 29), (2, 2, 108, 31), (2, 2, 111, 236)]
def ex_lp_2 : List Nat := [96, 97, 102, 106, 108, 111, 113, 114, 116, 118, 121, 124, 125, 126, 444, 421, 509, 511, 494, 558, 490, 570, 567, 568, 569, 574, 575, 576, 593, 594, 581, 638, 642, 722, 934]
def ex_lk_3 : List ex_L := [(7, 3, 3, 0), (1, 3, 9, 96), (1, 3, 15, 97), (1, 3, 19, 98), (1, 3, 22, 99), (8, 3, 25, 0), (2, 3, 31, 41)]
def ex_lp_3 : List Nat := [180, 181, 183, 184, 185, 456, 689]
def ex_lk_4 : List ex_L := [(7, 4, 3, 0), (1, 4, 9, 128), (1, 4, 15, 129), (1, 4, 19, 130), (8, 4, 22, 0), (2, 4, 28, 47), (2, 4, 32, 48), (2, 4, 36, 49)]
def ex_lp_4 : List Nat := [163, 164, 166, 167, 451, 880, 884, 888]
def ex_lk_5 : List ex_L := [(7, 5, 3, 0), (1, 5, 9, 160), (1, 5, 15, 161), (1, 5, 18, 162), (1, 5, 21, 163), (2, 5, 25, 239), (2, 5, 31, 52), (1, 5, 35, 39), (8, 5, 40, 0), (1, 5, 46, 32), (1, 5, 50, 37), (2, 5, 55, 17), (1, 5, 59, 64), (1, 5, 62, 67), (2, 5, 65, 22), (2, 5, 69, 53)]
def ex_lp_5 : List Nat := [294, 295, 297, 298, 299, 775, 778, 212, 782, 197, 207, 783, 100, 109, 784, 785]
def ex_lk_6 : List ex_L := [(7, 6, 3, 0), (1, 6, 9, 192), (1, 6, 15, 193), (1, 6, 18, 194), (2, 6, 22, 56), (8, 6, 26, 0), (2, 6, 32, 55)]
def ex_lp_6 : List Nat := [328, 329, 331, 332, 843, 847, 856]
def ex_lk_7 : List ex_L := [(7, 7, 3, 0), (1, 7, 9, 224), (1, 7, 15, 225), (1, 7, 19, 226), (1, 7, 22, 227), (1, 7, 25, 228), (1, 7, 28, 64), (1, 7, 33, 72), (1, 7, 36, 73), (2, 7, 39, 60), (8, 7, 43, 0), (2, 7, 49, 37), (2, 7, 53, 23), (2, 7, 57, 17)]
def ex_lp_7 : List Nat := [358, 359, 361, 363, 364, 365, 98, 119, 122, 925, 929, 930, 937, 938]
def ex_lk_8 : List ex_L := [(7, 8, 3, 0), (1, 8, 11, 256), (1, 8, 15, 257), (2, 8, 18, 65), (2, 8, 22, 66), (2, 8, 26, 67), (2, 8, 30, 68), (2, 8, 33, 69)]
def ex_lp_8 : List Nat := [345, 346, 347, 615, 619, 622, 626, 630]
def ex_lk_9 : List ex_L := [(7, 9, 3, 0), (1, 9, 9, 288), (1, 9, 15, 289), (1, 9, 18, 290), (2, 9, 21, 240), (8, 9, 27, 0)]
def ex_lp_9 : List Nat := [257, 258, 260, 262, 963, 989]
def ex_lk_10 : List ex_L := [(7, 10, 3, 0), (1, 10, 9, 320), (5, 10, 15, 2), (3, 10, 17, 9), (1, 10, 18, 321), (1, 10, 22, 322), (2, 10, 26, 10), (2, 10, 30, 26), (2, 10, 34, 79), (2, 10, 38, 82), (2, 10, 42, 80), (2, 10, 45, 34), (2, 10, 49, 235), (1, 10, 54, 65), (1, 10, 57, 76), (1, 10, 60, 64), (2, 10, 63, 83), (2, 10, 67, 32), (2, 10, 71, 14), (2, 10, 74, 13), (2, 10, 77, 28), (2, 10, 81, 31)]
def ex_lp_10 : List Nat := [275, 278, 276, 277, 280, 281, 698, 707, 694, 699, 703, 708, 709, 104, 128, 101, 710, 718, 714, 715, 716, 717]
def ex_lk_11 : List ex_L := [(7, 11, 1, 0), (5, 11, 7, 1), (3, 11, 9, 6), (1, 11, 10, 352), (1, 11, 16, 353), (5, 11, 20, 9), (3, 11, 22, 70), (1, 11, 23, 354), (5, 11, 27, 10), (3, 11, 29, 78), (1, 11, 30, 355), (5, 11, 34, 5), (3, 11, 36, 50), (1, 11, 37, 356), (5, 11, 41, 0), (3, 11, 43, 0), (1, 11, 44, 357), (5, 11, 48, 6), (3, 11, 50, 54), (1, 11, 51, 358), (5, 11, 55, 8), (3, 11, 57, 61), (1, 11, 58, 359), (5, 11, 62, 7), (3, 11, 64, 58), (1, 11, 65, 360), (1, 11, 69, 361), (1, 11, 73, 362), (1, 11, 76, 363), (2, 11, 79, 11), (2, 11, 85, 137), (4, 11, 89, (-100001)), (2, 11, 90, 132), (1, 11, 94, 32), (1, 11, 98, 64), (4, 11, 101, (-100005)), (2, 11, 102, 133), (2, 11, 105, 15), (2, 11, 109, 13), (2, 11, 112, 19), (4, 11, 116, (-100004)), (1, 11, 117, 66), (1, 11, 121, 67), (1, 11, 124, 68), (2, 11, 127, 21), (1, 11, 130, 73), (2, 11, 133, 24), (1, 11, 136, 71), (1, 11, 139, 72), (2, 11, 142, 12), (1, 11, 145, 65), (2, 11, 148, 16), (2, 11, 152, 14), (2, 11, 155, 17), (1, 11, 159, 76), (2, 11, 162, 34), (2, 11, 165, 235), (2, 11, 170, 18), (4, 11, 174, (-100006)), (2, 11, 175, 23), (2, 11, 178, 22), (2, 11, 181, 27), (2, 11, 184, 29), (2, 11, 188, 28), (1, 11, 191, 34), (1, 11, 195, 40), (1, 11, 198, 96), (2, 11, 203, 41), (4, 11, 206, (-100002)), (2, 11, 207, 136), (4, 11, 210, (-100009)), (2, 11, 211, 31), (1, 11, 214, 33), (1, 11, 218, 42), (2, 11, 221, 45), (1, 11, 226, 44), (2, 11, 229, 134), (2, 11, 232, 26), (4, 11, 235, (-100008)), (2, 11, 236, 30), (2, 11, 240, 33), (2, 11, 244, 138), (2, 11, 247, 135), (2, 11, 250, 81), (1, 11, 254, 320), (2, 11, 257, 71), (2, 11, 260, 72), (2, 11, 263, 79), (1, 11, 267, 289), (2, 11, 270, 74), (2, 11, 273, 83), (2, 11, 276, 80), (2, 11, 279, 36), (2, 11, 282, 8), (4, 11, 285, (-100007)), (1, 11, 286, 39), (1, 11, 289, 37), (2, 11, 292, 51), (1, 11, 296, 160), (1, 11, 299, 41), (2, 11, 302, 1), (2, 11, 306, 3), (1, 11, 310, 0), (2, 11, 313, 139), (1, 11, 316, 35), (2, 11, 319, 55), (1, 11, 323, 192), (2, 11, 324, 57), (2, 11, 327, 140), (1, 11, 330, 128), (2, 11, 331, 46), (4, 11, 334, (-100003)), (2, 11, 335, 62), (1, 11, 338, 36), (1, 11, 341, 38), (2, 11, 344, 65), (1, 11, 347, 70), (1, 11, 350, 43), (2, 11, 353, 59), (1, 11, 356, 225), (1, 11, 359, 224), (2, 11, 360, 40), (2, 11, 363, 73), (2, 11, 366, 75), (1, 11, 369, 288), (2, 11, 372, 76), (2, 11, 375, 77), (2, 11, 379, 7), (2, 11, 383, 35), (2, 11, 386, 237), (2, 11, 391, 42), (2, 11, 394, 63), (2, 11, 398, 64)]
def ex_lp_11 : List Nat := [82, 85, 87, 377, 378, 252, 254, 379, 270, 272, 380, 289, 291, 381, 309, 311, 382, 323, 325, 383, 340, 342, 384, 353, 355, 385, 386, 387, 388, 418, 423, 426, 427, 196, 99, 431, 432, 461, 469, 473, 477, 107, 110, 112, 482, 123, 486, 117, 120, 506, 105, 513, 521, 525, 129, 526, 530, 540, 548, 549, 554, 563, 577, 589, 201, 215, 182, 598, 602, 603, 633, 634, 199, 219, 643, 223, 651, 655, 656, 657, 662, 670, 681, 690, 279, 731, 735, 739, 261, 740, 744, 745, 750, 758, 762, 213, 208, 771, 296, 217, 801, 827, 316, 832, 203, 839, 330, 852, 865, 165, 876, 896, 897, 205, 210, 904, 115, 221, 921, 362, 360, 947, 959, 973, 259, 981, 985, 436, 998, 458, 685, 607, 611]
def ex_lk_12 : List ex_L := [(7, 12, 1, 0), (1, 12, 9, 384), (1, 12, 13, 385), (1, 12, 16, 388), (1, 12, 19, 389), (1, 12, 22, 390), (1, 12, 25, 391), (1, 12, 28, 392), (1, 12, 31, 393), (1, 12, 34, 394), (1, 12, 37, 396), (1, 12, 40, 397), (1, 12, 43, 398), (1, 12, 46, 401), (1, 12, 49, 402), (1, 12, 52, 403), (1, 12, 55, 404), (1, 12, 58, 387), (2, 12, 62, 143), (1, 12, 66, 386), (4, 12, 69, (-100006)), (2, 12, 70, 142), (4, 12, 74, (-100001)), (4, 12, 75, (-100005)), (2, 12, 76, 147), (2, 12, 79, 144), (4, 12, 83, (-100004)), (2, 12, 84, 152), (2, 12, 88, 153), (2, 12, 91, 150), (2, 12, 94, 146), (2, 12, 97, 145), (2, 12, 100, 157), (2, 12, 103, 158), (2, 12, 106, 162), (2, 12, 110, 164), (2, 12, 113, 166), (4, 12, 117, (-100007)), (4, 12, 118, (-100008)), (2, 12, 119, 167), (2, 12, 123, 165), (2, 12, 126, 228), (4, 12, 129, (-100002)), (2, 12, 130, 168), (2, 12, 133, 170), (2, 12, 136, 218), (4, 12, 139, (-100009)), (2, 12, 140, 171), (2, 12, 143, 172), (2, 12, 146, 178), (2, 12, 149, 180), (2, 12, 152, 179), (2, 12, 155, 181), (2, 12, 158, 230), (2, 12, 161, 185), (2, 12, 164, 187), (1, 12, 167, 395), (2, 12, 170, 190), (2, 12, 173, 191), (2, 12, 176, 192), (2, 12, 179, 196), (2, 12, 182, 197), (2, 12, 185, 199), (2, 12, 188, 198), (2, 12, 191, 200), (2, 12, 195, 204), (2, 12, 199, 236), (2, 12, 204, 205), (4, 12, 207, (-100003)), (2, 12, 208, 212), (2, 12, 211, 214), (2, 12, 214, 216), (2, 12, 218, 217), (1, 12, 221, 399), (1, 12, 224, 400), (2, 12, 227, 222), (2, 12, 230, 223), (2, 12, 233, 224)]
def ex_lp_12 : List Nat := [1007, 1008, 1009, 1012, 1013, 1014, 1015, 1016, 1017, 1018, 1020, 1021, 1022, 1025, 1026, 1027, 1028, 1011, 1085, 1010, 1076, 1077, 1088, 1089, 1090, 1098, 1102, 1111, 1107, 1119, 1127, 1134, 1138, 1142, 1158, 1167, 1176, 1166, 1171, 1172, 1188, 1192, 1196, 1217, 1184, 1197, 1212, 1213, 1221, 1253, 1249, 1257, 1245, 1269, 1276, 1284, 1019, 1304, 1300, 1296, 1331, 1335, 1324, 1327, 1320, 1355, 1359, 1351, 1384, 1385, 1201, 1205, 1209, 1023, 1024, 1416, 1412, 1408]
def ex_lk_13 : List ex_L := [(4, 13, 265, 1431655765), (4, 13, 266, 858993459), (4, 13, 267, 252645135)]
def ex_lp_13 : List Nat := [533, 534, 535]
def ex_lk_15 : List ex_L := [(2, 15, 13, 238)]
def ex_lp_15 : List Nat := [966]
def ex_lk_16 : List ex_L := [(5, 16, 7, 11), (2, 16, 9, 84), (5, 16, 10, 12), (2, 16, 12, 141), (2, 16, 13, 85), (2, 16, 17, 149), (2, 16, 18, 86), (2, 16, 22, 151), (2, 16, 23, 87), (2, 16, 26, 154), (2, 16, 27, 88), (2, 16, 31, 155), (2, 16, 32, 89), (2, 16, 36, 156), (2, 16, 37, 90), (2, 16, 40, 159), (2, 16, 41, 91), (2, 16, 45, 160), (2, 16, 46, 92), (2, 16, 49, 161), (2, 16, 50, 93), (2, 16, 53, 163), (2, 16, 54, 94), (2, 16, 57, 169), (2, 16, 58, 95), (2, 16, 61, 173), (2, 16, 62, 96), (2, 16, 66, 174), (2, 16, 67, 97), (2, 16, 71, 175), (2, 16, 72, 98), (2, 16, 75, 176), (2, 16, 76, 99), (2, 16, 79, 177), (2, 16, 80, 100), (2, 16, 83, 182), (2, 16, 84, 101), (2, 16, 87, 183), (2, 16, 88, 102), (2, 16, 91, 184), (2, 16, 92, 103), (2, 16, 95, 186), (2, 16, 96, 104), (2, 16, 99, 188), (2, 16, 100, 105), (2, 16, 103, 189), (2, 16, 104, 106), (2, 16, 107, 193), (2, 16, 108, 107), (2, 16, 111, 194), (2, 16, 112, 108), (2, 16, 115, 195), (2, 16, 116, 109), (2, 16, 119, 201), (2, 16, 120, 110), (2, 16, 123, 202), (2, 16, 124, 111), (2, 16, 127, 203), (2, 16, 128, 112), (2, 16, 131, 206), (2, 16, 132, 113), (2, 16, 135, 207), (2, 16, 136, 114), (2, 16, 139, 208), (2, 16, 140, 115), (2, 16, 143, 209), (2, 16, 144, 116), (2, 16, 147, 210), (2, 16, 148, 117), (2, 16, 151, 211), (2, 16, 152, 118), (2, 16, 155, 213), (2, 16, 156, 119), (2, 16, 159, 215), (2, 16, 160, 120), (2, 16, 163, 219), (2, 16, 164, 121), (2, 16, 167, 220), (2, 16, 168, 122), (2, 16, 171, 221), (2, 16, 172, 123), (2, 16, 175, 225), (2, 16, 176, 124), (2, 16, 179, 226), (2, 16, 180, 125), (2, 16, 184, 227), (2, 16, 185, 126), (2, 16, 188, 229), (2, 16, 189, 127), (2, 16, 192, 231), (2, 16, 193, 128), (2, 16, 196, 232), (2, 16, 197, 129), (2, 16, 201, 233), (2, 16, 202, 130), (2, 16, 205, 148), (2, 16, 206, 131), (2, 16, 209, 234)]
def ex_lp_16 : List Nat := [77, 79, 1002, 1004, 414, 1081, 465, 1094, 478, 1103, 498, 1115, 502, 1123, 517, 1130, 536, 1146, 544, 1150, 550, 1154, 559, 1162, 585, 1180, 647, 1225, 658, 1229, 666, 1233, 673, 1237, 677, 1241, 723, 1261, 727, 1265, 746, 1272, 754, 1280, 763, 1288, 767, 1292, 789, 1308, 793, 1312, 797, 1316, 823, 1339, 828, 1343, 835, 1347, 848, 1360, 857, 1364, 861, 1368, 868, 1372, 872, 1376, 892, 1380, 900, 1388, 905, 1392, 909, 1396, 913, 1400, 917, 1404, 939, 1420, 943, 1424, 951, 1428, 955, 1432, 969, 1436, 977, 1440, 990, 1072, 994, 1444]
def ex_lk (own : Nat) : List ex_L := match own with
  | 0 => ex_lk_0
  | 1 => ex_lk_1
  | 2 => ex_lk_2
  | 3 => ex_lk_3
  | 4 => ex_lk_4
  | 5 => ex_lk_5
  | 6 => ex_lk_6
  | 7 => ex_lk_7
  | 8 => ex_lk_8
  | 9 => ex_lk_9
  | 10 => ex_lk_10
  | 11 => ex_lk_11
  | 12 => ex_lk_12
  | 13 => ex_lk_13
  | 15 => ex_lk_15
  | 16 => ex_lk_16
  | _ => []
set_option maxRecDepth 100000 in
theorem ex_lo_0 : (List.zip ex_lk_0 ex_lp_0).all (fun q => decide (lw_tbl[q.2]? = some (ex_lw q.1))) = true ∧ ex_lk_0.length = ex_lp_0.length := by decide +kernel
set_option maxRecDepth 100000 in
theorem ex_lo_1 : (List.zip ex_lk_1 ex_lp_1).all (fun q => decide (lw_tbl[q.2]? = some (ex_lw q.1))) = true ∧ ex_lk_1.length = ex_lp_1.length := by decide +kernel
set_option maxRecDepth 100000 in
theorem ex_lo_2 : (List.zip ex_lk_2 ex_lp_2).all (fun q => decide (lw_tbl[q.2]? = some (ex_lw q.1))) = true ∧ ex_lk_2.length = ex_lp_2.length := by decide +kernel
set_option maxRecDepth 100000 in
theorem ex_lo_3 : (List.zip ex_lk_3 ex_lp_3).all (fun q => decide (lw_tbl[q.2]? = some (ex_lw q.1))) = true ∧ ex_lk_3.length = ex_lp_3.length := by decide +kernel
set_option maxRecDepth 100000 in
theorem ex_lo_4 : (List.zip ex_lk_4 ex_lp_4).all (fun q => decide (lw_tbl[q.2]? = some (ex_lw q.1))) = true ∧ ex_lk_4.length = ex_lp_4.length := by decide +kernel
set_option maxRecDepth 100000 in
theorem ex_lo_5 : (List.zip ex_lk_5 ex_lp_5).all (fun q => decide (lw_tbl[q.2]? = some (ex_lw q.1))) = true ∧ ex_lk_5.length = ex_lp_5.length := by decide +kernel
set_option maxRecDepth 100000 in
theorem ex_lo_6 : (List.zip ex_lk_6 ex_lp_6).all (fun q => decide (lw_tbl[q.2]? = some (ex_lw q.1))) = true ∧ ex_lk_6.length = ex_lp_6.length := by decide +kernel
set_option maxRecDepth 100000 in
theorem ex_lo_7 : (List.zip ex_lk_7 ex_lp_7).all (fun q => decide (lw_tbl[q.2]? = some (ex_lw q.1))) = true ∧ ex_lk_7.length = ex_lp_7.length := by decide +kernel
set_option maxRecDepth 100000 in
theorem ex_lo_8 : (List.zip ex_lk_8 ex_lp_8).all (fun q => decide (lw_tbl[q.2]? = some (ex_lw q.1))) = true ∧ ex_lk_8.length = ex_lp_8.length := by decide +kernel
set_option maxRecDepth 100000 in
theorem ex_lo_9 : (List.zip ex_lk_9 ex_lp_9).all (fun q => decide (lw_tbl[q.2]? = some (ex_lw q.1))) = true ∧ ex_lk_9.length = ex_lp_9.length := by decide +kernel
set_option maxRecDepth 100000 in
theorem ex_lo_10 : (List.zip ex_lk_10 ex_lp_10).all (fun q => decide (lw_tbl[q.2]? = some (ex_lw q.1))) = true ∧ ex_lk_10.length = ex_lp_10.length := by decide +kernel
set_option maxRecDepth 100000 in
theorem ex_lo_11 : (List.zip ex_lk_11 ex_lp_11).all (fun q => decide (lw_tbl[q.2]? = some (ex_lw q.1))) = true ∧ ex_lk_11.length = ex_lp_11.length := by decide +kernel
set_option maxRecDepth 100000 in
theorem ex_lo_12 : (List.zip ex_lk_12 ex_lp_12).all (fun q => decide (lw_tbl[q.2]? = some (ex_lw q.1))) = true ∧ ex_lk_12.length = ex_lp_12.length := by decide +kernel
set_option maxRecDepth 100000 in
theorem ex_lo_13 : (List.zip ex_lk_13 ex_lp_13).all (fun q => decide (lw_tbl[q.2]? = some (ex_lw q.1))) = true ∧ ex_lk_13.length = ex_lp_13.length := by decide +kernel
set_option maxRecDepth 100000 in
theorem ex_lo_15 : (List.zip ex_lk_15 ex_lp_15).all (fun q => decide (lw_tbl[q.2]? = some (ex_lw q.1))) = true ∧ ex_lk_15.length = ex_lp_15.length := by decide +kernel
set_option maxRecDepth 100000 in
theorem ex_lo_16 : (List.zip ex_lk_16 ex_lp_16).all (fun q => decide (lw_tbl[q.2]? = some (ex_lw q.1))) = true ∧ ex_lk_16.length = ex_lp_16.length := by decide +kernel
theorem ex_lo_of {L : List ex_L} {P : List Nat} (h : (List.zip L P).all (fun q => decide (lw_tbl[q.2]? = some (ex_lw q.1))) = true ∧ L.length = P.length) : ∀ q ∈ L, ex_lw q ∈ lw_tbl := by
  intro q hq
  obtain ⟨i, hi⟩ := List.getElem?_of_mem hq
  obtain ⟨hl, hv⟩ := List.getElem?_eq_some_iff.mp hi
  have hp : i < P.length := by rw [← h.2]; exact hl
  have h1 := List.all_eq_true.mp h.1 (L[i], P[i]) (by
    have : (List.zip L P)[i]? = some (L[i], P[i]) := by
      rw [List.getElem?_zip_eq_some]
      exact ⟨List.getElem?_eq_getElem hl, List.getElem?_eq_getElem hp⟩
    exact List.mem_of_getElem? this)
  rw [hv] at h1
  exact List.mem_of_getElem? (of_decide_eq_true h1)
theorem ex_lk_in (own : Nat) : ∀ q ∈ ex_lk own, ex_lw q ∈ lw_tbl := by
  unfold ex_lk
  split
  · exact ex_lo_of ex_lo_0
  · exact ex_lo_of ex_lo_1
  · exact ex_lo_of ex_lo_2
  · exact ex_lo_of ex_lo_3
  · exact ex_lo_of ex_lo_4
  · exact ex_lo_of ex_lo_5
  · exact ex_lo_of ex_lo_6
  · exact ex_lo_of ex_lo_7
  · exact ex_lo_of ex_lo_8
  · exact ex_lo_of ex_lo_9
  · exact ex_lo_of ex_lo_10
  · exact ex_lo_of ex_lo_11
  · exact ex_lo_of ex_lo_12
  · exact ex_lo_of ex_lo_13
  · exact ex_lo_of ex_lo_15
  · exact ex_lo_of ex_lo_16
  · intro q hq; cases hq
