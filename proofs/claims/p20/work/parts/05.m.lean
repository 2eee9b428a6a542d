def ai_pM (r : MethodName × ByteArray × Nat × Option FieldType × Nat) (j : Nat) : Prop := lw_tbl[j]? = some (Jvm.Cond.code r.1 r.2.1 r.2.2.1 r.2.2.2.1)
def ai_Mx : List Nat := [152, 449, 470, 530, 641, 660, 747, 755, 764, 760, 801, 810, 63, 298, 294, 347, 620, 286, 302, 319, 476, 343, 725, 358, 716, 603, 712, 624, 188, 512, 575, 580, 520, 445, 457, 552, 525, 543, 223, 704, 741, 733, 737, 751, 768, 778, 782, 797, 806, 820, 159, 453, 534, 548, 497, 501, 538, 480, 489, 493, 381, 425, 466, 462, 135, 429, 441, 437, 516, 566, 561, 113, 361, 364, 595, 599, 627, 350, 331, 335, 339, 354, 55, 279, 290, 306, 315, 323, 368, 433, 508, 557, 571, 591, 611, 615, 636, 646, 651, 655, 708, 721, 729, 793, 814, 421, 372, 376, 309, 327, 282, 789, 825, 966, 1080, 958, 962, 970, 974, 997, 989, 985, 993, 1001, 981, 978, 1005, 1009, 1021, 1038, 1017, 1013, 1033, 1029, 1025, 1042, 1050, 1057, 1060, 1054, 1046, 1068, 1064, 1072, 1076, 1092, 1088, 1084, 1096, 1101, 1105, 1113, 1109, 1117, 1125, 1130, 1134, 1137, 1121, 1141, 1145, 583, 631, 385, 484]
set_option maxRecDepth 100000 in
theorem ai_cw0 : ai_pM (yX0_init, cX0_init, 3, none, 0) 152 := rfl
set_option maxRecDepth 100000 in
theorem ai_cw1 : ai_pM (yX0_clear, cX0_clear, 2, none, 0) 449 := rfl
set_option maxRecDepth 100000 in
theorem ai_cw2 : ai_pM (yX0_hand, cX0_hand, 8, none, 0) 470 := rfl
set_option maxRecDepth 100000 in
theorem ai_cw3 : ai_pM (yX0_findMeetings, cX0_findMeetings, 9, none, 0) 530 := rfl
set_option maxRecDepth 100000 in
theorem ai_cw4 : ai_pM (yX0_waitFrom, cX0_waitFrom, 6, (some .int), 0) 641 := rfl
set_option maxRecDepth 100000 in
theorem ai_cw5 : ai_pM (yX1_init, cX1_init, 5, none, 1) 660 := rfl
set_option maxRecDepth 100000 in
theorem ai_cw6 : ai_pM (yX1_setOut, cX1_setOut, 3, none, 1) 747 := rfl
set_option maxRecDepth 100000 in
theorem ai_cw7 : ai_pM (yX1_nextWire, cX1_nextWire, 1, (some .int), 1) 755 := rfl
set_option maxRecDepth 100000 in
theorem ai_cw8 : ai_pM (yX1_readyAt, cX1_readyAt, 1, (some .int), 1) 764 := rfl
set_option maxRecDepth 100000 in
theorem ai_cw9 : ai_pM (yX1_goesAheadOf, cX1_goesAheadOf, 2, (some .boolean), 1) 760 := rfl
set_option maxRecDepth 100000 in
theorem ai_cw10 : ai_pM (yX1_readyFor, cX1_readyFor, 3, (some .int), 1) 801 := rfl
set_option maxRecDepth 100000 in
theorem ai_cw11 : ai_pM (yX1_waitsFor, cX1_waitsFor, 4, (some .boolean), 1) 810 := rfl
set_option maxRecDepth 100000 in
theorem ai_cw12 : ai_pM (yX2_init, cX2_init, 1, none, 2) 63 := rfl
set_option maxRecDepth 100000 in
theorem ai_cw13 : ai_pM (yX2_hasBox, cX2_hasBox, 2, (some .boolean), 2) 298 := rfl
set_option maxRecDepth 100000 in
theorem ai_cw14 : ai_pM (yX2_hasPair, cX2_hasPair, 3, (some .boolean), 2) 294 := rfl
set_option maxRecDepth 100000 in
theorem ai_cw15 : ai_pM (yX2_hasWire, cX2_hasWire, 2, (some .boolean), 2) 347 := rfl
set_option maxRecDepth 100000 in
theorem ai_cw16 : ai_pM (yX2_hasTick, cX2_hasTick, 2, (some .boolean), 2) 620 := rfl
set_option maxRecDepth 100000 in
theorem ai_cw17 : ai_pM (yX2_makeBox, cX2_makeBox, 2, (some .int), 2) 286 := rfl
set_option maxRecDepth 100000 in
theorem ai_cw18 : ai_pM (yX2_makeWire, cX2_makeWire, 5, (some .int), 2) 302 := rfl
set_option maxRecDepth 100000 in
theorem ai_cw19 : ai_pM (yX2_rightClocks, cX2_rightClocks, 2, none, 2) 319 := rfl
set_option maxRecDepth 100000 in
theorem ai_cw20 : ai_pM (yX2_timeOn, cX2_timeOn, 3, (some .int), 2) 476 := rfl
set_option maxRecDepth 100000 in
theorem ai_cw21 : ai_pM (yX2_crossing, cX2_crossing, 3, (some .int), 2) 343 := rfl
set_option maxRecDepth 100000 in
theorem ai_cw22 : ai_pM (yX2_holdBehind, cX2_holdBehind, 2, (some .int), 2) 725 := rfl
set_option maxRecDepth 100000 in
theorem ai_cw23 : ai_pM (yX2_stayBehind, cX2_stayBehind, 2, (some .int), 2) 358 := rfl
set_option maxRecDepth 100000 in
theorem ai_cw24 : ai_pM (yX2_offAt, cX2_offAt, 2, (some .int), 2) 716 := rfl
set_option maxRecDepth 100000 in
theorem ai_cw25 : ai_pM (yX2_startOf, cX2_startOf, 6, (some .int), 2) 603 := rfl
set_option maxRecDepth 100000 in
theorem ai_cw26 : ai_pM (yX2_beginOf, cX2_beginOf, 4, (some .int), 2) 712 := rfl
set_option maxRecDepth 100000 in
theorem ai_cw27 : ai_pM (yX2_hasDoor, cX2_hasDoor, 5, (some .boolean), 2) 624 := rfl
set_option maxRecDepth 100000 in
theorem ai_cw28 : ai_pM (yX3_init, cX3_init, 5, none, 3) 188 := rfl
set_option maxRecDepth 100000 in
theorem ai_cw29 : ai_pM (yX3_begin, cX3_begin, 1, none, 3) 512 := rfl
set_option maxRecDepth 100000 in
theorem ai_cw30 : ai_pM (yX3_fitFewest, cX3_fitFewest, 7, (some .int), 3) 575 := rfl
set_option maxRecDepth 100000 in
theorem ai_cw31 : ai_pM (yX3_mirrored, cX3_mirrored, 3, (some .int), 3) 580 := rfl
set_option maxRecDepth 100000 in
theorem ai_cw32 : ai_pM (yX3_fit, cX3_fit, 3, (some .int), 3) 520 := rfl
set_option maxRecDepth 100000 in
theorem ai_cw33 : ai_pM (yX3_showDoors, cX3_showDoors, 2, none, 3) 445 := rfl
set_option maxRecDepth 100000 in
theorem ai_cw34 : ai_pM (yX3_giveDoors, cX3_giveDoors, 3, none, 3) 457 := rfl
set_option maxRecDepth 100000 in
theorem ai_cw35 : ai_pM (yX3_keepPlaces, cX3_keepPlaces, 3, none, 3) 552 := rfl
set_option maxRecDepth 100000 in
theorem ai_cw36 : ai_pM (yX3_search, cX3_search, 5, (some .int), 3) 525 := rfl
set_option maxRecDepth 100000 in
theorem ai_cw37 : ai_pM (yX3_searchTicks, cX3_searchTicks, 6, (some .int), 3) 543 := rfl
set_option maxRecDepth 100000 in
theorem ai_cw38 : ai_pM (yX4_init, cX4_init, 4, none, 4) 223 := rfl
set_option maxRecDepth 100000 in
theorem ai_cw39 : ai_pM (yX4_tell, cX4_tell, 2, (some .int), 4) 704 := rfl
set_option maxRecDepth 100000 in
theorem ai_cw40 : ai_pM (yX4_letter, cX4_letter, 2, (some (.object "DoorNet$Letter")), 4) 741 := rfl
set_option maxRecDepth 100000 in
theorem ai_cw41 : ai_pM (yX4_settle, cX4_settle, 3, none, 4) 733 := rfl
set_option maxRecDepth 100000 in
theorem ai_cw42 : ai_pM (yX4_setOutAll, cX4_setOutAll, 3, none, 4) 737 := rfl
set_option maxRecDepth 100000 in
theorem ai_cw43 : ai_pM (yX4_findHead, cX4_findHead, 5, none, 4) 751 := rfl
set_option maxRecDepth 100000 in
theorem ai_cw44 : ai_pM (yX4_beginOf, cX4_beginOf, 6, (some .int), 4) 768 := rfl
set_option maxRecDepth 100000 in
theorem ai_cw45 : ai_pM (yX4_earliestWire, cX4_earliestWire, 4, (some .int), 4) 778 := rfl
set_option maxRecDepth 100000 in
theorem ai_cw46 : ai_pM (yX4_beginOn, cX4_beginOn, 6, none, 4) 782 := rfl
set_option maxRecDepth 100000 in
theorem ai_cw47 : ai_pM (yX4_longestRow, cX4_longestRow, 5, (some .int), 4) 797 := rfl
set_option maxRecDepth 100000 in
theorem ai_cw48 : ai_pM (yX4_waitingAt, cX4_waitingAt, 6, (some .int), 4) 806 := rfl
set_option maxRecDepth 100000 in
theorem ai_cw49 : ai_pM (yX4_ended, cX4_ended, 4, (some .int), 4) 820 := rfl
set_option maxRecDepth 100000 in
theorem ai_cw50 : ai_pM (yX5_init, cX5_init, 2, none, 5) 159 := rfl
set_option maxRecDepth 100000 in
theorem ai_cw51 : ai_pM (yX5_clear, cX5_clear, 1, none, 5) 453 := rfl
set_option maxRecDepth 100000 in
theorem ai_cw52 : ai_pM (yX5_fill, cX5_fill, 1, none, 5) 534 := rfl
set_option maxRecDepth 100000 in
theorem ai_cw53 : ai_pM (yX5_has, cX5_has, 3, (some .boolean), 5) 548 := rfl
set_option maxRecDepth 100000 in
theorem ai_cw54 : ai_pM (yX5_include, cX5_include, 2, none, 5) 497 := rfl
set_option maxRecDepth 100000 in
theorem ai_cw55 : ai_pM (yX5_exclude, cX5_exclude, 2, none, 5) 501 := rfl
set_option maxRecDepth 100000 in
theorem ai_cw56 : ai_pM (yX5_includePutOff, cX5_includePutOff, 3, none, 5) 538 := rfl
set_option maxRecDepth 100000 in
theorem ai_cw57 : ai_pM (yX5_becomeLetters, cX5_becomeLetters, 10, none, 5) 480 := rfl
set_option maxRecDepth 100000 in
theorem ai_cw58 : ai_pM (yX5_lettersOf, cX5_lettersOf, 2, (some .int), 5) 489 := rfl
set_option maxRecDepth 100000 in
theorem ai_cw59 : ai_pM (yX5_includeTurned, cX5_includeTurned, 17, none, 5) 493 := rfl
set_option maxRecDepth 100000 in
theorem ai_cw60 : ai_pM (yX6_init, cX6_init, 3, none, 6) 381 := rfl
set_option maxRecDepth 100000 in
theorem ai_cw61 : ai_pM (yX6_offer, cX6_offer, 2, none, 6) 425 := rfl
set_option maxRecDepth 100000 in
theorem ai_cw62 : ai_pM (yX6_wayOf, cX6_wayOf, 2, (some .int), 6) 466 := rfl
set_option maxRecDepth 100000 in
theorem ai_cw63 : ai_pM (yX6_wayNow, cX6_wayNow, 1, (some .int), 6) 462 := rfl
set_option maxRecDepth 100000 in
theorem ai_cw64 : ai_pM (yX7_init, cX7_init, 1, none, 7) 135 := rfl
set_option maxRecDepth 100000 in
theorem ai_cw65 : ai_pM (yX7_tell, cX7_tell, 2, (some .int), 7) 429 := rfl
set_option maxRecDepth 100000 in
theorem ai_cw66 : ai_pM (yX7_one, cX7_one, 2, (some (.object "DoorNet$Stream")), 7) 441 := rfl
set_option maxRecDepth 100000 in
theorem ai_cw67 : ai_pM (yX7_placedOne, cX7_placedOne, 3, (some (.object "DoorNet$Stream")), 7) 437 := rfl
set_option maxRecDepth 100000 in
theorem ai_cw68 : ai_pM (yX7_allOfThem, cX7_allOfThem, 1, (some .int), 7) 516 := rfl
set_option maxRecDepth 100000 in
theorem ai_cw69 : ai_pM (yX7_withPlace, cX7_withPlace, 3, (some .int), 7) 566 := rfl
set_option maxRecDepth 100000 in
theorem ai_cw70 : ai_pM (yX7_withoutPlace, cX7_withoutPlace, 1, (some .int), 7) 561 := rfl
set_option maxRecDepth 100000 in
theorem ai_cw71 : ai_pM (yX8_init, cX8_init, 2, none, 8) 113 := rfl
set_option maxRecDepth 100000 in
theorem ai_cw72 : ai_pM (yX8_latenessOf, cX8_latenessOf, 1, (some .int), 8) 361 := rfl
set_option maxRecDepth 100000 in
theorem ai_cw73 : ai_pM (yX8_wireAt, cX8_wireAt, 2, (some .int), 8) 364 := rfl
set_option maxRecDepth 100000 in
theorem ai_cw74 : ai_pM (yX8_wiresIn, cX8_wiresIn, 3, (some .int), 8) 595 := rfl
set_option maxRecDepth 100000 in
theorem ai_cw75 : ai_pM (yX8_hasHop, cX8_hasHop, 2, (some .boolean), 8) 599 := rfl
set_option maxRecDepth 100000 in
theorem ai_cw76 : ai_pM (yX8_hopOn, cX8_hopOn, 3, (some .int), 8) 627 := rfl
set_option maxRecDepth 100000 in
theorem ai_cw77 : ai_pM (yX8_shiftOf, cX8_shiftOf, 1, (some .int), 8) 350 := rfl
set_option maxRecDepth 100000 in
theorem ai_cw78 : ai_pM (yX8_atRank, cX8_atRank, 7, (some .int), 8) 331 := rfl
set_option maxRecDepth 100000 in
theorem ai_cw79 : ai_pM (yX8_nextBehind, cX8_nextBehind, 5, (some .int), 8) 335 := rfl
set_option maxRecDepth 100000 in
theorem ai_cw80 : ai_pM (yX8_walk, cX8_walk, 10, none, 8) 339 := rfl
set_option maxRecDepth 100000 in
theorem ai_cw81 : ai_pM (yX8_offer, cX8_offer, 2, none, 8) 354 := rfl
set_option maxRecDepth 100000 in
theorem ai_cw82 : ai_pM (yX9_init, cX9_init, 1, none, 9) 55 := rfl
set_option maxRecDepth 100000 in
theorem ai_cw83 : ai_pM (yX9_box, cX9_box, 2, (some .int), 9) 279 := rfl
set_option maxRecDepth 100000 in
theorem ai_cw84 : ai_pM (yX9_wire, cX9_wire, 5, (some .int), 9) 290 := rfl
set_option maxRecDepth 100000 in
theorem ai_cw85 : ai_pM (yX9_cycle, cX9_cycle, 2, (some .boolean), 9) 306 := rfl
set_option maxRecDepth 100000 in
theorem ai_cw86 : ai_pM (yX9_drift, cX9_drift, 2, (some .boolean), 9) 315 := rfl
set_option maxRecDepth 100000 in
theorem ai_cw87 : ai_pM (yX9_way, cX9_way, 7, (some .int), 9) 323 := rfl
set_option maxRecDepth 100000 in
theorem ai_cw88 : ai_pM (yX9_stream, cX9_stream, 7, (some .int), 9) 368 := rfl
set_option maxRecDepth 100000 in
theorem ai_cw89 : ai_pM (yX9_strike, cX9_strike, 3, (some .boolean), 9) 433 := rfl
set_option maxRecDepth 100000 in
theorem ai_cw90 : ai_pM (yX9_plan, cX9_plan, 2, (some .int), 9) 508 := rfl
set_option maxRecDepth 100000 in
theorem ai_cw91 : ai_pM (yX9_add, cX9_add, 2, (some .int), 9) 557 := rfl
set_option maxRecDepth 100000 in
theorem ai_cw92 : ai_pM (yX9_stir, cX9_stir, 2, (some .int), 9) 571 := rfl
set_option maxRecDepth 100000 in
theorem ai_cw93 : ai_pM (yX9_place, cX9_place, 5, (some .int), 9) 591 := rfl
set_option maxRecDepth 100000 in
theorem ai_cw94 : ai_pM (yX9_tries, cX9_tries, 1, (some .int), 9) 611 := rfl
set_option maxRecDepth 100000 in
theorem ai_cw95 : ai_pM (yX9_door, cX9_door, 5, (some .int), 9) 615 := rfl
set_option maxRecDepth 100000 in
theorem ai_cw96 : ai_pM (yX9_waits, cX9_waits, 4, (some .int), 9) 636 := rfl
set_option maxRecDepth 100000 in
theorem ai_cw97 : ai_pM (yX9_worst, cX9_worst, 6, (some .int), 9) 646 := rfl
set_option maxRecDepth 100000 in
theorem ai_cw98 : ai_pM (yX9_clock, cX9_clock, 3, (some .boolean), 9) 651 := rfl
set_option maxRecDepth 100000 in
theorem ai_cw99 : ai_pM (yX9_send, cX9_send, 5, (some .int), 9) 655 := rfl
set_option maxRecDepth 100000 in
theorem ai_cw100 : ai_pM (yX9_leaves, cX9_leaves, 7, (some .int), 9) 708 := rfl
set_option maxRecDepth 100000 in
theorem ai_cw101 : ai_pM (yX9_room, cX9_room, 8, (some .int), 9) 721 := rfl
set_option maxRecDepth 100000 in
theorem ai_cw102 : ai_pM (yX9_plain, cX9_plain, 4, (some .int), 9) 729 := rfl
set_option maxRecDepth 100000 in
theorem ai_cw103 : ai_pM (yX9_most, cX9_most, 2, (some .int), 9) 793 := rfl
set_option maxRecDepth 100000 in
theorem ai_cw104 : ai_pM (yX9_count, cX9_count, 2, (some .int), 9) 814 := rfl
set_option maxRecDepth 100000 in
theorem ai_cw105 : ai_pM (yX9_findChoices, cX9_findChoices, 7, none, 9) 421 := rfl
set_option maxRecDepth 100000 in
theorem ai_cw106 : ai_pM (yX9_isPeriod, cX9_isPeriod, 2, (some .boolean), 9) 372 := rfl
set_option maxRecDepth 100000 in
theorem ai_cw107 : ai_pM (yX9_isInTime, cX9_isInTime, 2, (some .boolean), 9) 376 := rfl
set_option maxRecDepth 100000 in
theorem ai_cw108 : ai_pM (yX9_isCycle, cX9_isCycle, 5, (some .boolean), 9) 309 := rfl
set_option maxRecDepth 100000 in
theorem ai_cw109 : ai_pM (yX9_isSize, cX9_isSize, 1, (some .boolean), 9) 327 := rfl
set_option maxRecDepth 100000 in
theorem ai_cw110 : ai_pM (yX9_within, cX9_within, 3, (some .boolean), 9) 282 := rfl
set_option maxRecDepth 100000 in
theorem ai_cw111 : ai_pM (yX9_aheadOfEnd, cX9_aheadOfEnd, 1, (some .int), 9) 789 := rfl
set_option maxRecDepth 100000 in
theorem ai_cw112 : ai_pM (yX10_init, cX10_init, 1, none, 10) 825 := rfl
set_option maxRecDepth 100000 in
theorem ai_cw113 : ai_pM (yX10_isBox, cX10_isBox, 2, (some .boolean), 10) 966 := rfl
set_option maxRecDepth 100000 in
theorem ai_cw114 : ai_pM (yX10_isWire, cX10_isWire, 2, (some .boolean), 10) 1080 := rfl
set_option maxRecDepth 100000 in
theorem ai_cw115 : ai_pM (yX10_box, cX10_box, 2, (some .int), 10) 958 := rfl
set_option maxRecDepth 100000 in
theorem ai_cw116 : ai_pM (yX10_wire, cX10_wire, 5, (some .int), 10) 962 := rfl
set_option maxRecDepth 100000 in
theorem ai_cw117 : ai_pM (yX10_cycle, cX10_cycle, 2, (some .boolean), 10) 970 := rfl
set_option maxRecDepth 100000 in
theorem ai_cw118 : ai_pM (yX10_drift, cX10_drift, 3, (some .boolean), 10) 974 := rfl
set_option maxRecDepth 100000 in
theorem ai_cw119 : ai_pM (yX10_late, cX10_late, 8, (some .int), 10) 997 := rfl
set_option maxRecDepth 100000 in
theorem ai_cw120 : ai_pM (yX10_isSeen, cX10_isSeen, 5, (some .boolean), 10) 989 := rfl
set_option maxRecDepth 100000 in
theorem ai_cw121 : ai_pM (yX10_findWays, cX10_findWays, 7, none, 10) 985 := rfl
set_option maxRecDepth 100000 in
theorem ai_cw122 : ai_pM (yX10_keep, cX10_keep, 7, none, 10) 993 := rfl
set_option maxRecDepth 100000 in
theorem ai_cw123 : ai_pM (yX10_isBehind, cX10_isBehind, 5, (some .boolean), 10) 1001 := rfl
set_option maxRecDepth 100000 in
theorem ai_cw124 : ai_pM (yX10_isSize, cX10_isSize, 1, (some .boolean), 10) 981 := rfl
set_option maxRecDepth 100000 in
theorem ai_cw125 : ai_pM (yX10_way, cX10_way, 6, (some .int), 10) 978 := rfl
set_option maxRecDepth 100000 in
theorem ai_cw126 : ai_pM (yX10_stream, cX10_stream, 9, (some .int), 10) 1005 := rfl
set_option maxRecDepth 100000 in
theorem ai_cw127 : ai_pM (yX10_strike, cX10_strike, 2, (some .boolean), 10) 1009 := rfl
set_option maxRecDepth 100000 in
theorem ai_cw128 : ai_pM (yX10_start, cX10_start, 8, (some .int), 10) 1021 := rfl
set_option maxRecDepth 100000 in
theorem ai_cw129 : ai_pM (yX10_meets, cX10_meets, 10, (some .boolean), 10) 1038 := rfl
set_option maxRecDepth 100000 in
theorem ai_cw130 : ai_pM (yX10_put, cX10_put, 10, none, 10) 1017 := rfl
set_option maxRecDepth 100000 in
theorem ai_cw131 : ai_pM (yX10_lay, cX10_lay, 2, none, 10) 1013 := rfl
set_option maxRecDepth 100000 in
theorem ai_cw132 : ai_pM (yX10_seek, cX10_seek, 5, (some .int), 10) 1033 := rfl
set_option maxRecDepth 100000 in
theorem ai_cw133 : ai_pM (yX10_seekWith, cX10_seekWith, 5, (some .int), 10) 1029 := rfl
set_option maxRecDepth 100000 in
theorem ai_cw134 : ai_pM (yX10_plan, cX10_plan, 1, (some .int), 10) 1025 := rfl
set_option maxRecDepth 100000 in
theorem ai_cw135 : ai_pM (yX10_add, cX10_add, 1, (some .int), 10) 1042 := rfl
set_option maxRecDepth 100000 in
theorem ai_cw136 : ai_pM (yX10_placed, cX10_placed, 3, (some .int), 10) 1050 := rfl
set_option maxRecDepth 100000 in
theorem ai_cw137 : ai_pM (yX10_bits, cX10_bits, 3, (some .int), 10) 1057 := rfl
set_option maxRecDepth 100000 in
theorem ai_cw138 : ai_pM (yX10_isAhead, cX10_isAhead, 3, (some .boolean), 10) 1060 := rfl
set_option maxRecDepth 100000 in
theorem ai_cw139 : ai_pM (yX10_nextSet, cX10_nextSet, 7, (some .int), 10) 1054 := rfl
set_option maxRecDepth 100000 in
theorem ai_cw140 : ai_pM (yX10_stir, cX10_stir, 5, (some .int), 10) 1046 := rfl
set_option maxRecDepth 100000 in
theorem ai_cw141 : ai_pM (yX10_isPlace, cX10_isPlace, 2, (some .boolean), 10) 1068 := rfl
set_option maxRecDepth 100000 in
theorem ai_cw142 : ai_pM (yX10_place, cX10_place, 5, (some .int), 10) 1064 := rfl
set_option maxRecDepth 100000 in
theorem ai_cw143 : ai_pM (yX10_tries, cX10_tries, 1, (some .int), 10) 1072 := rfl
set_option maxRecDepth 100000 in
theorem ai_cw144 : ai_pM (yX10_door, cX10_door, 3, (some .int), 10) 1076 := rfl
set_option maxRecDepth 100000 in
theorem ai_cw145 : ai_pM (yX10_rest, cX10_rest, 3, (some .int), 10) 1092 := rfl
set_option maxRecDepth 100000 in
theorem ai_cw146 : ai_pM (yX10_isOpen, cX10_isOpen, 5, (some .boolean), 10) 1088 := rfl
set_option maxRecDepth 100000 in
theorem ai_cw147 : ai_pM (yX10_waits, cX10_waits, 5, (some .int), 10) 1084 := rfl
set_option maxRecDepth 100000 in
theorem ai_cw148 : ai_pM (yX10_worst, cX10_worst, 6, (some .int), 10) 1096 := rfl
set_option maxRecDepth 100000 in
theorem ai_cw149 : ai_pM (yX10_clock, cX10_clock, 3, (some .boolean), 10) 1101 := rfl
set_option maxRecDepth 100000 in
theorem ai_cw150 : ai_pM (yX10_send, cX10_send, 6, (some .int), 10) 1105 := rfl
set_option maxRecDepth 100000 in
theorem ai_cw151 : ai_pM (yX10_leave, cX10_leave, 5, (some .int), 10) 1113 := rfl
set_option maxRecDepth 100000 in
theorem ai_cw152 : ai_pM (yX10_leaves, cX10_leaves, 6, (some .int), 10) 1109 := rfl
set_option maxRecDepth 100000 in
theorem ai_cw153 : ai_pM (yX10_room, cX10_room, 5, (some .int), 10) 1117 := rfl
set_option maxRecDepth 100000 in
theorem ai_cw154 : ai_pM (yX10_follow, cX10_follow, 3, none, 10) 1125 := rfl
set_option maxRecDepth 100000 in
theorem ai_cw155 : ai_pM (yX10_look, cX10_look, 7, none, 10) 1130 := rfl
set_option maxRecDepth 100000 in
theorem ai_cw156 : ai_pM (yX10_go, cX10_go, 5, none, 10) 1134 := rfl
set_option maxRecDepth 100000 in
theorem ai_cw157 : ai_pM (yX10_ahead, cX10_ahead, 1, (some .int), 10) 1137 := rfl
set_option maxRecDepth 100000 in
theorem ai_cw158 : ai_pM (yX10_plain, cX10_plain, 4, (some .int), 10) 1121 := rfl
set_option maxRecDepth 100000 in
theorem ai_cw159 : ai_pM (yX10_most, cX10_most, 2, (some .int), 10) 1141 := rfl
set_option maxRecDepth 100000 in
theorem ai_cw160 : ai_pM (yX10_count, cX10_count, 4, (some .int), 10) 1145 := rfl
set_option maxRecDepth 100000 in
theorem ai_cw161 : ai_pM (yJ6_bitCount_0f7a4, cJ6_bitCount_0f7a4, 1, (some .int), 11) 583 := rfl
set_option maxRecDepth 100000 in
theorem ai_cw162 : ai_pM (yJ9_floorMod_7cf53, cJ9_floorMod_7cf53, 3, (some .int), 12) 631 := rfl
set_option maxRecDepth 100000 in
theorem ai_cw163 : ai_pM (yJ9_max_7cf53, cJ9_max_7cf53, 2, (some .int), 12) 385 := rfl
set_option maxRecDepth 100000 in
theorem ai_cw164 : ai_pM (yJ9_min_7cf53, cJ9_min_7cf53, 2, (some .int), 12) 484 := rfl
set_option maxRecDepth 100000 in
theorem ai_mz : List.zipWith ai_pM ai_M ai_Mx = [ai_pM (yX0_init, cX0_init, 3, none, 0) 152, ai_pM (yX0_clear, cX0_clear, 2, none, 0) 449, ai_pM (yX0_hand, cX0_hand, 8, none, 0) 470, ai_pM (yX0_findMeetings, cX0_findMeetings, 9, none, 0) 530, ai_pM (yX0_waitFrom, cX0_waitFrom, 6, (some .int), 0) 641, ai_pM (yX1_init, cX1_init, 5, none, 1) 660, ai_pM (yX1_setOut, cX1_setOut, 3, none, 1) 747, ai_pM (yX1_nextWire, cX1_nextWire, 1, (some .int), 1) 755, ai_pM (yX1_readyAt, cX1_readyAt, 1, (some .int), 1) 764, ai_pM (yX1_goesAheadOf, cX1_goesAheadOf, 2, (some .boolean), 1) 760, ai_pM (yX1_readyFor, cX1_readyFor, 3, (some .int), 1) 801, ai_pM (yX1_waitsFor, cX1_waitsFor, 4, (some .boolean), 1) 810, ai_pM (yX2_init, cX2_init, 1, none, 2) 63, ai_pM (yX2_hasBox, cX2_hasBox, 2, (some .boolean), 2) 298, ai_pM (yX2_hasPair, cX2_hasPair, 3, (some .boolean), 2) 294, ai_pM (yX2_hasWire, cX2_hasWire, 2, (some .boolean), 2) 347, ai_pM (yX2_hasTick, cX2_hasTick, 2, (some .boolean), 2) 620, ai_pM (yX2_makeBox, cX2_makeBox, 2, (some .int), 2) 286, ai_pM (yX2_makeWire, cX2_makeWire, 5, (some .int), 2) 302, ai_pM (yX2_rightClocks, cX2_rightClocks, 2, none, 2) 319, ai_pM (yX2_timeOn, cX2_timeOn, 3, (some .int), 2) 476, ai_pM (yX2_crossing, cX2_crossing, 3, (some .int), 2) 343, ai_pM (yX2_holdBehind, cX2_holdBehind, 2, (some .int), 2) 725, ai_pM (yX2_stayBehind, cX2_stayBehind, 2, (some .int), 2) 358, ai_pM (yX2_offAt, cX2_offAt, 2, (some .int), 2) 716, ai_pM (yX2_startOf, cX2_startOf, 6, (some .int), 2) 603, ai_pM (yX2_beginOf, cX2_beginOf, 4, (some .int), 2) 712, ai_pM (yX2_hasDoor, cX2_hasDoor, 5, (some .boolean), 2) 624, ai_pM (yX3_init, cX3_init, 5, none, 3) 188, ai_pM (yX3_begin, cX3_begin, 1, none, 3) 512, ai_pM (yX3_fitFewest, cX3_fitFewest, 7, (some .int), 3) 575, ai_pM (yX3_mirrored, cX3_mirrored, 3, (some .int), 3) 580, ai_pM (yX3_fit, cX3_fit, 3, (some .int), 3) 520, ai_pM (yX3_showDoors, cX3_showDoors, 2, none, 3) 445, ai_pM (yX3_giveDoors, cX3_giveDoors, 3, none, 3) 457, ai_pM (yX3_keepPlaces, cX3_keepPlaces, 3, none, 3) 552, ai_pM (yX3_search, cX3_search, 5, (some .int), 3) 525, ai_pM (yX3_searchTicks, cX3_searchTicks, 6, (some .int), 3) 543, ai_pM (yX4_init, cX4_init, 4, none, 4) 223, ai_pM (yX4_tell, cX4_tell, 2, (some .int), 4) 704, ai_pM (yX4_letter, cX4_letter, 2, (some (.object "DoorNet$Letter")), 4) 741, ai_pM (yX4_settle, cX4_settle, 3, none, 4) 733, ai_pM (yX4_setOutAll, cX4_setOutAll, 3, none, 4) 737, ai_pM (yX4_findHead, cX4_findHead, 5, none, 4) 751, ai_pM (yX4_beginOf, cX4_beginOf, 6, (some .int), 4) 768, ai_pM (yX4_earliestWire, cX4_earliestWire, 4, (some .int), 4) 778, ai_pM (yX4_beginOn, cX4_beginOn, 6, none, 4) 782, ai_pM (yX4_longestRow, cX4_longestRow, 5, (some .int), 4) 797, ai_pM (yX4_waitingAt, cX4_waitingAt, 6, (some .int), 4) 806, ai_pM (yX4_ended, cX4_ended, 4, (some .int), 4) 820, ai_pM (yX5_init, cX5_init, 2, none, 5) 159, ai_pM (yX5_clear, cX5_clear, 1, none, 5) 453, ai_pM (yX5_fill, cX5_fill, 1, none, 5) 534, ai_pM (yX5_has, cX5_has, 3, (some .boolean), 5) 548, ai_pM (yX5_include, cX5_include, 2, none, 5) 497, ai_pM (yX5_exclude, cX5_exclude, 2, none, 5) 501, ai_pM (yX5_includePutOff, cX5_includePutOff, 3, none, 5) 538, ai_pM (yX5_becomeLetters, cX5_becomeLetters, 10, none, 5) 480, ai_pM (yX5_lettersOf, cX5_lettersOf, 2, (some .int), 5) 489, ai_pM (yX5_includeTurned, cX5_includeTurned, 17, none, 5) 493, ai_pM (yX6_init, cX6_init, 3, none, 6) 381, ai_pM (yX6_offer, cX6_offer, 2, none, 6) 425, ai_pM (yX6_wayOf, cX6_wayOf, 2, (some .int), 6) 466, ai_pM (yX6_wayNow, cX6_wayNow, 1, (some .int), 6) 462, ai_pM (yX7_init, cX7_init, 1, none, 7) 135, ai_pM (yX7_tell, cX7_tell, 2, (some .int), 7) 429, ai_pM (yX7_one, cX7_one, 2, (some (.object "DoorNet$Stream")), 7) 441, ai_pM (yX7_placedOne, cX7_placedOne, 3, (some (.object "DoorNet$Stream")), 7) 437, ai_pM (yX7_allOfThem, cX7_allOfThem, 1, (some .int), 7) 516, ai_pM (yX7_withPlace, cX7_withPlace, 3, (some .int), 7) 566, ai_pM (yX7_withoutPlace, cX7_withoutPlace, 1, (some .int), 7) 561, ai_pM (yX8_init, cX8_init, 2, none, 8) 113, ai_pM (yX8_latenessOf, cX8_latenessOf, 1, (some .int), 8) 361, ai_pM (yX8_wireAt, cX8_wireAt, 2, (some .int), 8) 364, ai_pM (yX8_wiresIn, cX8_wiresIn, 3, (some .int), 8) 595, ai_pM (yX8_hasHop, cX8_hasHop, 2, (some .boolean), 8) 599, ai_pM (yX8_hopOn, cX8_hopOn, 3, (some .int), 8) 627, ai_pM (yX8_shiftOf, cX8_shiftOf, 1, (some .int), 8) 350, ai_pM (yX8_atRank, cX8_atRank, 7, (some .int), 8) 331, ai_pM (yX8_nextBehind, cX8_nextBehind, 5, (some .int), 8) 335, ai_pM (yX8_walk, cX8_walk, 10, none, 8) 339, ai_pM (yX8_offer, cX8_offer, 2, none, 8) 354, ai_pM (yX9_init, cX9_init, 1, none, 9) 55, ai_pM (yX9_box, cX9_box, 2, (some .int), 9) 279, ai_pM (yX9_wire, cX9_wire, 5, (some .int), 9) 290, ai_pM (yX9_cycle, cX9_cycle, 2, (some .boolean), 9) 306, ai_pM (yX9_drift, cX9_drift, 2, (some .boolean), 9) 315, ai_pM (yX9_way, cX9_way, 7, (some .int), 9) 323, ai_pM (yX9_stream, cX9_stream, 7, (some .int), 9) 368, ai_pM (yX9_strike, cX9_strike, 3, (some .boolean), 9) 433, ai_pM (yX9_plan, cX9_plan, 2, (some .int), 9) 508, ai_pM (yX9_add, cX9_add, 2, (some .int), 9) 557, ai_pM (yX9_stir, cX9_stir, 2, (some .int), 9) 571, ai_pM (yX9_place, cX9_place, 5, (some .int), 9) 591, ai_pM (yX9_tries, cX9_tries, 1, (some .int), 9) 611, ai_pM (yX9_door, cX9_door, 5, (some .int), 9) 615, ai_pM (yX9_waits, cX9_waits, 4, (some .int), 9) 636, ai_pM (yX9_worst, cX9_worst, 6, (some .int), 9) 646, ai_pM (yX9_clock, cX9_clock, 3, (some .boolean), 9) 651, ai_pM (yX9_send, cX9_send, 5, (some .int), 9) 655, ai_pM (yX9_leaves, cX9_leaves, 7, (some .int), 9) 708, ai_pM (yX9_room, cX9_room, 8, (some .int), 9) 721, ai_pM (yX9_plain, cX9_plain, 4, (some .int), 9) 729, ai_pM (yX9_most, cX9_most, 2, (some .int), 9) 793, ai_pM (yX9_count, cX9_count, 2, (some .int), 9) 814, ai_pM (yX9_findChoices, cX9_findChoices, 7, none, 9) 421, ai_pM (yX9_isPeriod, cX9_isPeriod, 2, (some .boolean), 9) 372, ai_pM (yX9_isInTime, cX9_isInTime, 2, (some .boolean), 9) 376, ai_pM (yX9_isCycle, cX9_isCycle, 5, (some .boolean), 9) 309, ai_pM (yX9_isSize, cX9_isSize, 1, (some .boolean), 9) 327, ai_pM (yX9_within, cX9_within, 3, (some .boolean), 9) 282, ai_pM (yX9_aheadOfEnd, cX9_aheadOfEnd, 1, (some .int), 9) 789, ai_pM (yX10_init, cX10_init, 1, none, 10) 825, ai_pM (yX10_isBox, cX10_isBox, 2, (some .boolean), 10) 966, ai_pM (yX10_isWire, cX10_isWire, 2, (some .boolean), 10) 1080, ai_pM (yX10_box, cX10_box, 2, (some .int), 10) 958, ai_pM (yX10_wire, cX10_wire, 5, (some .int), 10) 962, ai_pM (yX10_cycle, cX10_cycle, 2, (some .boolean), 10) 970, ai_pM (yX10_drift, cX10_drift, 3, (some .boolean), 10) 974, ai_pM (yX10_late, cX10_late, 8, (some .int), 10) 997, ai_pM (yX10_isSeen, cX10_isSeen, 5, (some .boolean), 10) 989, ai_pM (yX10_findWays, cX10_findWays, 7, none, 10) 985, ai_pM (yX10_keep, cX10_keep, 7, none, 10) 993, ai_pM (yX10_isBehind, cX10_isBehind, 5, (some .boolean), 10) 1001, ai_pM (yX10_isSize, cX10_isSize, 1, (some .boolean), 10) 981, ai_pM (yX10_way, cX10_way, 6, (some .int), 10) 978, ai_pM (yX10_stream, cX10_stream, 9, (some .int), 10) 1005, ai_pM (yX10_strike, cX10_strike, 2, (some .boolean), 10) 1009, ai_pM (yX10_start, cX10_start, 8, (some .int), 10) 1021, ai_pM (yX10_meets, cX10_meets, 10, (some .boolean), 10) 1038, ai_pM (yX10_put, cX10_put, 10, none, 10) 1017, ai_pM (yX10_lay, cX10_lay, 2, none, 10) 1013, ai_pM (yX10_seek, cX10_seek, 5, (some .int), 10) 1033, ai_pM (yX10_seekWith, cX10_seekWith, 5, (some .int), 10) 1029, ai_pM (yX10_plan, cX10_plan, 1, (some .int), 10) 1025, ai_pM (yX10_add, cX10_add, 1, (some .int), 10) 1042, ai_pM (yX10_placed, cX10_placed, 3, (some .int), 10) 1050, ai_pM (yX10_bits, cX10_bits, 3, (some .int), 10) 1057, ai_pM (yX10_isAhead, cX10_isAhead, 3, (some .boolean), 10) 1060, ai_pM (yX10_nextSet, cX10_nextSet, 7, (some .int), 10) 1054, ai_pM (yX10_stir, cX10_stir, 5, (some .int), 10) 1046, ai_pM (yX10_isPlace, cX10_isPlace, 2, (some .boolean), 10) 1068, ai_pM (yX10_place, cX10_place, 5, (some .int), 10) 1064, ai_pM (yX10_tries, cX10_tries, 1, (some .int), 10) 1072, ai_pM (yX10_door, cX10_door, 3, (some .int), 10) 1076, ai_pM (yX10_rest, cX10_rest, 3, (some .int), 10) 1092, ai_pM (yX10_isOpen, cX10_isOpen, 5, (some .boolean), 10) 1088, ai_pM (yX10_waits, cX10_waits, 5, (some .int), 10) 1084, ai_pM (yX10_worst, cX10_worst, 6, (some .int), 10) 1096, ai_pM (yX10_clock, cX10_clock, 3, (some .boolean), 10) 1101, ai_pM (yX10_send, cX10_send, 6, (some .int), 10) 1105, ai_pM (yX10_leave, cX10_leave, 5, (some .int), 10) 1113, ai_pM (yX10_leaves, cX10_leaves, 6, (some .int), 10) 1109, ai_pM (yX10_room, cX10_room, 5, (some .int), 10) 1117, ai_pM (yX10_follow, cX10_follow, 3, none, 10) 1125, ai_pM (yX10_look, cX10_look, 7, none, 10) 1130, ai_pM (yX10_go, cX10_go, 5, none, 10) 1134, ai_pM (yX10_ahead, cX10_ahead, 1, (some .int), 10) 1137, ai_pM (yX10_plain, cX10_plain, 4, (some .int), 10) 1121, ai_pM (yX10_most, cX10_most, 2, (some .int), 10) 1141, ai_pM (yX10_count, cX10_count, 4, (some .int), 10) 1145, ai_pM (yJ6_bitCount_0f7a4, cJ6_bitCount_0f7a4, 1, (some .int), 11) 583, ai_pM (yJ9_floorMod_7cf53, cJ9_floorMod_7cf53, 3, (some .int), 12) 631, ai_pM (yJ9_max_7cf53, cJ9_max_7cf53, 2, (some .int), 12) 385, ai_pM (yJ9_min_7cf53, cJ9_min_7cf53, 2, (some .int), 12) 484] := rfl
set_option maxRecDepth 100000 in
theorem ai_ckM : ∀ P ∈ List.zipWith ai_pM ai_M ai_Mx, P := by
  rw [ai_mz]
  exact List.forall_mem_cons.mpr ⟨ai_cw0, List.forall_mem_cons.mpr ⟨ai_cw1, List.forall_mem_cons.mpr ⟨ai_cw2, List.forall_mem_cons.mpr ⟨ai_cw3, List.forall_mem_cons.mpr ⟨ai_cw4, List.forall_mem_cons.mpr ⟨ai_cw5, List.forall_mem_cons.mpr ⟨ai_cw6, List.forall_mem_cons.mpr ⟨ai_cw7, List.forall_mem_cons.mpr ⟨ai_cw8, List.forall_mem_cons.mpr ⟨ai_cw9, List.forall_mem_cons.mpr ⟨ai_cw10, List.forall_mem_cons.mpr ⟨ai_cw11, List.forall_mem_cons.mpr ⟨ai_cw12, List.forall_mem_cons.mpr ⟨ai_cw13, List.forall_mem_cons.mpr ⟨ai_cw14, List.forall_mem_cons.mpr ⟨ai_cw15, List.forall_mem_cons.mpr ⟨ai_cw16, List.forall_mem_cons.mpr ⟨ai_cw17, List.forall_mem_cons.mpr ⟨ai_cw18, List.forall_mem_cons.mpr ⟨ai_cw19, List.forall_mem_cons.mpr ⟨ai_cw20, List.forall_mem_cons.mpr ⟨ai_cw21, List.forall_mem_cons.mpr ⟨ai_cw22, List.forall_mem_cons.mpr ⟨ai_cw23, List.forall_mem_cons.mpr ⟨ai_cw24, List.forall_mem_cons.mpr ⟨ai_cw25, List.forall_mem_cons.mpr ⟨ai_cw26, List.forall_mem_cons.mpr ⟨ai_cw27, List.forall_mem_cons.mpr ⟨ai_cw28, List.forall_mem_cons.mpr ⟨ai_cw29, List.forall_mem_cons.mpr ⟨ai_cw30, List.forall_mem_cons.mpr ⟨ai_cw31, List.forall_mem_cons.mpr ⟨ai_cw32, List.forall_mem_cons.mpr ⟨ai_cw33, List.forall_mem_cons.mpr ⟨ai_cw34, List.forall_mem_cons.mpr ⟨ai_cw35, List.forall_mem_cons.mpr ⟨ai_cw36, List.forall_mem_cons.mpr ⟨ai_cw37, List.forall_mem_cons.mpr ⟨ai_cw38, List.forall_mem_cons.mpr ⟨ai_cw39, List.forall_mem_cons.mpr ⟨ai_cw40, List.forall_mem_cons.mpr ⟨ai_cw41, List.forall_mem_cons.mpr ⟨ai_cw42, List.forall_mem_cons.mpr ⟨ai_cw43, List.forall_mem_cons.mpr ⟨ai_cw44, List.forall_mem_cons.mpr ⟨ai_cw45, List.forall_mem_cons.mpr ⟨ai_cw46, List.forall_mem_cons.mpr ⟨ai_cw47, List.forall_mem_cons.mpr ⟨ai_cw48, List.forall_mem_cons.mpr ⟨ai_cw49, List.forall_mem_cons.mpr ⟨ai_cw50, List.forall_mem_cons.mpr ⟨ai_cw51, List.forall_mem_cons.mpr ⟨ai_cw52, List.forall_mem_cons.mpr ⟨ai_cw53, List.forall_mem_cons.mpr ⟨ai_cw54, List.forall_mem_cons.mpr ⟨ai_cw55, List.forall_mem_cons.mpr ⟨ai_cw56, List.forall_mem_cons.mpr ⟨ai_cw57, List.forall_mem_cons.mpr ⟨ai_cw58, List.forall_mem_cons.mpr ⟨ai_cw59, List.forall_mem_cons.mpr ⟨ai_cw60, List.forall_mem_cons.mpr ⟨ai_cw61, List.forall_mem_cons.mpr ⟨ai_cw62, List.forall_mem_cons.mpr ⟨ai_cw63, List.forall_mem_cons.mpr ⟨ai_cw64, List.forall_mem_cons.mpr ⟨ai_cw65, List.forall_mem_cons.mpr ⟨ai_cw66, List.forall_mem_cons.mpr ⟨ai_cw67, List.forall_mem_cons.mpr ⟨ai_cw68, List.forall_mem_cons.mpr ⟨ai_cw69, List.forall_mem_cons.mpr ⟨ai_cw70, List.forall_mem_cons.mpr ⟨ai_cw71, List.forall_mem_cons.mpr ⟨ai_cw72, List.forall_mem_cons.mpr ⟨ai_cw73, List.forall_mem_cons.mpr ⟨ai_cw74, List.forall_mem_cons.mpr ⟨ai_cw75, List.forall_mem_cons.mpr ⟨ai_cw76, List.forall_mem_cons.mpr ⟨ai_cw77, List.forall_mem_cons.mpr ⟨ai_cw78, List.forall_mem_cons.mpr ⟨ai_cw79, List.forall_mem_cons.mpr ⟨ai_cw80, List.forall_mem_cons.mpr ⟨ai_cw81, List.forall_mem_cons.mpr ⟨ai_cw82, List.forall_mem_cons.mpr ⟨ai_cw83, List.forall_mem_cons.mpr ⟨ai_cw84, List.forall_mem_cons.mpr ⟨ai_cw85, List.forall_mem_cons.mpr ⟨ai_cw86, List.forall_mem_cons.mpr ⟨ai_cw87, List.forall_mem_cons.mpr ⟨ai_cw88, List.forall_mem_cons.mpr ⟨ai_cw89, List.forall_mem_cons.mpr ⟨ai_cw90, List.forall_mem_cons.mpr ⟨ai_cw91, List.forall_mem_cons.mpr ⟨ai_cw92, List.forall_mem_cons.mpr ⟨ai_cw93, List.forall_mem_cons.mpr ⟨ai_cw94, List.forall_mem_cons.mpr ⟨ai_cw95, List.forall_mem_cons.mpr ⟨ai_cw96, List.forall_mem_cons.mpr ⟨ai_cw97, List.forall_mem_cons.mpr ⟨ai_cw98, List.forall_mem_cons.mpr ⟨ai_cw99, List.forall_mem_cons.mpr ⟨ai_cw100, List.forall_mem_cons.mpr ⟨ai_cw101, List.forall_mem_cons.mpr ⟨ai_cw102, List.forall_mem_cons.mpr ⟨ai_cw103, List.forall_mem_cons.mpr ⟨ai_cw104, List.forall_mem_cons.mpr ⟨ai_cw105, List.forall_mem_cons.mpr ⟨ai_cw106, List.forall_mem_cons.mpr ⟨ai_cw107, List.forall_mem_cons.mpr ⟨ai_cw108, List.forall_mem_cons.mpr ⟨ai_cw109, List.forall_mem_cons.mpr ⟨ai_cw110, List.forall_mem_cons.mpr ⟨ai_cw111, List.forall_mem_cons.mpr ⟨ai_cw112, List.forall_mem_cons.mpr ⟨ai_cw113, List.forall_mem_cons.mpr ⟨ai_cw114, List.forall_mem_cons.mpr ⟨ai_cw115, List.forall_mem_cons.mpr ⟨ai_cw116, List.forall_mem_cons.mpr ⟨ai_cw117, List.forall_mem_cons.mpr ⟨ai_cw118, List.forall_mem_cons.mpr ⟨ai_cw119, List.forall_mem_cons.mpr ⟨ai_cw120, List.forall_mem_cons.mpr ⟨ai_cw121, List.forall_mem_cons.mpr ⟨ai_cw122, List.forall_mem_cons.mpr ⟨ai_cw123, List.forall_mem_cons.mpr ⟨ai_cw124, List.forall_mem_cons.mpr ⟨ai_cw125, List.forall_mem_cons.mpr ⟨ai_cw126, List.forall_mem_cons.mpr ⟨ai_cw127, List.forall_mem_cons.mpr ⟨ai_cw128, List.forall_mem_cons.mpr ⟨ai_cw129, List.forall_mem_cons.mpr ⟨ai_cw130, List.forall_mem_cons.mpr ⟨ai_cw131, List.forall_mem_cons.mpr ⟨ai_cw132, List.forall_mem_cons.mpr ⟨ai_cw133, List.forall_mem_cons.mpr ⟨ai_cw134, List.forall_mem_cons.mpr ⟨ai_cw135, List.forall_mem_cons.mpr ⟨ai_cw136, List.forall_mem_cons.mpr ⟨ai_cw137, List.forall_mem_cons.mpr ⟨ai_cw138, List.forall_mem_cons.mpr ⟨ai_cw139, List.forall_mem_cons.mpr ⟨ai_cw140, List.forall_mem_cons.mpr ⟨ai_cw141, List.forall_mem_cons.mpr ⟨ai_cw142, List.forall_mem_cons.mpr ⟨ai_cw143, List.forall_mem_cons.mpr ⟨ai_cw144, List.forall_mem_cons.mpr ⟨ai_cw145, List.forall_mem_cons.mpr ⟨ai_cw146, List.forall_mem_cons.mpr ⟨ai_cw147, List.forall_mem_cons.mpr ⟨ai_cw148, List.forall_mem_cons.mpr ⟨ai_cw149, List.forall_mem_cons.mpr ⟨ai_cw150, List.forall_mem_cons.mpr ⟨ai_cw151, List.forall_mem_cons.mpr ⟨ai_cw152, List.forall_mem_cons.mpr ⟨ai_cw153, List.forall_mem_cons.mpr ⟨ai_cw154, List.forall_mem_cons.mpr ⟨ai_cw155, List.forall_mem_cons.mpr ⟨ai_cw156, List.forall_mem_cons.mpr ⟨ai_cw157, List.forall_mem_cons.mpr ⟨ai_cw158, List.forall_mem_cons.mpr ⟨ai_cw159, List.forall_mem_cons.mpr ⟨ai_cw160, List.forall_mem_cons.mpr ⟨ai_cw161, List.forall_mem_cons.mpr ⟨ai_cw162, List.forall_mem_cons.mpr ⟨ai_cw163, List.forall_mem_cons.mpr ⟨ai_cw164, fun _ hx => absurd hx List.not_mem_nil⟩⟩⟩⟩⟩⟩⟩⟩⟩⟩⟩⟩⟩⟩⟩⟩⟩⟩⟩⟩⟩⟩⟩⟩⟩⟩⟩⟩⟩⟩⟩⟩⟩⟩⟩⟩⟩⟩⟩⟩⟩⟩⟩⟩⟩⟩⟩⟩⟩⟩⟩⟩⟩⟩⟩⟩⟩⟩⟩⟩⟩⟩⟩⟩⟩⟩⟩⟩⟩⟩⟩⟩⟩⟩⟩⟩⟩⟩⟩⟩⟩⟩⟩⟩⟩⟩⟩⟩⟩⟩⟩⟩⟩⟩⟩⟩⟩⟩⟩⟩⟩⟩⟩⟩⟩⟩⟩⟩⟩⟩⟩⟩⟩⟩⟩⟩⟩⟩⟩⟩⟩⟩⟩⟩⟩⟩⟩⟩⟩⟩⟩⟩⟩⟩⟩⟩⟩⟩⟩⟩⟩⟩⟩⟩⟩⟩⟩⟩⟩⟩⟩⟩⟩⟩⟩⟩⟩⟩⟩⟩⟩⟩⟩⟩⟩
theorem ai_cw_s {mn : Nat} {r : MethodName × ByteArray × Nat × Option FieldType × Nat} (h : ai_M[mn]? = some r) (hm : mn < 165) : ∃ j : Nat, lw_tbl[j]? = some (Jvm.Cond.code r.1 r.2.1 r.2.2.1 r.2.2.2.1) := by
  have hl : mn < ai_Mx.length := by
    have : ai_Mx.length = 165 := by decide +kernel
    omega
  refine ⟨ai_Mx[mn], ?_⟩
  have hz : (List.zipWith ai_pM ai_M ai_Mx)[mn]? = some (ai_pM r ai_Mx[mn]) := by rw [List.getElem?_zipWith, h, List.getElem?_eq_getElem hl]
  exact ai_ckM _ (List.mem_of_getElem? hz)
