/-! THE STATIC FACTS: code words, call sites, fields, constants (by program out of the tables) -/
theorem kc_X0_init : Cond.code yX0_init cX0_init 1 none ∈ mgood := mgood_in (List.mem_of_getElem? (i := 68) (by decide +kernel)) rfl
theorem kc_X0_size : Cond.code yX0_size cX0_size 1 (some .int) ∈ mgood := mgood_in (List.mem_of_getElem? (i := 439) (by decide +kernel)) rfl
theorem kc_X3_saveTo : Cond.code yX3_saveTo cX3_saveTo 3 none ∈ mgood := mgood_in (List.mem_of_getElem? (i := 241) (by decide +kernel)) rfl
theorem kc_X0_record : Cond.code yX0_record cX0_record 5 none ∈ mgood := mgood_in (List.mem_of_getElem? (i := 234) (by decide +kernel)) rfl
theorem kc_X3_loadFrom : Cond.code yX3_loadFrom cX3_loadFrom 3 none ∈ mgood := mgood_in (List.mem_of_getElem? (i := 455) (by decide +kernel)) rfl
theorem kc_X0_restore : Cond.code yX0_restore cX0_restore 5 none ∈ mgood := mgood_in (List.mem_of_getElem? (i := 451) (by decide +kernel)) rfl
theorem kc_X1_init : Cond.code yX1_init cX1_init 1 none ∈ mgood := mgood_in (List.mem_of_getElem? (i := 111) (by decide +kernel)) rfl
theorem kc_X8_isState : Cond.code yX8_isState cX8_isState 1 (some .boolean) ∈ mgood := mgood_in (List.mem_of_getElem? (i := 51) (by decide +kernel)) rfl
theorem kc_X3_kindOf : Cond.code yX3_kindOf cX3_kindOf 2 (some .int) ∈ mgood := mgood_in (List.mem_of_getElem? (i := 250) (by decide +kernel)) rfl
theorem kc_X8_isWord : Cond.code yX8_isWord cX8_isWord 1 (some .boolean) ∈ mgood := mgood_in (List.mem_of_getElem? (i := 58) (by decide +kernel)) rfl
theorem kc_X3_targetOf : Cond.code yX3_targetOf cX3_targetOf 3 (some .int) ∈ mgood := mgood_in (List.mem_of_getElem? (i := 265) (by decide +kernel)) rfl
theorem kc_X3_wordsOf : Cond.code yX3_wordsOf cX3_wordsOf 4 (some .int) ∈ mgood := mgood_in (List.mem_of_getElem? (i := 261) (by decide +kernel)) rfl
theorem kc_X1_looksAlike : Cond.code yX1_looksAlike cX1_looksAlike 4 (some .boolean) ∈ mgood := mgood_in (List.mem_of_getElem? (i := 309) (by decide +kernel)) rfl
theorem kc_X1_areAlike : Cond.code yX1_areAlike cX1_areAlike 3 (some .boolean) ∈ mgood := mgood_in (List.mem_of_getElem? (i := 324) (by decide +kernel)) rfl
theorem kc_X1_leadsAlike : Cond.code yX1_leadsAlike cX1_leadsAlike 7 (some .boolean) ∈ mgood := mgood_in (List.mem_of_getElem? (i := 319) (by decide +kernel)) rfl
theorem kc_X1_part : Cond.code yX1_part cX1_part 4 none ∈ mgood := mgood_in (List.mem_of_getElem? (i := 315) (by decide +kernel)) rfl
theorem kc_X1_compare : Cond.code yX1_compare cX1_compare 4 none ∈ mgood := mgood_in (List.mem_of_getElem? (i := 306) (by decide +kernel)) rfl
theorem kc_X1_lowestAlike : Cond.code yX1_lowestAlike cX1_lowestAlike 3 (some .int) ∈ mgood := mgood_in (List.mem_of_getElem? (i := 329) (by decide +kernel)) rfl
theorem kc_X2_init : Cond.code yX2_init cX2_init 2 none ∈ mgood := mgood_in (List.mem_of_getElem? (i := 125) (by decide +kernel)) rfl
theorem kc_J7_fill_53178 : Cond.code yJ7_fill_53178 cJ7_fill_53178 4 none ∈ mgood := mgood_in (List.mem_of_getElem? (i := 361) (by decide +kernel)) rfl
theorem kc_X2_add : Cond.code yX2_add cX2_add 5 none ∈ mgood := mgood_in (List.mem_of_getElem? (i := 365) (by decide +kernel)) rfl
theorem kc_X8_cellOf : Cond.code yX8_cellOf cX8_cellOf 2 (some .int) ∈ mgood := mgood_in (List.mem_of_getElem? (i := 378) (by decide +kernel)) rfl
theorem kc_X2_stateOfOne : Cond.code yX2_stateOfOne cX2_stateOfOne 2 (some .int) ∈ mgood := mgood_in (List.mem_of_getElem? (i := 375) (by decide +kernel)) rfl
theorem kc_X2_stateOfOther : Cond.code yX2_stateOfOther cX2_stateOfOther 2 (some .int) ∈ mgood := mgood_in (List.mem_of_getElem? (i := 384) (by decide +kernel)) rfl
theorem kc_X6_goTogether : Cond.code yX6_goTogether cX6_goTogether 3 (some .boolean) ∈ mgood := mgood_in (List.mem_of_getElem? (i := 392) (by decide +kernel)) rfl
theorem kc_X7_goTogether : Cond.code yX7_goTogether cX7_goTogether 3 (some .boolean) ∈ mgood := mgood_in (List.mem_of_getElem? (i := 395) (by decide +kernel)) rfl
theorem kc_X2_pairBehind : Cond.code yX2_pairBehind cX2_pairBehind 7 (some .int) ∈ mgood := mgood_in (List.mem_of_getElem? (i := 369) (by decide +kernel)) rfl
theorem kc_X2_lengthOf : Cond.code yX2_lengthOf cX2_lengthOf 2 (some .int) ∈ mgood := mgood_in (List.mem_of_getElem? (i := 401) (by decide +kernel)) rfl
theorem kc_X2_walk : Cond.code yX2_walk cX2_walk 6 none ∈ mgood := mgood_in (List.mem_of_getElem? (i := 358) (by decide +kernel)) rfl
theorem kc_X2_positionBehind : Cond.code yX2_positionBehind cX2_positionBehind 3 (some .int) ∈ mgood := mgood_in (List.mem_of_getElem? (i := 582) (by decide +kernel)) rfl
theorem kc_X2_size : Cond.code yX2_size cX2_size 1 (some .int) ∈ mgood := mgood_in (List.mem_of_getElem? (i := 534) (by decide +kernel)) rfl
theorem kc_X2_has : Cond.code yX2_has cX2_has 2 (some .boolean) ∈ mgood := mgood_in (List.mem_of_getElem? (i := 659) (by decide +kernel)) rfl
theorem kc_X2_kindOfOne : Cond.code yX2_kindOfOne cX2_kindOfOne 2 (some .int) ∈ mgood := mgood_in (List.mem_of_getElem? (i := 557) (by decide +kernel)) rfl
theorem kc_X2_kindOfOther : Cond.code yX2_kindOfOther cX2_kindOfOther 2 (some .int) ∈ mgood := mgood_in (List.mem_of_getElem? (i := 563) (by decide +kernel)) rfl
theorem kc_X6_reasonFor : Cond.code yX6_reasonFor cX6_reasonFor 5 (some .int) ∈ mgood := mgood_in (List.mem_of_getElem? (i := 420) (by decide +kernel)) rfl
theorem kc_X7_reasonFor : Cond.code yX7_reasonFor cX7_reasonFor 6 (some .int) ∈ mgood := mgood_in (List.mem_of_getElem? (i := 427) (by decide +kernel)) rfl
theorem kc_X2_reasonOf : Cond.code yX2_reasonOf cX2_reasonOf 4 (some .int) ∈ mgood := mgood_in (List.mem_of_getElem? (i := 413) (by decide +kernel)) rfl
theorem kc_X2_lackedWords : Cond.code yX2_lackedWords cX2_lackedWords 3 (some .int) ∈ mgood := mgood_in (List.mem_of_getElem? (i := 424) (by decide +kernel)) rfl
theorem kc_X8_holds : Cond.code yX8_holds cX8_holds 2 (some .boolean) ∈ mgood := mgood_in (List.mem_of_getElem? (i := 336) (by decide +kernel)) rfl
theorem kc_X8_firstWordIn : Cond.code yX8_firstWordIn cX8_firstWordIn 2 (some .int) ∈ mgood := mgood_in (List.mem_of_getElem? (i := 678) (by decide +kernel)) rfl
theorem kc_X2_firstLackedWord : Cond.code yX2_firstLackedWord cX2_firstLackedWord 5 (some .int) ∈ mgood := mgood_in (List.mem_of_getElem? (i := 672) (by decide +kernel)) rfl
theorem kc_X2_firstFaulty : Cond.code yX2_firstFaulty cX2_firstFaulty 2 (some .int) ∈ mgood := mgood_in (List.mem_of_getElem? (i := 407) (by decide +kernel)) rfl
theorem kc_X8_foundOr : Cond.code yX8_foundOr cX8_foundOr 1 (some .int) ∈ mgood := mgood_in (List.mem_of_getElem? (i := 343) (by decide +kernel)) rfl
theorem kc_X2_wordOfRow : Cond.code yX2_wordOfRow cX2_wordOfRow 5 (some .int) ∈ mgood := mgood_in (List.mem_of_getElem? (i := 683) (by decide +kernel)) rfl
theorem kc_X2_tellMore : Cond.code yX2_tellMore cX2_tellMore 3 (some .int) ∈ mgood := mgood_in (List.mem_of_getElem? (i := 668) (by decide +kernel)) rfl
theorem kc_X3_setKind : Cond.code yX3_setKind cX3_setKind 3 none ∈ mgood := mgood_in (List.mem_of_getElem? (i := 48) (by decide +kernel)) rfl
theorem kc_X3_setTarget : Cond.code yX3_setTarget cX3_setTarget 4 none ∈ mgood := mgood_in (List.mem_of_getElem? (i := 55) (by decide +kernel)) rfl
theorem kc_X3_clear : Cond.code yX3_clear cX3_clear 3 none ∈ mgood := mgood_in (List.mem_of_getElem? (i := 44) (by decide +kernel)) rfl
theorem kc_X3_init : Cond.code yX3_init cX3_init 1 none ∈ mgood := mgood_in (List.mem_of_getElem? (i := 39) (by decide +kernel)) rfl
theorem kc_J6_bitCount_0f7a4 : Cond.code yJ6_bitCount_0f7a4 cJ6_bitCount_0f7a4 1 (some .int) ∈ mgood := mgood_in (List.mem_of_getElem? (i := 268) (by decide +kernel)) rfl
theorem kc_X3_arrows : Cond.code yX3_arrows cX3_arrows 3 (some .int) ∈ mgood := mgood_in (List.mem_of_getElem? (i := 433) (by decide +kernel)) rfl
theorem kc_X3_lastingStates : Cond.code yX3_lastingStates cX3_lastingStates 3 (some .int) ∈ mgood := mgood_in (List.mem_of_getElem? (i := 289) (by decide +kernel)) rfl
theorem kc_X3_swapSides : Cond.code yX3_swapSides cX3_swapSides 3 none ∈ mgood := mgood_in (List.mem_of_getElem? (i := 298) (by decide +kernel)) rfl
theorem kc_X3_statesBehind : Cond.code yX3_statesBehind cX3_statesBehind 5 (some .int) ∈ mgood := mgood_in (List.mem_of_getElem? (i := 340) (by decide +kernel)) rfl
theorem kc_X3_comesTo : Cond.code yX3_comesTo cX3_comesTo 5 (some .int) ∈ mgood := mgood_in (List.mem_of_getElem? (i := 333) (by decide +kernel)) rfl
theorem kc_X3_take : Cond.code yX3_take cX3_take 2 none ∈ mgood := mgood_in (List.mem_of_getElem? (i := 285) (by decide +kernel)) rfl
theorem kc_X4_init : Cond.code yX4_init cX4_init 1 none ∈ mgood := mgood_in (List.mem_of_getElem? (i := 81) (by decide +kernel)) rfl
theorem kc_X4_length : Cond.code yX4_length cX4_length 1 (some .int) ∈ mgood := mgood_in (List.mem_of_getElem? (i := 443) (by decide +kernel)) rfl
theorem kc_X4_isFull : Cond.code yX4_isFull cX4_isFull 1 (some .boolean) ∈ mgood := mgood_in (List.mem_of_getElem? (i := 721) (by decide +kernel)) rfl
theorem kc_X4_append : Cond.code yX4_append cX4_append 2 none ∈ mgood := mgood_in (List.mem_of_getElem? (i := 726) (by decide +kernel)) rfl
theorem kc_X4_clear : Cond.code yX4_clear cX4_clear 1 none ∈ mgood := mgood_in (List.mem_of_getElem? (i := 463) (by decide +kernel)) rfl
theorem kc_X4_draft : Cond.code yX4_draft cX4_draft 1 (some (.object "MirroredTalks$Plan")) ∈ mgood := mgood_in (List.mem_of_getElem? (i := 503) (by decide +kernel)) rfl
theorem kc_X4_toldStates : Cond.code yX4_toldStates cX4_toldStates 1 (some .int) ∈ mgood := mgood_in (List.mem_of_getElem? (i := 507) (by decide +kernel)) rfl
theorem kc_X4_isFaulty : Cond.code yX4_isFaulty cX4_isFaulty 1 (some .boolean) ∈ mgood := mgood_in (List.mem_of_getElem? (i := 480) (by decide +kernel)) rfl
theorem kc_X4_faultPosition : Cond.code yX4_faultPosition cX4_faultPosition 1 (some .int) ∈ mgood := mgood_in (List.mem_of_getElem? (i := 734) (by decide +kernel)) rfl
theorem kc_X4_faultReason : Cond.code yX4_faultReason cX4_faultReason 1 (some .int) ∈ mgood := mgood_in (List.mem_of_getElem? (i := 738) (by decide +kernel)) rfl
theorem kc_X4_faultCause : Cond.code yX4_faultCause cX4_faultCause 1 (some .int) ∈ mgood := mgood_in (List.mem_of_getElem? (i := 742) (by decide +kernel)) rfl
theorem kc_X4_setFault : Cond.code yX4_setFault cX4_setFault 4 none ∈ mgood := mgood_in (List.mem_of_getElem? (i := 476) (by decide +kernel)) rfl
theorem kc_X4_characterAt : Cond.code yX4_characterAt cX4_characterAt 2 (some .int) ∈ mgood := mgood_in (List.mem_of_getElem? (i := 484) (by decide +kernel)) rfl
theorem kc_X4_after : Cond.code yX4_after cX4_after 2 (some .int) ∈ mgood := mgood_in (List.mem_of_getElem? (i := 488) (by decide +kernel)) rfl
theorem kc_X4_takeState : Cond.code yX4_takeState cX4_takeState 7 none ∈ mgood := mgood_in (List.mem_of_getElem? (i := 494) (by decide +kernel)) rfl
theorem kc_X4_parse : Cond.code yX4_parse cX4_parse 6 none ∈ mgood := mgood_in (List.mem_of_getElem? (i := 471) (by decide +kernel)) rfl
theorem kc_X5_init : Cond.code yX5_init cX5_init 1 none ∈ mgood := mgood_in (List.mem_of_getElem? (i := 156) (by decide +kernel)) rfl
theorem kc_J7_fill_d0a16 : Cond.code yJ7_fill_d0a16 cJ7_fill_d0a16 5 none ∈ mgood := mgood_in (List.mem_of_getElem? (i := 575) (by decide +kernel)) rfl
theorem kc_X5_isPosition : Cond.code yX5_isPosition cX5_isPosition 1 (some .boolean) ∈ mgood := mgood_in (List.mem_of_getElem? (i := 585) (by decide +kernel)) rfl
theorem kc_X5_countWays : Cond.code yX5_countWays cX5_countWays 5 none ∈ mgood := mgood_in (List.mem_of_getElem? (i := 571) (by decide +kernel)) rfl
theorem kc_X5_setReady : Cond.code yX5_setReady cX5_setReady 2 none ∈ mgood := mgood_in (List.mem_of_getElem? (i := 589) (by decide +kernel)) rfl
theorem kc_X7_isEnd : Cond.code yX7_isEnd cX7_isEnd 2 (some .boolean) ∈ mgood := mgood_in (List.mem_of_getElem? (i := 551) (by decide +kernel)) rfl
theorem kc_X5_rowsTo : Cond.code yX5_rowsTo cX5_rowsTo 2 (some .long) ∈ mgood := mgood_in (List.mem_of_getElem? (i := 594) (by decide +kernel)) rfl
theorem kc_X5_capped : Cond.code yX5_capped cX5_capped 2 (some .long) ∈ mgood := mgood_in (List.mem_of_getElem? (i := 597) (by decide +kernel)) rfl
theorem kc_X5_goAlong : Cond.code yX5_goAlong cX5_goAlong 4 none ∈ mgood := mgood_in (List.mem_of_getElem? (i := 605) (by decide +kernel)) rfl
theorem kc_X5_rowsToEnds : Cond.code yX5_rowsToEnds cX5_rowsToEnds 7 (some .long) ∈ mgood := mgood_in (List.mem_of_getElem? (i := 567) (by decide +kernel)) rfl
theorem kc_X6_init : Cond.code yX6_init cX6_init 2 none ∈ mgood := mgood_in (List.mem_of_getElem? (i := 176) (by decide +kernel)) rfl
theorem kc_X7_init : Cond.code yX7_init cX7_init 2 none ∈ mgood := mgood_in (List.mem_of_getElem? (i := 122) (by decide +kernel)) rfl
theorem kc_X7_stuckPairs : Cond.code yX7_stuckPairs cX7_stuckPairs 3 (some .int) ∈ mgood := mgood_in (List.mem_of_getElem? (i := 538) (by decide +kernel)) rfl
theorem kc_X7_ends : Cond.code yX7_ends cX7_ends 3 (some .int) ∈ mgood := mgood_in (List.mem_of_getElem? (i := 547) (by decide +kernel)) rfl
theorem kc_X7_fewestWordsToEnd : Cond.code yX7_fewestWordsToEnd cX7_fewestWordsToEnd 2 (some .int) ∈ mgood := mgood_in (List.mem_of_getElem? (i := 611) (by decide +kernel)) rfl
theorem kc_X7_statesOfOne : Cond.code yX7_statesOfOne cX7_statesOfOne 3 (some .int) ∈ mgood := mgood_in (List.mem_of_getElem? (i := 619) (by decide +kernel)) rfl
theorem kc_X7_statesOfOther : Cond.code yX7_statesOfOther cX7_statesOfOther 3 (some .int) ∈ mgood := mgood_in (List.mem_of_getElem? (i := 627) (by decide +kernel)) rfl
theorem kc_X8_init : Cond.code yX8_init cX8_init 1 none ∈ mgood := mgood_in (List.mem_of_getElem? (i := 31) (by decide +kernel)) rfl
theorem kc_X8_isPlan : Cond.code yX8_isPlan cX8_isPlan 1 (some .boolean) ∈ mgood := mgood_in (List.mem_of_getElem? (i := 221) (by decide +kernel)) rfl
theorem kc_X8_isKind : Cond.code yX8_isKind cX8_isKind 1 (some .boolean) ∈ mgood := mgood_in (List.mem_of_getElem? (i := 225) (by decide +kernel)) rfl
theorem kc_X8_remember : Cond.code yX8_remember cX8_remember 1 none ∈ mgood := mgood_in (List.mem_of_getElem? (i := 230) (by decide +kernel)) rfl
theorem kc_X8_planAt : Cond.code yX8_planAt cX8_planAt 2 (some (.object "MirroredTalks$Plan")) ∈ mgood := mgood_in (List.mem_of_getElem? (i := 246) (by decide +kernel)) rfl
theorem kc_X8_kind : Cond.code yX8_kind cX8_kind 5 (some .int) ∈ mgood := mgood_in (List.mem_of_getElem? (i := 218) (by decide +kernel)) rfl
theorem kc_X8_arrow : Cond.code yX8_arrow cX8_arrow 5 (some .int) ∈ mgood := mgood_in (List.mem_of_getElem? (i := 255) (by decide +kernel)) rfl
theorem kc_X8_erase : Cond.code yX8_erase cX8_erase 5 (some .int) ∈ mgood := mgood_in (List.mem_of_getElem? (i := 275) (by decide +kernel)) rfl
theorem kc_X8_copy : Cond.code yX8_copy cX8_copy 3 (some .int) ∈ mgood := mgood_in (List.mem_of_getElem? (i := 281) (by decide +kernel)) rfl
theorem kc_X8_mirror : Cond.code yX8_mirror cX8_mirror 2 (some .int) ∈ mgood := mgood_in (List.mem_of_getElem? (i := 294) (by decide +kernel)) rfl
theorem kc_X8_stateOf : Cond.code yX8_stateOf cX8_stateOf 6 (some .int) ∈ mgood := mgood_in (List.mem_of_getElem? (i := 302) (by decide +kernel)) rfl
theorem kc_X8_unlike : Cond.code yX8_unlike cX8_unlike 5 (some .int) ∈ mgood := mgood_in (List.mem_of_getElem? (i := 642) (by decide +kernel)) rfl
theorem kc_X8_isPairQuestion : Cond.code yX8_isPairQuestion cX8_isPairQuestion 1 (some .boolean) ∈ mgood := mgood_in (List.mem_of_getElem? (i := 650) (by decide +kernel)) rfl
theorem kc_X8_pairOf : Cond.code yX8_pairOf cX8_pairOf 6 (some .int) ∈ mgood := mgood_in (List.mem_of_getElem? (i := 647) (by decide +kernel)) rfl
theorem kc_X8_talk : Cond.code yX8_talk cX8_talk 4 (some .int) ∈ mgood := mgood_in (List.mem_of_getElem? (i := 525) (by decide +kernel)) rfl
theorem kc_X8_talks : Cond.code yX8_talks cX8_talks 5 (some .long) ∈ mgood := mgood_in (List.mem_of_getElem? (i := 688) (by decide +kernel)) rfl
theorem kc_X8_standsIn : Cond.code yX8_standsIn cX8_standsIn 3 (some .int) ∈ mgood := mgood_in (List.mem_of_getElem? (i := 352) (by decide +kernel)) rfl
theorem kc_X8_against : Cond.code yX8_against cX8_against 5 (some .int) ∈ mgood := mgood_in (List.mem_of_getElem? (i := 698) (by decide +kernel)) rfl
theorem kc_X8_count : Cond.code yX8_count cX8_count 3 (some .int) ∈ mgood := mgood_in (List.mem_of_getElem? (i := 348) (by decide +kernel)) rfl
theorem kc_X8_undo : Cond.code yX8_undo cX8_undo 1 (some .int) ∈ mgood := mgood_in (List.mem_of_getElem? (i := 447) (by decide +kernel)) rfl
theorem kc_X8_type : Cond.code yX8_type cX8_type 2 (some .int) ∈ mgood := mgood_in (List.mem_of_getElem? (i := 717) (by decide +kernel)) rfl
theorem kc_X8_clearText : Cond.code yX8_clearText cX8_clearText 2 (some .int) ∈ mgood := mgood_in (List.mem_of_getElem? (i := 459) (by decide +kernel)) rfl
theorem kc_X8_fault : Cond.code yX8_fault cX8_fault 2 (some .int) ∈ mgood := mgood_in (List.mem_of_getElem? (i := 730) (by decide +kernel)) rfl
theorem kc_X8_read : Cond.code yX8_read cX8_read 2 (some .int) ∈ mgood := mgood_in (List.mem_of_getElem? (i := 467) (by decide +kernel)) rfl
theorem kc_J9_min_f86c9 : Cond.code yJ9_min_f86c9 cJ9_min_f86c9 4 (some .long) ∈ mgood := mgood_in (List.mem_of_getElem? (i := 601) (by decide +kernel)) rfl
theorem wg_219 : Cond.methodLink RX8 66 yX8_isPlan ∈ mgood := mgood_in (w := Cond.methodLink RX8 66 yX8_isPlan) (List.mem_of_getElem? (i := 219) (by decide +kernel)) rfl
theorem wg_220 : Cond.static yX8_isPlan ∈ mgood := mgood_in (w := Cond.static yX8_isPlan) (List.mem_of_getElem? (i := 220) (by decide +kernel)) rfl
theorem wg_14 : Cond.initialized RX8 ∈ mgood := mgood_in (w := Cond.initialized RX8) (List.mem_of_getElem? (i := 14) (by decide +kernel)) rfl
theorem cs_X8_66 : mcS RX8 66 yX8_isPlan (1) := ⟨wg_219, wg_220, wg_14, by decide +kernel⟩
theorem wg_222 : Cond.methodLink RX8 70 yX8_isState ∈ mgood := mgood_in (w := Cond.methodLink RX8 70 yX8_isState) (List.mem_of_getElem? (i := 222) (by decide +kernel)) rfl
theorem wg_50 : Cond.static yX8_isState ∈ mgood := mgood_in (w := Cond.static yX8_isState) (List.mem_of_getElem? (i := 50) (by decide +kernel)) rfl
theorem cs_X8_70 : mcS RX8 70 yX8_isState (1) := ⟨wg_222, wg_50, wg_14, by decide +kernel⟩
theorem wg_223 : Cond.methodLink RX8 73 yX8_isKind ∈ mgood := mgood_in (w := Cond.methodLink RX8 73 yX8_isKind) (List.mem_of_getElem? (i := 223) (by decide +kernel)) rfl
theorem wg_224 : Cond.static yX8_isKind ∈ mgood := mgood_in (w := Cond.static yX8_isKind) (List.mem_of_getElem? (i := 224) (by decide +kernel)) rfl
theorem cs_X8_73 : mcS RX8 73 yX8_isKind (1) := ⟨wg_223, wg_224, wg_14, by decide +kernel⟩
theorem wg_227 : Cond.methodLink RX8 77 yX8_remember ∈ mgood := mgood_in (w := Cond.methodLink RX8 77 yX8_remember) (List.mem_of_getElem? (i := 227) (by decide +kernel)) rfl
theorem wg_229 : Cond.instanceMethod yX8_remember ∈ mgood := mgood_in (w := Cond.instanceMethod yX8_remember) (List.mem_of_getElem? (i := 229) (by decide +kernel)) rfl
theorem wg_0 : Cond.selects RX8 yX8_remember yX8_remember ∈ mgood := mgood_in (w := Cond.selects RX8 yX8_remember yX8_remember) (List.mem_of_getElem? (i := 0) (by decide +kernel)) rfl
theorem cv_X8_77 : mcV RX8 77 yX8_remember 0 := ⟨wg_227, wg_229, wg_0, wg_14, by decide +kernel⟩
theorem wg_243 : Cond.methodLink RX8 80 yX8_planAt ∈ mgood := mgood_in (w := Cond.methodLink RX8 80 yX8_planAt) (List.mem_of_getElem? (i := 243) (by decide +kernel)) rfl
theorem wg_245 : Cond.instanceMethod yX8_planAt ∈ mgood := mgood_in (w := Cond.instanceMethod yX8_planAt) (List.mem_of_getElem? (i := 245) (by decide +kernel)) rfl
theorem wg_1 : Cond.selects RX8 yX8_planAt yX8_planAt ∈ mgood := mgood_in (w := Cond.selects RX8 yX8_planAt yX8_planAt) (List.mem_of_getElem? (i := 1) (by decide +kernel)) rfl
theorem cv_X8_80 : mcV RX8 80 yX8_planAt 1 := ⟨wg_243, wg_245, wg_1, wg_14, by decide +kernel⟩
theorem wg_247 : Cond.methodLink RX8 84 yX3_kindOf ∈ mgood := mgood_in (w := Cond.methodLink RX8 84 yX3_kindOf) (List.mem_of_getElem? (i := 247) (by decide +kernel)) rfl
theorem wg_248 : Cond.instanceMethod yX3_kindOf ∈ mgood := mgood_in (w := Cond.instanceMethod yX3_kindOf) (List.mem_of_getElem? (i := 248) (by decide +kernel)) rfl
theorem wg_249 : Cond.selects RX3 yX3_kindOf yX3_kindOf ∈ mgood := mgood_in (w := Cond.selects RX3 yX3_kindOf yX3_kindOf) (List.mem_of_getElem? (i := 249) (by decide +kernel)) rfl
theorem wg_15 : Cond.initialized RX3 ∈ mgood := mgood_in (w := Cond.initialized RX3) (List.mem_of_getElem? (i := 15) (by decide +kernel)) rfl
theorem cv_X8_84 : mcV RX8 84 yX3_kindOf 1 := ⟨wg_247, wg_248, wg_249, wg_15, by decide +kernel⟩
theorem wg_251 : Cond.methodLink RX8 88 yX3_setKind ∈ mgood := mgood_in (w := Cond.methodLink RX8 88 yX3_setKind) (List.mem_of_getElem? (i := 251) (by decide +kernel)) rfl
theorem wg_46 : Cond.instanceMethod yX3_setKind ∈ mgood := mgood_in (w := Cond.instanceMethod yX3_setKind) (List.mem_of_getElem? (i := 46) (by decide +kernel)) rfl
theorem wg_47 : Cond.selects RX3 yX3_setKind yX3_setKind ∈ mgood := mgood_in (w := Cond.selects RX3 yX3_setKind yX3_setKind) (List.mem_of_getElem? (i := 47) (by decide +kernel)) rfl
theorem cv_X8_88 : mcV RX8 88 yX3_setKind 2 := ⟨wg_251, wg_46, wg_47, wg_15, by decide +kernel⟩
theorem wg_256 : Cond.methodLink RX8 92 yX8_isWord ∈ mgood := mgood_in (w := Cond.methodLink RX8 92 yX8_isWord) (List.mem_of_getElem? (i := 256) (by decide +kernel)) rfl
theorem wg_57 : Cond.static yX8_isWord ∈ mgood := mgood_in (w := Cond.static yX8_isWord) (List.mem_of_getElem? (i := 57) (by decide +kernel)) rfl
theorem cs_X8_92 : mcS RX8 92 yX8_isWord (1) := ⟨wg_256, wg_57, wg_14, by decide +kernel⟩
theorem wg_257 : Cond.methodLink RX8 95 yX3_setTarget ∈ mgood := mgood_in (w := Cond.methodLink RX8 95 yX3_setTarget) (List.mem_of_getElem? (i := 257) (by decide +kernel)) rfl
theorem wg_53 : Cond.instanceMethod yX3_setTarget ∈ mgood := mgood_in (w := Cond.instanceMethod yX3_setTarget) (List.mem_of_getElem? (i := 53) (by decide +kernel)) rfl
theorem wg_54 : Cond.selects RX3 yX3_setTarget yX3_setTarget ∈ mgood := mgood_in (w := Cond.selects RX3 yX3_setTarget yX3_setTarget) (List.mem_of_getElem? (i := 54) (by decide +kernel)) rfl
theorem cv_X8_95 : mcV RX8 95 yX3_setTarget 3 := ⟨wg_257, wg_53, wg_54, wg_15, by decide +kernel⟩
theorem wg_258 : Cond.methodLink RX8 99 yX3_wordsOf ∈ mgood := mgood_in (w := Cond.methodLink RX8 99 yX3_wordsOf) (List.mem_of_getElem? (i := 258) (by decide +kernel)) rfl
theorem wg_259 : Cond.instanceMethod yX3_wordsOf ∈ mgood := mgood_in (w := Cond.instanceMethod yX3_wordsOf) (List.mem_of_getElem? (i := 259) (by decide +kernel)) rfl
theorem wg_260 : Cond.selects RX3 yX3_wordsOf yX3_wordsOf ∈ mgood := mgood_in (w := Cond.selects RX3 yX3_wordsOf yX3_wordsOf) (List.mem_of_getElem? (i := 260) (by decide +kernel)) rfl
theorem cv_X8_99 : mcV RX8 99 yX3_wordsOf 1 := ⟨wg_258, wg_259, wg_260, wg_15, by decide +kernel⟩
theorem wg_266 : Cond.methodLink RX8 102 yJ6_bitCount_0f7a4 ∈ mgood := mgood_in (w := Cond.methodLink RX8 102 yJ6_bitCount_0f7a4) (List.mem_of_getElem? (i := 266) (by decide +kernel)) rfl
theorem wg_267 : Cond.static yJ6_bitCount_0f7a4 ∈ mgood := mgood_in (w := Cond.static yJ6_bitCount_0f7a4) (List.mem_of_getElem? (i := 267) (by decide +kernel)) rfl
theorem wg_24 : Cond.initialized RJ6 ∈ mgood := mgood_in (w := Cond.initialized RJ6) (List.mem_of_getElem? (i := 24) (by decide +kernel)) rfl
theorem cs_X8_102 : mcS RX8 102 yJ6_bitCount_0f7a4 (1) := ⟨wg_266, wg_267, wg_24, by decide +kernel⟩
theorem wg_276 : Cond.methodLink RX8 107 yX3_targetOf ∈ mgood := mgood_in (w := Cond.methodLink RX8 107 yX3_targetOf) (List.mem_of_getElem? (i := 276) (by decide +kernel)) rfl
theorem wg_263 : Cond.instanceMethod yX3_targetOf ∈ mgood := mgood_in (w := Cond.instanceMethod yX3_targetOf) (List.mem_of_getElem? (i := 263) (by decide +kernel)) rfl
theorem wg_264 : Cond.selects RX3 yX3_targetOf yX3_targetOf ∈ mgood := mgood_in (w := Cond.selects RX3 yX3_targetOf yX3_targetOf) (List.mem_of_getElem? (i := 264) (by decide +kernel)) rfl
theorem cv_X8_107 : mcV RX8 107 yX3_targetOf 2 := ⟨wg_276, wg_263, wg_264, wg_15, by decide +kernel⟩
theorem wg_282 : Cond.methodLink RX8 112 yX3_take ∈ mgood := mgood_in (w := Cond.methodLink RX8 112 yX3_take) (List.mem_of_getElem? (i := 282) (by decide +kernel)) rfl
theorem wg_283 : Cond.instanceMethod yX3_take ∈ mgood := mgood_in (w := Cond.instanceMethod yX3_take) (List.mem_of_getElem? (i := 283) (by decide +kernel)) rfl
theorem wg_284 : Cond.selects RX3 yX3_take yX3_take ∈ mgood := mgood_in (w := Cond.selects RX3 yX3_take yX3_take) (List.mem_of_getElem? (i := 284) (by decide +kernel)) rfl
theorem cv_X8_112 : mcV RX8 112 yX3_take 1 := ⟨wg_282, wg_283, wg_284, wg_15, by decide +kernel⟩
theorem wg_286 : Cond.methodLink RX8 115 yX3_lastingStates ∈ mgood := mgood_in (w := Cond.methodLink RX8 115 yX3_lastingStates) (List.mem_of_getElem? (i := 286) (by decide +kernel)) rfl
theorem wg_287 : Cond.instanceMethod yX3_lastingStates ∈ mgood := mgood_in (w := Cond.instanceMethod yX3_lastingStates) (List.mem_of_getElem? (i := 287) (by decide +kernel)) rfl
theorem wg_288 : Cond.selects RX3 yX3_lastingStates yX3_lastingStates ∈ mgood := mgood_in (w := Cond.selects RX3 yX3_lastingStates yX3_lastingStates) (List.mem_of_getElem? (i := 288) (by decide +kernel)) rfl
theorem cv_X8_115 : mcV RX8 115 yX3_lastingStates 0 := ⟨wg_286, wg_287, wg_288, wg_15, by decide +kernel⟩
theorem wg_295 : Cond.methodLink RX8 119 yX3_swapSides ∈ mgood := mgood_in (w := Cond.methodLink RX8 119 yX3_swapSides) (List.mem_of_getElem? (i := 295) (by decide +kernel)) rfl
theorem wg_296 : Cond.instanceMethod yX3_swapSides ∈ mgood := mgood_in (w := Cond.instanceMethod yX3_swapSides) (List.mem_of_getElem? (i := 296) (by decide +kernel)) rfl
theorem wg_297 : Cond.selects RX3 yX3_swapSides yX3_swapSides ∈ mgood := mgood_in (w := Cond.selects RX3 yX3_swapSides yX3_swapSides) (List.mem_of_getElem? (i := 297) (by decide +kernel)) rfl
theorem cv_X8_119 : mcV RX8 119 yX3_swapSides 0 := ⟨wg_295, wg_296, wg_297, wg_15, by decide +kernel⟩
theorem wg_303 : Cond.methodLink RX8 122 yX1_compare ∈ mgood := mgood_in (w := Cond.methodLink RX8 122 yX1_compare) (List.mem_of_getElem? (i := 303) (by decide +kernel)) rfl
theorem wg_304 : Cond.instanceMethod yX1_compare ∈ mgood := mgood_in (w := Cond.instanceMethod yX1_compare) (List.mem_of_getElem? (i := 304) (by decide +kernel)) rfl
theorem wg_305 : Cond.selects RX1 yX1_compare yX1_compare ∈ mgood := mgood_in (w := Cond.selects RX1 yX1_compare yX1_compare) (List.mem_of_getElem? (i := 305) (by decide +kernel)) rfl
theorem wg_18 : Cond.initialized RX1 ∈ mgood := mgood_in (w := Cond.initialized RX1) (List.mem_of_getElem? (i := 18) (by decide +kernel)) rfl
theorem cv_X8_122 : mcV RX8 122 yX1_compare 1 := ⟨wg_303, wg_304, wg_305, wg_18, by decide +kernel⟩
theorem wg_326 : Cond.methodLink RX8 125 yX1_lowestAlike ∈ mgood := mgood_in (w := Cond.methodLink RX8 125 yX1_lowestAlike) (List.mem_of_getElem? (i := 326) (by decide +kernel)) rfl
theorem wg_327 : Cond.instanceMethod yX1_lowestAlike ∈ mgood := mgood_in (w := Cond.instanceMethod yX1_lowestAlike) (List.mem_of_getElem? (i := 327) (by decide +kernel)) rfl
theorem wg_328 : Cond.selects RX1 yX1_lowestAlike yX1_lowestAlike ∈ mgood := mgood_in (w := Cond.selects RX1 yX1_lowestAlike yX1_lowestAlike) (List.mem_of_getElem? (i := 328) (by decide +kernel)) rfl
theorem cv_X8_125 : mcV RX8 125 yX1_lowestAlike 1 := ⟨wg_326, wg_327, wg_328, wg_18, by decide +kernel⟩
theorem wg_330 : Cond.methodLink RX8 128 yX3_comesTo ∈ mgood := mgood_in (w := Cond.methodLink RX8 128 yX3_comesTo) (List.mem_of_getElem? (i := 330) (by decide +kernel)) rfl
theorem wg_331 : Cond.instanceMethod yX3_comesTo ∈ mgood := mgood_in (w := Cond.instanceMethod yX3_comesTo) (List.mem_of_getElem? (i := 331) (by decide +kernel)) rfl
theorem wg_332 : Cond.selects RX3 yX3_comesTo yX3_comesTo ∈ mgood := mgood_in (w := Cond.selects RX3 yX3_comesTo yX3_comesTo) (List.mem_of_getElem? (i := 332) (by decide +kernel)) rfl
theorem cv_X8_128 : mcV RX8 128 yX3_comesTo 1 := ⟨wg_330, wg_331, wg_332, wg_15, by decide +kernel⟩
theorem wg_341 : Cond.methodLink RX8 131 yX8_foundOr ∈ mgood := mgood_in (w := Cond.methodLink RX8 131 yX8_foundOr) (List.mem_of_getElem? (i := 341) (by decide +kernel)) rfl
theorem wg_342 : Cond.static yX8_foundOr ∈ mgood := mgood_in (w := Cond.static yX8_foundOr) (List.mem_of_getElem? (i := 342) (by decide +kernel)) rfl
theorem cs_X8_131 : mcS RX8 131 yX8_foundOr (1) := ⟨wg_341, wg_342, wg_14, by decide +kernel⟩
theorem wg_643 : Cond.methodLink RX8 134 yX8_holds ∈ mgood := mgood_in (w := Cond.methodLink RX8 134 yX8_holds) (List.mem_of_getElem? (i := 643) (by decide +kernel)) rfl
theorem wg_335 : Cond.static yX8_holds ∈ mgood := mgood_in (w := Cond.static yX8_holds) (List.mem_of_getElem? (i := 335) (by decide +kernel)) rfl
theorem cs_X8_134 : mcS RX8 134 yX8_holds (2) := ⟨wg_643, wg_335, wg_14, by decide +kernel⟩
theorem wg_648 : Cond.methodLink RX8 138 yX8_isPairQuestion ∈ mgood := mgood_in (w := Cond.methodLink RX8 138 yX8_isPairQuestion) (List.mem_of_getElem? (i := 648) (by decide +kernel)) rfl
theorem wg_649 : Cond.static yX8_isPairQuestion ∈ mgood := mgood_in (w := Cond.static yX8_isPairQuestion) (List.mem_of_getElem? (i := 649) (by decide +kernel)) rfl
theorem cs_X8_138 : mcS RX8 138 yX8_isPairQuestion (1) := ⟨wg_648, wg_649, wg_14, by decide +kernel⟩
theorem wg_526 : Cond.methodLink RX8 141 ⟨"MirroredTalks$TalkPairs", "walk", "(LMirroredTalks$Plan;LMirroredTalks$Plan;)V"⟩ ∈ mgood := mgood_in (w := Cond.methodLink RX8 141 ⟨"MirroredTalks$TalkPairs", "walk", "(LMirroredTalks$Plan;LMirroredTalks$Plan;)V"⟩) (List.mem_of_getElem? (i := 526) (by decide +kernel)) rfl
theorem wg_527 : Cond.sameMethod "MirroredTalks$TalkPairs" "MirroredTalks$Pairs" "walk" "(LMirroredTalks$Plan;LMirroredTalks$Plan;)V" ∈ mgood := mgood_in (w := Cond.sameMethod "MirroredTalks$TalkPairs" "MirroredTalks$Pairs" "walk" "(LMirroredTalks$Plan;LMirroredTalks$Plan;)V") (List.mem_of_getElem? (i := 527) (by decide +kernel)) rfl
theorem wg_528 : Cond.selects RX7 ⟨"MirroredTalks$TalkPairs", "walk", "(LMirroredTalks$Plan;LMirroredTalks$Plan;)V"⟩ yX2_walk ∈ mgood := mgood_in (w := Cond.selects RX7 ⟨"MirroredTalks$TalkPairs", "walk", "(LMirroredTalks$Plan;LMirroredTalks$Plan;)V"⟩ yX2_walk) (List.mem_of_getElem? (i := 528) (by decide +kernel)) rfl
theorem wg_357 : Cond.instanceMethod yX2_walk ∈ mgood := mgood_in (w := Cond.instanceMethod yX2_walk) (List.mem_of_getElem? (i := 357) (by decide +kernel)) rfl
theorem wg_19 : Cond.initialized RX2 ∈ mgood := mgood_in (w := Cond.initialized RX2) (List.mem_of_getElem? (i := 19) (by decide +kernel)) rfl
theorem cu_X8_141_X7 : mcU RX8 141 RX7 "MirroredTalks$Pairs" ⟨"MirroredTalks$TalkPairs", "walk", "(LMirroredTalks$Plan;LMirroredTalks$Plan;)V"⟩ yX2_walk 2 := ⟨List.forall_mem_cons.mpr ⟨wg_526, List.forall_mem_cons.mpr ⟨wg_527, List.forall_mem_cons.mpr ⟨wg_528, List.forall_mem_cons.mpr ⟨wg_357, List.forall_mem_cons.mpr ⟨wg_19, fun _ h => absurd h List.not_mem_nil⟩⟩⟩⟩⟩, Or.inl rfl, by decide +kernel⟩
theorem wg_651 : Cond.methodLink RX8 145 ⟨"MirroredTalks$TalkPairs", "firstFaulty", "()I"⟩ ∈ mgood := mgood_in (w := Cond.methodLink RX8 145 ⟨"MirroredTalks$TalkPairs", "firstFaulty", "()I"⟩) (List.mem_of_getElem? (i := 651) (by decide +kernel)) rfl
theorem wg_652 : Cond.sameMethod "MirroredTalks$TalkPairs" "MirroredTalks$Pairs" "firstFaulty" "()I" ∈ mgood := mgood_in (w := Cond.sameMethod "MirroredTalks$TalkPairs" "MirroredTalks$Pairs" "firstFaulty" "()I") (List.mem_of_getElem? (i := 652) (by decide +kernel)) rfl
theorem wg_653 : Cond.selects RX7 ⟨"MirroredTalks$TalkPairs", "firstFaulty", "()I"⟩ yX2_firstFaulty ∈ mgood := mgood_in (w := Cond.selects RX7 ⟨"MirroredTalks$TalkPairs", "firstFaulty", "()I"⟩ yX2_firstFaulty) (List.mem_of_getElem? (i := 653) (by decide +kernel)) rfl
theorem wg_406 : Cond.instanceMethod yX2_firstFaulty ∈ mgood := mgood_in (w := Cond.instanceMethod yX2_firstFaulty) (List.mem_of_getElem? (i := 406) (by decide +kernel)) rfl
theorem cu_X8_145_X7 : mcU RX8 145 RX7 "MirroredTalks$Pairs" ⟨"MirroredTalks$TalkPairs", "firstFaulty", "()I"⟩ yX2_firstFaulty 0 := ⟨List.forall_mem_cons.mpr ⟨wg_651, List.forall_mem_cons.mpr ⟨wg_652, List.forall_mem_cons.mpr ⟨wg_653, List.forall_mem_cons.mpr ⟨wg_406, List.forall_mem_cons.mpr ⟨wg_19, fun _ h => absurd h List.not_mem_nil⟩⟩⟩⟩⟩, Or.inl rfl, by decide +kernel⟩
theorem wg_654 : Cond.methodLink RX8 148 ⟨"MirroredTalks$TalkPairs", "has", "(I)Z"⟩ ∈ mgood := mgood_in (w := Cond.methodLink RX8 148 ⟨"MirroredTalks$TalkPairs", "has", "(I)Z"⟩) (List.mem_of_getElem? (i := 654) (by decide +kernel)) rfl
theorem wg_655 : Cond.sameMethod "MirroredTalks$TalkPairs" "MirroredTalks$Pairs" "has" "(I)Z" ∈ mgood := mgood_in (w := Cond.sameMethod "MirroredTalks$TalkPairs" "MirroredTalks$Pairs" "has" "(I)Z") (List.mem_of_getElem? (i := 655) (by decide +kernel)) rfl
theorem wg_657 : Cond.selects RX7 ⟨"MirroredTalks$TalkPairs", "has", "(I)Z"⟩ yX2_has ∈ mgood := mgood_in (w := Cond.selects RX7 ⟨"MirroredTalks$TalkPairs", "has", "(I)Z"⟩ yX2_has) (List.mem_of_getElem? (i := 657) (by decide +kernel)) rfl
theorem wg_658 : Cond.instanceMethod yX2_has ∈ mgood := mgood_in (w := Cond.instanceMethod yX2_has) (List.mem_of_getElem? (i := 658) (by decide +kernel)) rfl
theorem cu_X8_148_X7 : mcU RX8 148 RX7 "MirroredTalks$Pairs" ⟨"MirroredTalks$TalkPairs", "has", "(I)Z"⟩ yX2_has 1 := ⟨List.forall_mem_cons.mpr ⟨wg_654, List.forall_mem_cons.mpr ⟨wg_655, List.forall_mem_cons.mpr ⟨wg_657, List.forall_mem_cons.mpr ⟨wg_658, List.forall_mem_cons.mpr ⟨wg_19, fun _ h => absurd h List.not_mem_nil⟩⟩⟩⟩⟩, Or.inl rfl, by decide +kernel⟩
theorem wg_660 : Cond.methodLink RX8 152 ⟨"MirroredTalks$TalkPairs", "stateOfOne", "(I)I"⟩ ∈ mgood := mgood_in (w := Cond.methodLink RX8 152 ⟨"MirroredTalks$TalkPairs", "stateOfOne", "(I)I"⟩) (List.mem_of_getElem? (i := 660) (by decide +kernel)) rfl
theorem wg_621 : Cond.sameMethod "MirroredTalks$TalkPairs" "MirroredTalks$Pairs" "stateOfOne" "(I)I" ∈ mgood := mgood_in (w := Cond.sameMethod "MirroredTalks$TalkPairs" "MirroredTalks$Pairs" "stateOfOne" "(I)I") (List.mem_of_getElem? (i := 621) (by decide +kernel)) rfl
theorem wg_623 : Cond.selects RX7 ⟨"MirroredTalks$TalkPairs", "stateOfOne", "(I)I"⟩ yX2_stateOfOne ∈ mgood := mgood_in (w := Cond.selects RX7 ⟨"MirroredTalks$TalkPairs", "stateOfOne", "(I)I"⟩ yX2_stateOfOne) (List.mem_of_getElem? (i := 623) (by decide +kernel)) rfl
theorem wg_371 : Cond.instanceMethod yX2_stateOfOne ∈ mgood := mgood_in (w := Cond.instanceMethod yX2_stateOfOne) (List.mem_of_getElem? (i := 371) (by decide +kernel)) rfl
theorem cu_X8_152_X7 : mcU RX8 152 RX7 "MirroredTalks$Pairs" ⟨"MirroredTalks$TalkPairs", "stateOfOne", "(I)I"⟩ yX2_stateOfOne 1 := ⟨List.forall_mem_cons.mpr ⟨wg_660, List.forall_mem_cons.mpr ⟨wg_621, List.forall_mem_cons.mpr ⟨wg_623, List.forall_mem_cons.mpr ⟨wg_371, List.forall_mem_cons.mpr ⟨wg_19, fun _ h => absurd h List.not_mem_nil⟩⟩⟩⟩⟩, Or.inl rfl, by decide +kernel⟩
theorem wg_661 : Cond.methodLink RX8 155 ⟨"MirroredTalks$TalkPairs", "stateOfOther", "(I)I"⟩ ∈ mgood := mgood_in (w := Cond.methodLink RX8 155 ⟨"MirroredTalks$TalkPairs", "stateOfOther", "(I)I"⟩) (List.mem_of_getElem? (i := 661) (by decide +kernel)) rfl
theorem wg_629 : Cond.sameMethod "MirroredTalks$TalkPairs" "MirroredTalks$Pairs" "stateOfOther" "(I)I" ∈ mgood := mgood_in (w := Cond.sameMethod "MirroredTalks$TalkPairs" "MirroredTalks$Pairs" "stateOfOther" "(I)I") (List.mem_of_getElem? (i := 629) (by decide +kernel)) rfl
theorem wg_631 : Cond.selects RX7 ⟨"MirroredTalks$TalkPairs", "stateOfOther", "(I)I"⟩ yX2_stateOfOther ∈ mgood := mgood_in (w := Cond.selects RX7 ⟨"MirroredTalks$TalkPairs", "stateOfOther", "(I)I"⟩ yX2_stateOfOther) (List.mem_of_getElem? (i := 631) (by decide +kernel)) rfl
theorem wg_380 : Cond.instanceMethod yX2_stateOfOther ∈ mgood := mgood_in (w := Cond.instanceMethod yX2_stateOfOther) (List.mem_of_getElem? (i := 380) (by decide +kernel)) rfl
theorem cu_X8_155_X7 : mcU RX8 155 RX7 "MirroredTalks$Pairs" ⟨"MirroredTalks$TalkPairs", "stateOfOther", "(I)I"⟩ yX2_stateOfOther 1 := ⟨List.forall_mem_cons.mpr ⟨wg_661, List.forall_mem_cons.mpr ⟨wg_629, List.forall_mem_cons.mpr ⟨wg_631, List.forall_mem_cons.mpr ⟨wg_380, List.forall_mem_cons.mpr ⟨wg_19, fun _ h => absurd h List.not_mem_nil⟩⟩⟩⟩⟩, Or.inl rfl, by decide +kernel⟩
theorem wg_662 : Cond.methodLink RX8 158 ⟨"MirroredTalks$TalkPairs", "lengthOf", "(I)I"⟩ ∈ mgood := mgood_in (w := Cond.methodLink RX8 158 ⟨"MirroredTalks$TalkPairs", "lengthOf", "(I)I"⟩) (List.mem_of_getElem? (i := 662) (by decide +kernel)) rfl
theorem wg_613 : Cond.sameMethod "MirroredTalks$TalkPairs" "MirroredTalks$Pairs" "lengthOf" "(I)I" ∈ mgood := mgood_in (w := Cond.sameMethod "MirroredTalks$TalkPairs" "MirroredTalks$Pairs" "lengthOf" "(I)I") (List.mem_of_getElem? (i := 613) (by decide +kernel)) rfl
theorem wg_615 : Cond.selects RX7 ⟨"MirroredTalks$TalkPairs", "lengthOf", "(I)I"⟩ yX2_lengthOf ∈ mgood := mgood_in (w := Cond.selects RX7 ⟨"MirroredTalks$TalkPairs", "lengthOf", "(I)I"⟩ yX2_lengthOf) (List.mem_of_getElem? (i := 615) (by decide +kernel)) rfl
theorem wg_397 : Cond.instanceMethod yX2_lengthOf ∈ mgood := mgood_in (w := Cond.instanceMethod yX2_lengthOf) (List.mem_of_getElem? (i := 397) (by decide +kernel)) rfl
theorem cu_X8_158_X7 : mcU RX8 158 RX7 "MirroredTalks$Pairs" ⟨"MirroredTalks$TalkPairs", "lengthOf", "(I)I"⟩ yX2_lengthOf 1 := ⟨List.forall_mem_cons.mpr ⟨wg_662, List.forall_mem_cons.mpr ⟨wg_613, List.forall_mem_cons.mpr ⟨wg_615, List.forall_mem_cons.mpr ⟨wg_397, List.forall_mem_cons.mpr ⟨wg_19, fun _ h => absurd h List.not_mem_nil⟩⟩⟩⟩⟩, Or.inl rfl, by decide +kernel⟩
theorem wg_663 : Cond.methodLink RX8 161 ⟨"MirroredTalks$TalkPairs", "tellMore", "(II)I"⟩ ∈ mgood := mgood_in (w := Cond.methodLink RX8 161 ⟨"MirroredTalks$TalkPairs", "tellMore", "(II)I"⟩) (List.mem_of_getElem? (i := 663) (by decide +kernel)) rfl
theorem wg_664 : Cond.sameMethod "MirroredTalks$TalkPairs" "MirroredTalks$Pairs" "tellMore" "(II)I" ∈ mgood := mgood_in (w := Cond.sameMethod "MirroredTalks$TalkPairs" "MirroredTalks$Pairs" "tellMore" "(II)I") (List.mem_of_getElem? (i := 664) (by decide +kernel)) rfl
theorem wg_666 : Cond.selects RX7 ⟨"MirroredTalks$TalkPairs", "tellMore", "(II)I"⟩ yX2_tellMore ∈ mgood := mgood_in (w := Cond.selects RX7 ⟨"MirroredTalks$TalkPairs", "tellMore", "(II)I"⟩ yX2_tellMore) (List.mem_of_getElem? (i := 666) (by decide +kernel)) rfl
theorem wg_667 : Cond.instanceMethod yX2_tellMore ∈ mgood := mgood_in (w := Cond.instanceMethod yX2_tellMore) (List.mem_of_getElem? (i := 667) (by decide +kernel)) rfl
theorem cu_X8_161_X7 : mcU RX8 161 RX7 "MirroredTalks$Pairs" ⟨"MirroredTalks$TalkPairs", "tellMore", "(II)I"⟩ yX2_tellMore 2 := ⟨List.forall_mem_cons.mpr ⟨wg_663, List.forall_mem_cons.mpr ⟨wg_664, List.forall_mem_cons.mpr ⟨wg_666, List.forall_mem_cons.mpr ⟨wg_667, List.forall_mem_cons.mpr ⟨wg_19, fun _ h => absurd h List.not_mem_nil⟩⟩⟩⟩⟩, Or.inl rfl, by decide +kernel⟩
theorem wg_529 : Cond.methodLink RX8 164 ⟨"MirroredTalks$TalkPairs", "size", "()I"⟩ ∈ mgood := mgood_in (w := Cond.methodLink RX8 164 ⟨"MirroredTalks$TalkPairs", "size", "()I"⟩) (List.mem_of_getElem? (i := 529) (by decide +kernel)) rfl
theorem wg_530 : Cond.sameMethod "MirroredTalks$TalkPairs" "MirroredTalks$Pairs" "size" "()I" ∈ mgood := mgood_in (w := Cond.sameMethod "MirroredTalks$TalkPairs" "MirroredTalks$Pairs" "size" "()I") (List.mem_of_getElem? (i := 530) (by decide +kernel)) rfl
theorem wg_532 : Cond.selects RX7 ⟨"MirroredTalks$TalkPairs", "size", "()I"⟩ yX2_size ∈ mgood := mgood_in (w := Cond.selects RX7 ⟨"MirroredTalks$TalkPairs", "size", "()I"⟩ yX2_size) (List.mem_of_getElem? (i := 532) (by decide +kernel)) rfl
theorem wg_533 : Cond.instanceMethod yX2_size ∈ mgood := mgood_in (w := Cond.instanceMethod yX2_size) (List.mem_of_getElem? (i := 533) (by decide +kernel)) rfl
theorem cu_X8_164_X7 : mcU RX8 164 RX7 "MirroredTalks$Pairs" ⟨"MirroredTalks$TalkPairs", "size", "()I"⟩ yX2_size 0 := ⟨List.forall_mem_cons.mpr ⟨wg_529, List.forall_mem_cons.mpr ⟨wg_530, List.forall_mem_cons.mpr ⟨wg_532, List.forall_mem_cons.mpr ⟨wg_533, List.forall_mem_cons.mpr ⟨wg_19, fun _ h => absurd h List.not_mem_nil⟩⟩⟩⟩⟩, Or.inl rfl, by decide +kernel⟩
theorem wg_535 : Cond.methodLink RX8 167 yX7_stuckPairs ∈ mgood := mgood_in (w := Cond.methodLink RX8 167 yX7_stuckPairs) (List.mem_of_getElem? (i := 535) (by decide +kernel)) rfl
theorem wg_536 : Cond.instanceMethod yX7_stuckPairs ∈ mgood := mgood_in (w := Cond.instanceMethod yX7_stuckPairs) (List.mem_of_getElem? (i := 536) (by decide +kernel)) rfl
theorem wg_537 : Cond.selects RX7 yX7_stuckPairs yX7_stuckPairs ∈ mgood := mgood_in (w := Cond.selects RX7 yX7_stuckPairs yX7_stuckPairs) (List.mem_of_getElem? (i := 537) (by decide +kernel)) rfl
theorem wg_20 : Cond.initialized RX7 ∈ mgood := mgood_in (w := Cond.initialized RX7) (List.mem_of_getElem? (i := 20) (by decide +kernel)) rfl
theorem cv_X8_167 : mcV RX8 167 yX7_stuckPairs 0 := ⟨wg_535, wg_536, wg_537, wg_20, by decide +kernel⟩
theorem wg_544 : Cond.methodLink RX8 170 yX7_ends ∈ mgood := mgood_in (w := Cond.methodLink RX8 170 yX7_ends) (List.mem_of_getElem? (i := 544) (by decide +kernel)) rfl
theorem wg_545 : Cond.instanceMethod yX7_ends ∈ mgood := mgood_in (w := Cond.instanceMethod yX7_ends) (List.mem_of_getElem? (i := 545) (by decide +kernel)) rfl
theorem wg_546 : Cond.selects RX7 yX7_ends yX7_ends ∈ mgood := mgood_in (w := Cond.selects RX7 yX7_ends yX7_ends) (List.mem_of_getElem? (i := 546) (by decide +kernel)) rfl
theorem cv_X8_170 : mcV RX8 170 yX7_ends 0 := ⟨wg_544, wg_545, wg_546, wg_20, by decide +kernel⟩
theorem wg_564 : Cond.methodLink RX8 173 yX5_rowsToEnds ∈ mgood := mgood_in (w := Cond.methodLink RX8 173 yX5_rowsToEnds) (List.mem_of_getElem? (i := 564) (by decide +kernel)) rfl
theorem wg_565 : Cond.instanceMethod yX5_rowsToEnds ∈ mgood := mgood_in (w := Cond.instanceMethod yX5_rowsToEnds) (List.mem_of_getElem? (i := 565) (by decide +kernel)) rfl
theorem wg_566 : Cond.selects RX5 yX5_rowsToEnds yX5_rowsToEnds ∈ mgood := mgood_in (w := Cond.selects RX5 yX5_rowsToEnds yX5_rowsToEnds) (List.mem_of_getElem? (i := 566) (by decide +kernel)) rfl
theorem wg_21 : Cond.initialized RX5 ∈ mgood := mgood_in (w := Cond.initialized RX5) (List.mem_of_getElem? (i := 21) (by decide +kernel)) rfl
theorem cv_X8_173 : mcV RX8 173 yX5_rowsToEnds 1 := ⟨wg_564, wg_565, wg_566, wg_21, by decide +kernel⟩
theorem wg_608 : Cond.methodLink RX8 179 yX7_fewestWordsToEnd ∈ mgood := mgood_in (w := Cond.methodLink RX8 179 yX7_fewestWordsToEnd) (List.mem_of_getElem? (i := 608) (by decide +kernel)) rfl
theorem wg_609 : Cond.instanceMethod yX7_fewestWordsToEnd ∈ mgood := mgood_in (w := Cond.instanceMethod yX7_fewestWordsToEnd) (List.mem_of_getElem? (i := 609) (by decide +kernel)) rfl
theorem wg_610 : Cond.selects RX7 yX7_fewestWordsToEnd yX7_fewestWordsToEnd ∈ mgood := mgood_in (w := Cond.selects RX7 yX7_fewestWordsToEnd yX7_fewestWordsToEnd) (List.mem_of_getElem? (i := 610) (by decide +kernel)) rfl
theorem cv_X8_179 : mcV RX8 179 yX7_fewestWordsToEnd 0 := ⟨wg_608, wg_609, wg_610, wg_20, by decide +kernel⟩
theorem wg_616 : Cond.methodLink RX8 182 yX7_statesOfOne ∈ mgood := mgood_in (w := Cond.methodLink RX8 182 yX7_statesOfOne) (List.mem_of_getElem? (i := 616) (by decide +kernel)) rfl
theorem wg_617 : Cond.instanceMethod yX7_statesOfOne ∈ mgood := mgood_in (w := Cond.instanceMethod yX7_statesOfOne) (List.mem_of_getElem? (i := 617) (by decide +kernel)) rfl
theorem wg_618 : Cond.selects RX7 yX7_statesOfOne yX7_statesOfOne ∈ mgood := mgood_in (w := Cond.selects RX7 yX7_statesOfOne yX7_statesOfOne) (List.mem_of_getElem? (i := 618) (by decide +kernel)) rfl
theorem cv_X8_182 : mcV RX8 182 yX7_statesOfOne 0 := ⟨wg_616, wg_617, wg_618, wg_20, by decide +kernel⟩
theorem wg_624 : Cond.methodLink RX8 185 yX7_statesOfOther ∈ mgood := mgood_in (w := Cond.methodLink RX8 185 yX7_statesOfOther) (List.mem_of_getElem? (i := 624) (by decide +kernel)) rfl
theorem wg_625 : Cond.instanceMethod yX7_statesOfOther ∈ mgood := mgood_in (w := Cond.instanceMethod yX7_statesOfOther) (List.mem_of_getElem? (i := 625) (by decide +kernel)) rfl
theorem wg_626 : Cond.selects RX7 yX7_statesOfOther yX7_statesOfOther ∈ mgood := mgood_in (w := Cond.selects RX7 yX7_statesOfOther yX7_statesOfOther) (List.mem_of_getElem? (i := 626) (by decide +kernel)) rfl
theorem cv_X8_185 : mcV RX8 185 yX7_statesOfOther 0 := ⟨wg_624, wg_625, wg_626, wg_20, by decide +kernel⟩
theorem wg_353 : Cond.methodLink RX8 196 ⟨"MirroredTalks$StandInPairs", "walk", "(LMirroredTalks$Plan;LMirroredTalks$Plan;)V"⟩ ∈ mgood := mgood_in (w := Cond.methodLink RX8 196 ⟨"MirroredTalks$StandInPairs", "walk", "(LMirroredTalks$Plan;LMirroredTalks$Plan;)V"⟩) (List.mem_of_getElem? (i := 353) (by decide +kernel)) rfl
theorem wg_354 : Cond.sameMethod "MirroredTalks$StandInPairs" "MirroredTalks$Pairs" "walk" "(LMirroredTalks$Plan;LMirroredTalks$Plan;)V" ∈ mgood := mgood_in (w := Cond.sameMethod "MirroredTalks$StandInPairs" "MirroredTalks$Pairs" "walk" "(LMirroredTalks$Plan;LMirroredTalks$Plan;)V") (List.mem_of_getElem? (i := 354) (by decide +kernel)) rfl
theorem wg_356 : Cond.selects RX6 ⟨"MirroredTalks$StandInPairs", "walk", "(LMirroredTalks$Plan;LMirroredTalks$Plan;)V"⟩ yX2_walk ∈ mgood := mgood_in (w := Cond.selects RX6 ⟨"MirroredTalks$StandInPairs", "walk", "(LMirroredTalks$Plan;LMirroredTalks$Plan;)V"⟩ yX2_walk) (List.mem_of_getElem? (i := 356) (by decide +kernel)) rfl
theorem cu_X8_196_X6 : mcU RX8 196 RX6 "MirroredTalks$Pairs" ⟨"MirroredTalks$StandInPairs", "walk", "(LMirroredTalks$Plan;LMirroredTalks$Plan;)V"⟩ yX2_walk 2 := ⟨List.forall_mem_cons.mpr ⟨wg_353, List.forall_mem_cons.mpr ⟨wg_354, List.forall_mem_cons.mpr ⟨wg_356, List.forall_mem_cons.mpr ⟨wg_357, List.forall_mem_cons.mpr ⟨wg_19, fun _ h => absurd h List.not_mem_nil⟩⟩⟩⟩⟩, Or.inl rfl, by decide +kernel⟩
theorem wg_402 : Cond.methodLink RX8 197 ⟨"MirroredTalks$StandInPairs", "firstFaulty", "()I"⟩ ∈ mgood := mgood_in (w := Cond.methodLink RX8 197 ⟨"MirroredTalks$StandInPairs", "firstFaulty", "()I"⟩) (List.mem_of_getElem? (i := 402) (by decide +kernel)) rfl
theorem wg_403 : Cond.sameMethod "MirroredTalks$StandInPairs" "MirroredTalks$Pairs" "firstFaulty" "()I" ∈ mgood := mgood_in (w := Cond.sameMethod "MirroredTalks$StandInPairs" "MirroredTalks$Pairs" "firstFaulty" "()I") (List.mem_of_getElem? (i := 403) (by decide +kernel)) rfl
theorem wg_405 : Cond.selects RX6 ⟨"MirroredTalks$StandInPairs", "firstFaulty", "()I"⟩ yX2_firstFaulty ∈ mgood := mgood_in (w := Cond.selects RX6 ⟨"MirroredTalks$StandInPairs", "firstFaulty", "()I"⟩ yX2_firstFaulty) (List.mem_of_getElem? (i := 405) (by decide +kernel)) rfl
theorem cu_X8_197_X6 : mcU RX8 197 RX6 "MirroredTalks$Pairs" ⟨"MirroredTalks$StandInPairs", "firstFaulty", "()I"⟩ yX2_firstFaulty 0 := ⟨List.forall_mem_cons.mpr ⟨wg_402, List.forall_mem_cons.mpr ⟨wg_403, List.forall_mem_cons.mpr ⟨wg_405, List.forall_mem_cons.mpr ⟨wg_406, List.forall_mem_cons.mpr ⟨wg_19, fun _ h => absurd h List.not_mem_nil⟩⟩⟩⟩⟩, Or.inl rfl, by decide +kernel⟩
theorem wg_699 : Cond.methodLink RX8 198 ⟨"MirroredTalks$StandInPairs", "has", "(I)Z"⟩ ∈ mgood := mgood_in (w := Cond.methodLink RX8 198 ⟨"MirroredTalks$StandInPairs", "has", "(I)Z"⟩) (List.mem_of_getElem? (i := 699) (by decide +kernel)) rfl
theorem wg_700 : Cond.sameMethod "MirroredTalks$StandInPairs" "MirroredTalks$Pairs" "has" "(I)Z" ∈ mgood := mgood_in (w := Cond.sameMethod "MirroredTalks$StandInPairs" "MirroredTalks$Pairs" "has" "(I)Z") (List.mem_of_getElem? (i := 700) (by decide +kernel)) rfl
theorem wg_701 : Cond.selects RX6 ⟨"MirroredTalks$StandInPairs", "has", "(I)Z"⟩ yX2_has ∈ mgood := mgood_in (w := Cond.selects RX6 ⟨"MirroredTalks$StandInPairs", "has", "(I)Z"⟩ yX2_has) (List.mem_of_getElem? (i := 701) (by decide +kernel)) rfl
theorem cu_X8_198_X6 : mcU RX8 198 RX6 "MirroredTalks$Pairs" ⟨"MirroredTalks$StandInPairs", "has", "(I)Z"⟩ yX2_has 1 := ⟨List.forall_mem_cons.mpr ⟨wg_699, List.forall_mem_cons.mpr ⟨wg_700, List.forall_mem_cons.mpr ⟨wg_701, List.forall_mem_cons.mpr ⟨wg_658, List.forall_mem_cons.mpr ⟨wg_19, fun _ h => absurd h List.not_mem_nil⟩⟩⟩⟩⟩, Or.inl rfl, by decide +kernel⟩
theorem wg_702 : Cond.methodLink RX8 199 ⟨"MirroredTalks$StandInPairs", "lengthOf", "(I)I"⟩ ∈ mgood := mgood_in (w := Cond.methodLink RX8 199 ⟨"MirroredTalks$StandInPairs", "lengthOf", "(I)I"⟩) (List.mem_of_getElem? (i := 702) (by decide +kernel)) rfl
theorem wg_703 : Cond.sameMethod "MirroredTalks$StandInPairs" "MirroredTalks$Pairs" "lengthOf" "(I)I" ∈ mgood := mgood_in (w := Cond.sameMethod "MirroredTalks$StandInPairs" "MirroredTalks$Pairs" "lengthOf" "(I)I") (List.mem_of_getElem? (i := 703) (by decide +kernel)) rfl
theorem wg_704 : Cond.selects RX6 ⟨"MirroredTalks$StandInPairs", "lengthOf", "(I)I"⟩ yX2_lengthOf ∈ mgood := mgood_in (w := Cond.selects RX6 ⟨"MirroredTalks$StandInPairs", "lengthOf", "(I)I"⟩ yX2_lengthOf) (List.mem_of_getElem? (i := 704) (by decide +kernel)) rfl
theorem cu_X8_199_X6 : mcU RX8 199 RX6 "MirroredTalks$Pairs" ⟨"MirroredTalks$StandInPairs", "lengthOf", "(I)I"⟩ yX2_lengthOf 1 := ⟨List.forall_mem_cons.mpr ⟨wg_702, List.forall_mem_cons.mpr ⟨wg_703, List.forall_mem_cons.mpr ⟨wg_704, List.forall_mem_cons.mpr ⟨wg_397, List.forall_mem_cons.mpr ⟨wg_19, fun _ h => absurd h List.not_mem_nil⟩⟩⟩⟩⟩, Or.inl rfl, by decide +kernel⟩
theorem wg_705 : Cond.methodLink RX8 200 ⟨"MirroredTalks$StandInPairs", "stateOfOne", "(I)I"⟩ ∈ mgood := mgood_in (w := Cond.methodLink RX8 200 ⟨"MirroredTalks$StandInPairs", "stateOfOne", "(I)I"⟩) (List.mem_of_getElem? (i := 705) (by decide +kernel)) rfl
theorem wg_706 : Cond.sameMethod "MirroredTalks$StandInPairs" "MirroredTalks$Pairs" "stateOfOne" "(I)I" ∈ mgood := mgood_in (w := Cond.sameMethod "MirroredTalks$StandInPairs" "MirroredTalks$Pairs" "stateOfOne" "(I)I") (List.mem_of_getElem? (i := 706) (by decide +kernel)) rfl
theorem wg_707 : Cond.selects RX6 ⟨"MirroredTalks$StandInPairs", "stateOfOne", "(I)I"⟩ yX2_stateOfOne ∈ mgood := mgood_in (w := Cond.selects RX6 ⟨"MirroredTalks$StandInPairs", "stateOfOne", "(I)I"⟩ yX2_stateOfOne) (List.mem_of_getElem? (i := 707) (by decide +kernel)) rfl
theorem cu_X8_200_X6 : mcU RX8 200 RX6 "MirroredTalks$Pairs" ⟨"MirroredTalks$StandInPairs", "stateOfOne", "(I)I"⟩ yX2_stateOfOne 1 := ⟨List.forall_mem_cons.mpr ⟨wg_705, List.forall_mem_cons.mpr ⟨wg_706, List.forall_mem_cons.mpr ⟨wg_707, List.forall_mem_cons.mpr ⟨wg_371, List.forall_mem_cons.mpr ⟨wg_19, fun _ h => absurd h List.not_mem_nil⟩⟩⟩⟩⟩, Or.inl rfl, by decide +kernel⟩
theorem wg_708 : Cond.methodLink RX8 201 ⟨"MirroredTalks$StandInPairs", "stateOfOther", "(I)I"⟩ ∈ mgood := mgood_in (w := Cond.methodLink RX8 201 ⟨"MirroredTalks$StandInPairs", "stateOfOther", "(I)I"⟩) (List.mem_of_getElem? (i := 708) (by decide +kernel)) rfl
theorem wg_709 : Cond.sameMethod "MirroredTalks$StandInPairs" "MirroredTalks$Pairs" "stateOfOther" "(I)I" ∈ mgood := mgood_in (w := Cond.sameMethod "MirroredTalks$StandInPairs" "MirroredTalks$Pairs" "stateOfOther" "(I)I") (List.mem_of_getElem? (i := 709) (by decide +kernel)) rfl
theorem wg_710 : Cond.selects RX6 ⟨"MirroredTalks$StandInPairs", "stateOfOther", "(I)I"⟩ yX2_stateOfOther ∈ mgood := mgood_in (w := Cond.selects RX6 ⟨"MirroredTalks$StandInPairs", "stateOfOther", "(I)I"⟩ yX2_stateOfOther) (List.mem_of_getElem? (i := 710) (by decide +kernel)) rfl
theorem cu_X8_201_X6 : mcU RX8 201 RX6 "MirroredTalks$Pairs" ⟨"MirroredTalks$StandInPairs", "stateOfOther", "(I)I"⟩ yX2_stateOfOther 1 := ⟨List.forall_mem_cons.mpr ⟨wg_708, List.forall_mem_cons.mpr ⟨wg_709, List.forall_mem_cons.mpr ⟨wg_710, List.forall_mem_cons.mpr ⟨wg_380, List.forall_mem_cons.mpr ⟨wg_19, fun _ h => absurd h List.not_mem_nil⟩⟩⟩⟩⟩, Or.inl rfl, by decide +kernel⟩
theorem wg_711 : Cond.methodLink RX8 202 ⟨"MirroredTalks$StandInPairs", "tellMore", "(II)I"⟩ ∈ mgood := mgood_in (w := Cond.methodLink RX8 202 ⟨"MirroredTalks$StandInPairs", "tellMore", "(II)I"⟩) (List.mem_of_getElem? (i := 711) (by decide +kernel)) rfl
theorem wg_712 : Cond.sameMethod "MirroredTalks$StandInPairs" "MirroredTalks$Pairs" "tellMore" "(II)I" ∈ mgood := mgood_in (w := Cond.sameMethod "MirroredTalks$StandInPairs" "MirroredTalks$Pairs" "tellMore" "(II)I") (List.mem_of_getElem? (i := 712) (by decide +kernel)) rfl
theorem wg_713 : Cond.selects RX6 ⟨"MirroredTalks$StandInPairs", "tellMore", "(II)I"⟩ yX2_tellMore ∈ mgood := mgood_in (w := Cond.selects RX6 ⟨"MirroredTalks$StandInPairs", "tellMore", "(II)I"⟩ yX2_tellMore) (List.mem_of_getElem? (i := 713) (by decide +kernel)) rfl
theorem cu_X8_202_X6 : mcU RX8 202 RX6 "MirroredTalks$Pairs" ⟨"MirroredTalks$StandInPairs", "tellMore", "(II)I"⟩ yX2_tellMore 2 := ⟨List.forall_mem_cons.mpr ⟨wg_711, List.forall_mem_cons.mpr ⟨wg_712, List.forall_mem_cons.mpr ⟨wg_713, List.forall_mem_cons.mpr ⟨wg_667, List.forall_mem_cons.mpr ⟨wg_19, fun _ h => absurd h List.not_mem_nil⟩⟩⟩⟩⟩, Or.inl rfl, by decide +kernel⟩
theorem wg_349 : Cond.methodLink RX8 203 yX8_standsIn ∈ mgood := mgood_in (w := Cond.methodLink RX8 203 yX8_standsIn) (List.mem_of_getElem? (i := 349) (by decide +kernel)) rfl
theorem wg_350 : Cond.instanceMethod yX8_standsIn ∈ mgood := mgood_in (w := Cond.instanceMethod yX8_standsIn) (List.mem_of_getElem? (i := 350) (by decide +kernel)) rfl
theorem wg_351 : Cond.selects RX8 yX8_standsIn yX8_standsIn ∈ mgood := mgood_in (w := Cond.selects RX8 yX8_standsIn yX8_standsIn) (List.mem_of_getElem? (i := 351) (by decide +kernel)) rfl
theorem cv_X8_203 : mcV RX8 203 yX8_standsIn 2 := ⟨wg_349, wg_350, wg_351, wg_14, by decide +kernel⟩
theorem wg_430 : Cond.methodLink RX8 206 yX3_arrows ∈ mgood := mgood_in (w := Cond.methodLink RX8 206 yX3_arrows) (List.mem_of_getElem? (i := 430) (by decide +kernel)) rfl
theorem wg_431 : Cond.instanceMethod yX3_arrows ∈ mgood := mgood_in (w := Cond.instanceMethod yX3_arrows) (List.mem_of_getElem? (i := 431) (by decide +kernel)) rfl
theorem wg_432 : Cond.selects RX3 yX3_arrows yX3_arrows ∈ mgood := mgood_in (w := Cond.selects RX3 yX3_arrows yX3_arrows) (List.mem_of_getElem? (i := 432) (by decide +kernel)) rfl
theorem cv_X8_206 : mcV RX8 206 yX3_arrows 0 := ⟨wg_430, wg_431, wg_432, wg_15, by decide +kernel⟩
theorem wg_436 : Cond.methodLink RX8 209 yX0_size ∈ mgood := mgood_in (w := Cond.methodLink RX8 209 yX0_size) (List.mem_of_getElem? (i := 436) (by decide +kernel)) rfl
theorem wg_437 : Cond.instanceMethod yX0_size ∈ mgood := mgood_in (w := Cond.instanceMethod yX0_size) (List.mem_of_getElem? (i := 437) (by decide +kernel)) rfl
theorem wg_438 : Cond.selects RX0 yX0_size yX0_size ∈ mgood := mgood_in (w := Cond.selects RX0 yX0_size yX0_size) (List.mem_of_getElem? (i := 438) (by decide +kernel)) rfl
theorem wg_16 : Cond.initialized RX0 ∈ mgood := mgood_in (w := Cond.initialized RX0) (List.mem_of_getElem? (i := 16) (by decide +kernel)) rfl
theorem cv_X8_209 : mcV RX8 209 yX0_size 0 := ⟨wg_436, wg_437, wg_438, wg_16, by decide +kernel⟩
theorem wg_440 : Cond.methodLink RX8 210 yX4_length ∈ mgood := mgood_in (w := Cond.methodLink RX8 210 yX4_length) (List.mem_of_getElem? (i := 440) (by decide +kernel)) rfl
theorem wg_441 : Cond.instanceMethod yX4_length ∈ mgood := mgood_in (w := Cond.instanceMethod yX4_length) (List.mem_of_getElem? (i := 441) (by decide +kernel)) rfl
theorem wg_442 : Cond.selects RX4 yX4_length yX4_length ∈ mgood := mgood_in (w := Cond.selects RX4 yX4_length yX4_length) (List.mem_of_getElem? (i := 442) (by decide +kernel)) rfl
theorem wg_17 : Cond.initialized RX4 ∈ mgood := mgood_in (w := Cond.initialized RX4) (List.mem_of_getElem? (i := 17) (by decide +kernel)) rfl
theorem cv_X8_210 : mcV RX8 210 yX4_length 0 := ⟨wg_440, wg_441, wg_442, wg_17, by decide +kernel⟩
theorem wg_448 : Cond.methodLink RX8 213 yX0_restore ∈ mgood := mgood_in (w := Cond.methodLink RX8 213 yX0_restore) (List.mem_of_getElem? (i := 448) (by decide +kernel)) rfl
theorem wg_449 : Cond.instanceMethod yX0_restore ∈ mgood := mgood_in (w := Cond.instanceMethod yX0_restore) (List.mem_of_getElem? (i := 449) (by decide +kernel)) rfl
theorem wg_450 : Cond.selects RX0 yX0_restore yX0_restore ∈ mgood := mgood_in (w := Cond.selects RX0 yX0_restore yX0_restore) (List.mem_of_getElem? (i := 450) (by decide +kernel)) rfl
theorem cv_X8_213 : mcV RX8 213 yX0_restore 3 := ⟨wg_448, wg_449, wg_450, wg_16, by decide +kernel⟩
theorem wg_718 : Cond.methodLink RX8 217 yX4_isFull ∈ mgood := mgood_in (w := Cond.methodLink RX8 217 yX4_isFull) (List.mem_of_getElem? (i := 718) (by decide +kernel)) rfl
theorem wg_719 : Cond.instanceMethod yX4_isFull ∈ mgood := mgood_in (w := Cond.instanceMethod yX4_isFull) (List.mem_of_getElem? (i := 719) (by decide +kernel)) rfl
theorem wg_720 : Cond.selects RX4 yX4_isFull yX4_isFull ∈ mgood := mgood_in (w := Cond.selects RX4 yX4_isFull yX4_isFull) (List.mem_of_getElem? (i := 720) (by decide +kernel)) rfl
theorem cv_X8_217 : mcV RX8 217 yX4_isFull 0 := ⟨wg_718, wg_719, wg_720, wg_17, by decide +kernel⟩
theorem wg_723 : Cond.methodLink RX8 222 yX4_append ∈ mgood := mgood_in (w := Cond.methodLink RX8 222 yX4_append) (List.mem_of_getElem? (i := 723) (by decide +kernel)) rfl
theorem wg_724 : Cond.instanceMethod yX4_append ∈ mgood := mgood_in (w := Cond.instanceMethod yX4_append) (List.mem_of_getElem? (i := 724) (by decide +kernel)) rfl
theorem wg_725 : Cond.selects RX4 yX4_append yX4_append ∈ mgood := mgood_in (w := Cond.selects RX4 yX4_append yX4_append) (List.mem_of_getElem? (i := 725) (by decide +kernel)) rfl
theorem cv_X8_222 : mcV RX8 222 yX4_append 1 := ⟨wg_723, wg_724, wg_725, wg_17, by decide +kernel⟩
theorem wg_460 : Cond.methodLink RX8 226 yX4_clear ∈ mgood := mgood_in (w := Cond.methodLink RX8 226 yX4_clear) (List.mem_of_getElem? (i := 460) (by decide +kernel)) rfl
theorem wg_461 : Cond.instanceMethod yX4_clear ∈ mgood := mgood_in (w := Cond.instanceMethod yX4_clear) (List.mem_of_getElem? (i := 461) (by decide +kernel)) rfl
theorem wg_462 : Cond.selects RX4 yX4_clear yX4_clear ∈ mgood := mgood_in (w := Cond.selects RX4 yX4_clear yX4_clear) (List.mem_of_getElem? (i := 462) (by decide +kernel)) rfl
theorem cv_X8_226 : mcV RX8 226 yX4_clear 0 := ⟨wg_460, wg_461, wg_462, wg_17, by decide +kernel⟩
theorem wg_468 : Cond.methodLink RX8 229 yX4_parse ∈ mgood := mgood_in (w := Cond.methodLink RX8 229 yX4_parse) (List.mem_of_getElem? (i := 468) (by decide +kernel)) rfl
theorem wg_469 : Cond.instanceMethod yX4_parse ∈ mgood := mgood_in (w := Cond.instanceMethod yX4_parse) (List.mem_of_getElem? (i := 469) (by decide +kernel)) rfl
theorem wg_470 : Cond.selects RX4 yX4_parse yX4_parse ∈ mgood := mgood_in (w := Cond.selects RX4 yX4_parse yX4_parse) (List.mem_of_getElem? (i := 470) (by decide +kernel)) rfl
theorem cv_X8_229 : mcV RX8 229 yX4_parse 0 := ⟨wg_468, wg_469, wg_470, wg_17, by decide +kernel⟩
theorem wg_499 : Cond.methodLink RX8 232 yX4_isFaulty ∈ mgood := mgood_in (w := Cond.methodLink RX8 232 yX4_isFaulty) (List.mem_of_getElem? (i := 499) (by decide +kernel)) rfl
theorem wg_478 : Cond.instanceMethod yX4_isFaulty ∈ mgood := mgood_in (w := Cond.instanceMethod yX4_isFaulty) (List.mem_of_getElem? (i := 478) (by decide +kernel)) rfl
theorem wg_479 : Cond.selects RX4 yX4_isFaulty yX4_isFaulty ∈ mgood := mgood_in (w := Cond.selects RX4 yX4_isFaulty yX4_isFaulty) (List.mem_of_getElem? (i := 479) (by decide +kernel)) rfl
theorem cv_X8_232 : mcV RX8 232 yX4_isFaulty 0 := ⟨wg_499, wg_478, wg_479, wg_17, by decide +kernel⟩
theorem wg_731 : Cond.methodLink RX8 235 yX4_faultPosition ∈ mgood := mgood_in (w := Cond.methodLink RX8 235 yX4_faultPosition) (List.mem_of_getElem? (i := 731) (by decide +kernel)) rfl
theorem wg_732 : Cond.instanceMethod yX4_faultPosition ∈ mgood := mgood_in (w := Cond.instanceMethod yX4_faultPosition) (List.mem_of_getElem? (i := 732) (by decide +kernel)) rfl
theorem wg_733 : Cond.selects RX4 yX4_faultPosition yX4_faultPosition ∈ mgood := mgood_in (w := Cond.selects RX4 yX4_faultPosition yX4_faultPosition) (List.mem_of_getElem? (i := 733) (by decide +kernel)) rfl
theorem cv_X8_235 : mcV RX8 235 yX4_faultPosition 0 := ⟨wg_731, wg_732, wg_733, wg_17, by decide +kernel⟩
theorem wg_735 : Cond.methodLink RX8 238 yX4_faultReason ∈ mgood := mgood_in (w := Cond.methodLink RX8 238 yX4_faultReason) (List.mem_of_getElem? (i := 735) (by decide +kernel)) rfl
theorem wg_736 : Cond.instanceMethod yX4_faultReason ∈ mgood := mgood_in (w := Cond.instanceMethod yX4_faultReason) (List.mem_of_getElem? (i := 736) (by decide +kernel)) rfl
theorem wg_737 : Cond.selects RX4 yX4_faultReason yX4_faultReason ∈ mgood := mgood_in (w := Cond.selects RX4 yX4_faultReason yX4_faultReason) (List.mem_of_getElem? (i := 737) (by decide +kernel)) rfl
theorem cv_X8_238 : mcV RX8 238 yX4_faultReason 0 := ⟨wg_735, wg_736, wg_737, wg_17, by decide +kernel⟩
theorem wg_739 : Cond.methodLink RX8 241 yX4_faultCause ∈ mgood := mgood_in (w := Cond.methodLink RX8 241 yX4_faultCause) (List.mem_of_getElem? (i := 739) (by decide +kernel)) rfl
theorem wg_740 : Cond.instanceMethod yX4_faultCause ∈ mgood := mgood_in (w := Cond.instanceMethod yX4_faultCause) (List.mem_of_getElem? (i := 740) (by decide +kernel)) rfl
theorem wg_741 : Cond.selects RX4 yX4_faultCause yX4_faultCause ∈ mgood := mgood_in (w := Cond.selects RX4 yX4_faultCause yX4_faultCause) (List.mem_of_getElem? (i := 741) (by decide +kernel)) rfl
theorem cv_X8_241 : mcV RX8 241 yX4_faultCause 0 := ⟨wg_739, wg_740, wg_741, wg_17, by decide +kernel⟩
theorem wg_500 : Cond.methodLink RX8 244 yX4_draft ∈ mgood := mgood_in (w := Cond.methodLink RX8 244 yX4_draft) (List.mem_of_getElem? (i := 500) (by decide +kernel)) rfl
theorem wg_501 : Cond.instanceMethod yX4_draft ∈ mgood := mgood_in (w := Cond.instanceMethod yX4_draft) (List.mem_of_getElem? (i := 501) (by decide +kernel)) rfl
theorem wg_502 : Cond.selects RX4 yX4_draft yX4_draft ∈ mgood := mgood_in (w := Cond.selects RX4 yX4_draft yX4_draft) (List.mem_of_getElem? (i := 502) (by decide +kernel)) rfl
theorem cv_X8_244 : mcV RX8 244 yX4_draft 0 := ⟨wg_500, wg_501, wg_502, wg_17, by decide +kernel⟩
theorem wg_504 : Cond.methodLink RX8 248 yX4_toldStates ∈ mgood := mgood_in (w := Cond.methodLink RX8 248 yX4_toldStates) (List.mem_of_getElem? (i := 504) (by decide +kernel)) rfl
theorem wg_505 : Cond.instanceMethod yX4_toldStates ∈ mgood := mgood_in (w := Cond.instanceMethod yX4_toldStates) (List.mem_of_getElem? (i := 505) (by decide +kernel)) rfl
theorem wg_506 : Cond.selects RX4 yX4_toldStates yX4_toldStates ∈ mgood := mgood_in (w := Cond.selects RX4 yX4_toldStates yX4_toldStates) (List.mem_of_getElem? (i := 506) (by decide +kernel)) rfl
theorem cv_X8_248 : mcV RX8 248 yX4_toldStates 0 := ⟨wg_504, wg_505, wg_506, wg_17, by decide +kernel⟩
theorem wg_231 : Cond.methodLink RX8 251 yX0_record ∈ mgood := mgood_in (w := Cond.methodLink RX8 251 yX0_record) (List.mem_of_getElem? (i := 231) (by decide +kernel)) rfl
theorem wg_232 : Cond.instanceMethod yX0_record ∈ mgood := mgood_in (w := Cond.instanceMethod yX0_record) (List.mem_of_getElem? (i := 232) (by decide +kernel)) rfl
theorem wg_233 : Cond.selects RX0 yX0_record yX0_record ∈ mgood := mgood_in (w := Cond.selects RX0 yX0_record yX0_record) (List.mem_of_getElem? (i := 233) (by decide +kernel)) rfl
theorem cv_X8_251 : mcV RX8 251 yX0_record 3 := ⟨wg_231, wg_232, wg_233, wg_16, by decide +kernel⟩
theorem wg_238 : Cond.methodLink RX0 25 yX3_saveTo ∈ mgood := mgood_in (w := Cond.methodLink RX0 25 yX3_saveTo) (List.mem_of_getElem? (i := 238) (by decide +kernel)) rfl
theorem wg_239 : Cond.instanceMethod yX3_saveTo ∈ mgood := mgood_in (w := Cond.instanceMethod yX3_saveTo) (List.mem_of_getElem? (i := 239) (by decide +kernel)) rfl
theorem wg_240 : Cond.selects RX3 yX3_saveTo yX3_saveTo ∈ mgood := mgood_in (w := Cond.selects RX3 yX3_saveTo yX3_saveTo) (List.mem_of_getElem? (i := 240) (by decide +kernel)) rfl
theorem cv_X0_25 : mcV RX0 25 yX3_saveTo 2 := ⟨wg_238, wg_239, wg_240, wg_15, by decide +kernel⟩
theorem wg_452 : Cond.methodLink RX0 29 yX3_loadFrom ∈ mgood := mgood_in (w := Cond.methodLink RX0 29 yX3_loadFrom) (List.mem_of_getElem? (i := 452) (by decide +kernel)) rfl
theorem wg_453 : Cond.instanceMethod yX3_loadFrom ∈ mgood := mgood_in (w := Cond.instanceMethod yX3_loadFrom) (List.mem_of_getElem? (i := 453) (by decide +kernel)) rfl
theorem wg_454 : Cond.selects RX3 yX3_loadFrom yX3_loadFrom ∈ mgood := mgood_in (w := Cond.selects RX3 yX3_loadFrom yX3_loadFrom) (List.mem_of_getElem? (i := 454) (by decide +kernel)) rfl
theorem cv_X0_29 : mcV RX0 29 yX3_loadFrom 2 := ⟨wg_452, wg_453, wg_454, wg_15, by decide +kernel⟩
theorem wg_307 : Cond.methodLink RX1 15 yX1_looksAlike ∈ mgood := mgood_in (w := Cond.methodLink RX1 15 yX1_looksAlike) (List.mem_of_getElem? (i := 307) (by decide +kernel)) rfl
theorem wg_308 : Cond.static yX1_looksAlike ∈ mgood := mgood_in (w := Cond.static yX1_looksAlike) (List.mem_of_getElem? (i := 308) (by decide +kernel)) rfl
theorem cs_X1_15 : mcS RX1 15 yX1_looksAlike (3) := ⟨wg_307, wg_308, wg_18, by decide +kernel⟩
theorem wg_312 : Cond.methodLink RX1 19 yX1_part ∈ mgood := mgood_in (w := Cond.methodLink RX1 19 yX1_part) (List.mem_of_getElem? (i := 312) (by decide +kernel)) rfl
theorem wg_314 : Cond.instanceMethod yX1_part ∈ mgood := mgood_in (w := Cond.instanceMethod yX1_part) (List.mem_of_getElem? (i := 314) (by decide +kernel)) rfl
theorem wg_2 : Cond.selects RX1 yX1_part yX1_part ∈ mgood := mgood_in (w := Cond.selects RX1 yX1_part yX1_part) (List.mem_of_getElem? (i := 2) (by decide +kernel)) rfl
theorem cv_X1_19 : mcV RX1 19 yX1_part 1 := ⟨wg_312, wg_314, wg_2, wg_18, by decide +kernel⟩
theorem wg_316 : Cond.methodLink RX1 23 yX1_leadsAlike ∈ mgood := mgood_in (w := Cond.methodLink RX1 23 yX1_leadsAlike) (List.mem_of_getElem? (i := 316) (by decide +kernel)) rfl
theorem wg_318 : Cond.instanceMethod yX1_leadsAlike ∈ mgood := mgood_in (w := Cond.instanceMethod yX1_leadsAlike) (List.mem_of_getElem? (i := 318) (by decide +kernel)) rfl
theorem wg_3 : Cond.selects RX1 yX1_leadsAlike yX1_leadsAlike ∈ mgood := mgood_in (w := Cond.selects RX1 yX1_leadsAlike yX1_leadsAlike) (List.mem_of_getElem? (i := 3) (by decide +kernel)) rfl
theorem cv_X1_23 : mcV RX1 23 yX1_leadsAlike 3 := ⟨wg_316, wg_318, wg_3, wg_18, by decide +kernel⟩
theorem wg_310 : Cond.methodLink RX1 26 yX3_kindOf ∈ mgood := mgood_in (w := Cond.methodLink RX1 26 yX3_kindOf) (List.mem_of_getElem? (i := 310) (by decide +kernel)) rfl
theorem cv_X1_26 : mcV RX1 26 yX3_kindOf 1 := ⟨wg_310, wg_248, wg_249, wg_15, by decide +kernel⟩
theorem wg_311 : Cond.methodLink RX1 32 yX3_wordsOf ∈ mgood := mgood_in (w := Cond.methodLink RX1 32 yX3_wordsOf) (List.mem_of_getElem? (i := 311) (by decide +kernel)) rfl
theorem cv_X1_32 : mcV RX1 32 yX3_wordsOf 1 := ⟨wg_311, wg_259, wg_260, wg_15, by decide +kernel⟩
theorem wg_320 : Cond.methodLink RX1 35 yX3_targetOf ∈ mgood := mgood_in (w := Cond.methodLink RX1 35 yX3_targetOf) (List.mem_of_getElem? (i := 320) (by decide +kernel)) rfl
theorem cv_X1_35 : mcV RX1 35 yX3_targetOf 2 := ⟨wg_320, wg_263, wg_264, wg_15, by decide +kernel⟩
theorem wg_321 : Cond.methodLink RX1 39 yX1_areAlike ∈ mgood := mgood_in (w := Cond.methodLink RX1 39 yX1_areAlike) (List.mem_of_getElem? (i := 321) (by decide +kernel)) rfl
theorem wg_323 : Cond.instanceMethod yX1_areAlike ∈ mgood := mgood_in (w := Cond.instanceMethod yX1_areAlike) (List.mem_of_getElem? (i := 323) (by decide +kernel)) rfl
theorem wg_4 : Cond.selects RX1 yX1_areAlike yX1_areAlike ∈ mgood := mgood_in (w := Cond.selects RX1 yX1_areAlike yX1_areAlike) (List.mem_of_getElem? (i := 4) (by decide +kernel)) rfl
theorem cv_X1_39 : mcV RX1 39 yX1_areAlike 2 := ⟨wg_321, wg_323, wg_4, wg_18, by decide +kernel⟩
theorem wn_325 : Cond.methodLinkNest RX1 43 yX8_isState "MirroredTalks" ∈ mnest := mnest_in (w := Cond.methodLinkNest RX1 43 yX8_isState "MirroredTalks") (List.mem_of_getElem? (i := 325) (by decide +kernel)) rfl
theorem cn_X1_43 : mcN RX1 43 yX8_isState (1) := ⟨⟨_, wn_325⟩, wg_50, wg_14, by decide +kernel⟩
theorem wg_359 : Cond.methodLink RX2 34 yJ7_fill_53178 ∈ mgood := mgood_in (w := Cond.methodLink RX2 34 yJ7_fill_53178) (List.mem_of_getElem? (i := 359) (by decide +kernel)) rfl
theorem wg_360 : Cond.static yJ7_fill_53178 ∈ mgood := mgood_in (w := Cond.static yJ7_fill_53178) (List.mem_of_getElem? (i := 360) (by decide +kernel)) rfl
theorem wg_25 : Cond.initialized RJ7 ∈ mgood := mgood_in (w := Cond.initialized RJ7) (List.mem_of_getElem? (i := 25) (by decide +kernel)) rfl
theorem cs_X2_34 : mcS RX2 34 yJ7_fill_53178 (2) := ⟨wg_359, wg_360, wg_25, by decide +kernel⟩
theorem wx_0 : Cond.selects RX6 yX2_add yX2_add ∈ mgood := mgood_inx (List.mem_of_getElem? (i := 0) rfl) rfl
theorem wg_362 : Cond.methodLink RX2 44 ⟨"MirroredTalks$Pairs", "add", "(IIII)V"⟩ ∈ mgood := mgood_in (w := Cond.methodLink RX2 44 ⟨"MirroredTalks$Pairs", "add", "(IIII)V"⟩) (List.mem_of_getElem? (i := 362) (by decide +kernel)) rfl
theorem wg_785 : Cond.sameMethod "MirroredTalks$Pairs" "MirroredTalks$Pairs" "add" "(IIII)V" ∈ mgood := mgood_in (w := Cond.sameMethod "MirroredTalks$Pairs" "MirroredTalks$Pairs" "add" "(IIII)V") (List.mem_of_getElem? (i := 785) (by decide +kernel)) rfl
theorem wg_364 : Cond.instanceMethod yX2_add ∈ mgood := mgood_in (w := Cond.instanceMethod yX2_add) (List.mem_of_getElem? (i := 364) (by decide +kernel)) rfl
theorem cu_X2_44_X6 : mcU RX2 44 RX6 "MirroredTalks$Pairs" ⟨"MirroredTalks$Pairs", "add", "(IIII)V"⟩ yX2_add 4 := ⟨List.forall_mem_cons.mpr ⟨wg_362, List.forall_mem_cons.mpr ⟨wg_785, List.forall_mem_cons.mpr ⟨wx_0, List.forall_mem_cons.mpr ⟨wg_364, List.forall_mem_cons.mpr ⟨wg_19, fun _ h => absurd h List.not_mem_nil⟩⟩⟩⟩⟩, Or.inl rfl, by decide +kernel⟩
theorem wx_1 : Cond.selects RX7 yX2_add yX2_add ∈ mgood := mgood_inx (List.mem_of_getElem? (i := 1) rfl) rfl
theorem cu_X2_44_X7 : mcU RX2 44 RX7 "MirroredTalks$Pairs" ⟨"MirroredTalks$Pairs", "add", "(IIII)V"⟩ yX2_add 4 := ⟨List.forall_mem_cons.mpr ⟨wg_362, List.forall_mem_cons.mpr ⟨wg_785, List.forall_mem_cons.mpr ⟨wx_1, List.forall_mem_cons.mpr ⟨wg_364, List.forall_mem_cons.mpr ⟨wg_19, fun _ h => absurd h List.not_mem_nil⟩⟩⟩⟩⟩, Or.inl rfl, by decide +kernel⟩
theorem wx_2 : Cond.selects RX6 yX2_pairBehind yX2_pairBehind ∈ mgood := mgood_inx (List.mem_of_getElem? (i := 2) rfl) rfl
theorem wg_366 : Cond.methodLink RX2 48 ⟨"MirroredTalks$Pairs", "pairBehind", "(II)I"⟩ ∈ mgood := mgood_in (w := Cond.methodLink RX2 48 ⟨"MirroredTalks$Pairs", "pairBehind", "(II)I"⟩) (List.mem_of_getElem? (i := 366) (by decide +kernel)) rfl
theorem wg_786 : Cond.sameMethod "MirroredTalks$Pairs" "MirroredTalks$Pairs" "pairBehind" "(II)I" ∈ mgood := mgood_in (w := Cond.sameMethod "MirroredTalks$Pairs" "MirroredTalks$Pairs" "pairBehind" "(II)I") (List.mem_of_getElem? (i := 786) (by decide +kernel)) rfl
theorem wg_368 : Cond.instanceMethod yX2_pairBehind ∈ mgood := mgood_in (w := Cond.instanceMethod yX2_pairBehind) (List.mem_of_getElem? (i := 368) (by decide +kernel)) rfl
theorem cu_X2_48_X6 : mcU RX2 48 RX6 "MirroredTalks$Pairs" ⟨"MirroredTalks$Pairs", "pairBehind", "(II)I"⟩ yX2_pairBehind 2 := ⟨List.forall_mem_cons.mpr ⟨wg_366, List.forall_mem_cons.mpr ⟨wg_786, List.forall_mem_cons.mpr ⟨wx_2, List.forall_mem_cons.mpr ⟨wg_368, List.forall_mem_cons.mpr ⟨wg_19, fun _ h => absurd h List.not_mem_nil⟩⟩⟩⟩⟩, Or.inl rfl, by decide +kernel⟩
theorem wx_3 : Cond.selects RX7 yX2_pairBehind yX2_pairBehind ∈ mgood := mgood_inx (List.mem_of_getElem? (i := 3) rfl) rfl
theorem cu_X2_48_X7 : mcU RX2 48 RX7 "MirroredTalks$Pairs" ⟨"MirroredTalks$Pairs", "pairBehind", "(II)I"⟩ yX2_pairBehind 2 := ⟨List.forall_mem_cons.mpr ⟨wg_366, List.forall_mem_cons.mpr ⟨wg_786, List.forall_mem_cons.mpr ⟨wx_3, List.forall_mem_cons.mpr ⟨wg_368, List.forall_mem_cons.mpr ⟨wg_19, fun _ h => absurd h List.not_mem_nil⟩⟩⟩⟩⟩, Or.inl rfl, by decide +kernel⟩
theorem wn_376 : Cond.methodLinkNest RX2 52 yX8_cellOf "MirroredTalks" ∈ mnest := mnest_in (w := Cond.methodLinkNest RX2 52 yX8_cellOf "MirroredTalks") (List.mem_of_getElem? (i := 376) (by decide +kernel)) rfl
theorem wg_377 : Cond.static yX8_cellOf ∈ mgood := mgood_in (w := Cond.static yX8_cellOf) (List.mem_of_getElem? (i := 377) (by decide +kernel)) rfl
theorem cn_X2_52 : mcN RX2 52 yX8_cellOf (2) := ⟨⟨_, wn_376⟩, wg_377, wg_14, by decide +kernel⟩
theorem wg_396 : Cond.methodLink RX2 56 ⟨"MirroredTalks$Pairs", "lengthOf", "(I)I"⟩ ∈ mgood := mgood_in (w := Cond.methodLink RX2 56 ⟨"MirroredTalks$Pairs", "lengthOf", "(I)I"⟩) (List.mem_of_getElem? (i := 396) (by decide +kernel)) rfl
theorem wg_398 : Cond.sameMethod "MirroredTalks$Pairs" "MirroredTalks$Pairs" "lengthOf" "(I)I" ∈ mgood := mgood_in (w := Cond.sameMethod "MirroredTalks$Pairs" "MirroredTalks$Pairs" "lengthOf" "(I)I") (List.mem_of_getElem? (i := 398) (by decide +kernel)) rfl
theorem wg_399 : Cond.selects RX6 ⟨"MirroredTalks$Pairs", "lengthOf", "(I)I"⟩ yX2_lengthOf ∈ mgood := mgood_in (w := Cond.selects RX6 ⟨"MirroredTalks$Pairs", "lengthOf", "(I)I"⟩ yX2_lengthOf) (List.mem_of_getElem? (i := 399) (by decide +kernel)) rfl
theorem cu_X2_56_X6 : mcU RX2 56 RX6 "MirroredTalks$Pairs" ⟨"MirroredTalks$Pairs", "lengthOf", "(I)I"⟩ yX2_lengthOf 1 := ⟨List.forall_mem_cons.mpr ⟨wg_396, List.forall_mem_cons.mpr ⟨wg_398, List.forall_mem_cons.mpr ⟨wg_399, List.forall_mem_cons.mpr ⟨wg_397, List.forall_mem_cons.mpr ⟨wg_19, fun _ h => absurd h List.not_mem_nil⟩⟩⟩⟩⟩, Or.inl rfl, by decide +kernel⟩
theorem wg_400 : Cond.selects RX7 ⟨"MirroredTalks$Pairs", "lengthOf", "(I)I"⟩ yX2_lengthOf ∈ mgood := mgood_in (w := Cond.selects RX7 ⟨"MirroredTalks$Pairs", "lengthOf", "(I)I"⟩ yX2_lengthOf) (List.mem_of_getElem? (i := 400) (by decide +kernel)) rfl
theorem cu_X2_56_X7 : mcU RX2 56 RX7 "MirroredTalks$Pairs" ⟨"MirroredTalks$Pairs", "lengthOf", "(I)I"⟩ yX2_lengthOf 1 := ⟨List.forall_mem_cons.mpr ⟨wg_396, List.forall_mem_cons.mpr ⟨wg_398, List.forall_mem_cons.mpr ⟨wg_400, List.forall_mem_cons.mpr ⟨wg_397, List.forall_mem_cons.mpr ⟨wg_19, fun _ h => absurd h List.not_mem_nil⟩⟩⟩⟩⟩, Or.inl rfl, by decide +kernel⟩
theorem wg_370 : Cond.methodLink RX2 60 ⟨"MirroredTalks$Pairs", "stateOfOne", "(I)I"⟩ ∈ mgood := mgood_in (w := Cond.methodLink RX2 60 ⟨"MirroredTalks$Pairs", "stateOfOne", "(I)I"⟩) (List.mem_of_getElem? (i := 370) (by decide +kernel)) rfl
theorem wg_372 : Cond.sameMethod "MirroredTalks$Pairs" "MirroredTalks$Pairs" "stateOfOne" "(I)I" ∈ mgood := mgood_in (w := Cond.sameMethod "MirroredTalks$Pairs" "MirroredTalks$Pairs" "stateOfOne" "(I)I") (List.mem_of_getElem? (i := 372) (by decide +kernel)) rfl
theorem wg_373 : Cond.selects RX6 ⟨"MirroredTalks$Pairs", "stateOfOne", "(I)I"⟩ yX2_stateOfOne ∈ mgood := mgood_in (w := Cond.selects RX6 ⟨"MirroredTalks$Pairs", "stateOfOne", "(I)I"⟩ yX2_stateOfOne) (List.mem_of_getElem? (i := 373) (by decide +kernel)) rfl
theorem cu_X2_60_X6 : mcU RX2 60 RX6 "MirroredTalks$Pairs" ⟨"MirroredTalks$Pairs", "stateOfOne", "(I)I"⟩ yX2_stateOfOne 1 := ⟨List.forall_mem_cons.mpr ⟨wg_370, List.forall_mem_cons.mpr ⟨wg_372, List.forall_mem_cons.mpr ⟨wg_373, List.forall_mem_cons.mpr ⟨wg_371, List.forall_mem_cons.mpr ⟨wg_19, fun _ h => absurd h List.not_mem_nil⟩⟩⟩⟩⟩, Or.inl rfl, by decide +kernel⟩
theorem wg_374 : Cond.selects RX7 ⟨"MirroredTalks$Pairs", "stateOfOne", "(I)I"⟩ yX2_stateOfOne ∈ mgood := mgood_in (w := Cond.selects RX7 ⟨"MirroredTalks$Pairs", "stateOfOne", "(I)I"⟩ yX2_stateOfOne) (List.mem_of_getElem? (i := 374) (by decide +kernel)) rfl
theorem cu_X2_60_X7 : mcU RX2 60 RX7 "MirroredTalks$Pairs" ⟨"MirroredTalks$Pairs", "stateOfOne", "(I)I"⟩ yX2_stateOfOne 1 := ⟨List.forall_mem_cons.mpr ⟨wg_370, List.forall_mem_cons.mpr ⟨wg_372, List.forall_mem_cons.mpr ⟨wg_374, List.forall_mem_cons.mpr ⟨wg_371, List.forall_mem_cons.mpr ⟨wg_19, fun _ h => absurd h List.not_mem_nil⟩⟩⟩⟩⟩, Or.inl rfl, by decide +kernel⟩
theorem wg_379 : Cond.methodLink RX2 63 ⟨"MirroredTalks$Pairs", "stateOfOther", "(I)I"⟩ ∈ mgood := mgood_in (w := Cond.methodLink RX2 63 ⟨"MirroredTalks$Pairs", "stateOfOther", "(I)I"⟩) (List.mem_of_getElem? (i := 379) (by decide +kernel)) rfl
theorem wg_381 : Cond.sameMethod "MirroredTalks$Pairs" "MirroredTalks$Pairs" "stateOfOther" "(I)I" ∈ mgood := mgood_in (w := Cond.sameMethod "MirroredTalks$Pairs" "MirroredTalks$Pairs" "stateOfOther" "(I)I") (List.mem_of_getElem? (i := 381) (by decide +kernel)) rfl
theorem wg_382 : Cond.selects RX6 ⟨"MirroredTalks$Pairs", "stateOfOther", "(I)I"⟩ yX2_stateOfOther ∈ mgood := mgood_in (w := Cond.selects RX6 ⟨"MirroredTalks$Pairs", "stateOfOther", "(I)I"⟩ yX2_stateOfOther) (List.mem_of_getElem? (i := 382) (by decide +kernel)) rfl
theorem cu_X2_63_X6 : mcU RX2 63 RX6 "MirroredTalks$Pairs" ⟨"MirroredTalks$Pairs", "stateOfOther", "(I)I"⟩ yX2_stateOfOther 1 := ⟨List.forall_mem_cons.mpr ⟨wg_379, List.forall_mem_cons.mpr ⟨wg_381, List.forall_mem_cons.mpr ⟨wg_382, List.forall_mem_cons.mpr ⟨wg_380, List.forall_mem_cons.mpr ⟨wg_19, fun _ h => absurd h List.not_mem_nil⟩⟩⟩⟩⟩, Or.inl rfl, by decide +kernel⟩
theorem wg_383 : Cond.selects RX7 ⟨"MirroredTalks$Pairs", "stateOfOther", "(I)I"⟩ yX2_stateOfOther ∈ mgood := mgood_in (w := Cond.selects RX7 ⟨"MirroredTalks$Pairs", "stateOfOther", "(I)I"⟩ yX2_stateOfOther) (List.mem_of_getElem? (i := 383) (by decide +kernel)) rfl
theorem cu_X2_63_X7 : mcU RX2 63 RX7 "MirroredTalks$Pairs" ⟨"MirroredTalks$Pairs", "stateOfOther", "(I)I"⟩ yX2_stateOfOther 1 := ⟨List.forall_mem_cons.mpr ⟨wg_379, List.forall_mem_cons.mpr ⟨wg_381, List.forall_mem_cons.mpr ⟨wg_383, List.forall_mem_cons.mpr ⟨wg_380, List.forall_mem_cons.mpr ⟨wg_19, fun _ h => absurd h List.not_mem_nil⟩⟩⟩⟩⟩, Or.inl rfl, by decide +kernel⟩
theorem wg_385 : Cond.methodLink RX2 66 yX3_targetOf ∈ mgood := mgood_in (w := Cond.methodLink RX2 66 yX3_targetOf) (List.mem_of_getElem? (i := 385) (by decide +kernel)) rfl
theorem cv_X2_66 : mcV RX2 66 yX3_targetOf 2 := ⟨wg_385, wg_263, wg_264, wg_15, by decide +kernel⟩
theorem wg_386 : Cond.methodLink RX2 71 yX3_kindOf ∈ mgood := mgood_in (w := Cond.methodLink RX2 71 yX3_kindOf) (List.mem_of_getElem? (i := 386) (by decide +kernel)) rfl
theorem cv_X2_71 : mcV RX2 71 yX3_kindOf 1 := ⟨wg_386, wg_248, wg_249, wg_15, by decide +kernel⟩
theorem wg_387 : Cond.methodLink RX2 74 ⟨"MirroredTalks$Pairs", "goTogether", "(II)Z"⟩ ∈ mgood := mgood_in (w := Cond.methodLink RX2 74 ⟨"MirroredTalks$Pairs", "goTogether", "(II)Z"⟩) (List.mem_of_getElem? (i := 387) (by decide +kernel)) rfl
theorem wg_389 : Cond.sameMethod "MirroredTalks$Pairs" "MirroredTalks$Pairs" "goTogether" "(II)Z" ∈ mgood := mgood_in (w := Cond.sameMethod "MirroredTalks$Pairs" "MirroredTalks$Pairs" "goTogether" "(II)Z") (List.mem_of_getElem? (i := 389) (by decide +kernel)) rfl
theorem wg_390 : Cond.selects RX6 ⟨"MirroredTalks$Pairs", "goTogether", "(II)Z"⟩ yX6_goTogether ∈ mgood := mgood_in (w := Cond.selects RX6 ⟨"MirroredTalks$Pairs", "goTogether", "(II)Z"⟩ yX6_goTogether) (List.mem_of_getElem? (i := 390) (by decide +kernel)) rfl
theorem wg_391 : Cond.instanceMethod yX6_goTogether ∈ mgood := mgood_in (w := Cond.instanceMethod yX6_goTogether) (List.mem_of_getElem? (i := 391) (by decide +kernel)) rfl
theorem wg_22 : Cond.initialized RX6 ∈ mgood := mgood_in (w := Cond.initialized RX6) (List.mem_of_getElem? (i := 22) (by decide +kernel)) rfl
theorem wn_388 : Cond.declares ⟨"MirroredTalks$Pairs", "goTogether", "(II)Z"⟩ ∈ mnest := mnest_in (w := Cond.declares ⟨"MirroredTalks$Pairs", "goTogether", "(II)Z"⟩) (List.mem_of_getElem? (i := 388) (by decide +kernel)) rfl
theorem cu_X2_74_X6 : mcU RX2 74 RX6 "MirroredTalks$Pairs" ⟨"MirroredTalks$Pairs", "goTogether", "(II)Z"⟩ yX6_goTogether 2 := ⟨List.forall_mem_cons.mpr ⟨wg_387, List.forall_mem_cons.mpr ⟨wg_389, List.forall_mem_cons.mpr ⟨wg_390, List.forall_mem_cons.mpr ⟨wg_391, List.forall_mem_cons.mpr ⟨wg_22, fun _ h => absurd h List.not_mem_nil⟩⟩⟩⟩⟩, Or.inr wn_388, by decide +kernel⟩
theorem wg_393 : Cond.selects RX7 ⟨"MirroredTalks$Pairs", "goTogether", "(II)Z"⟩ yX7_goTogether ∈ mgood := mgood_in (w := Cond.selects RX7 ⟨"MirroredTalks$Pairs", "goTogether", "(II)Z"⟩ yX7_goTogether) (List.mem_of_getElem? (i := 393) (by decide +kernel)) rfl
theorem wg_394 : Cond.instanceMethod yX7_goTogether ∈ mgood := mgood_in (w := Cond.instanceMethod yX7_goTogether) (List.mem_of_getElem? (i := 394) (by decide +kernel)) rfl
theorem cu_X2_74_X7 : mcU RX2 74 RX7 "MirroredTalks$Pairs" ⟨"MirroredTalks$Pairs", "goTogether", "(II)Z"⟩ yX7_goTogether 2 := ⟨List.forall_mem_cons.mpr ⟨wg_387, List.forall_mem_cons.mpr ⟨wg_389, List.forall_mem_cons.mpr ⟨wg_393, List.forall_mem_cons.mpr ⟨wg_394, List.forall_mem_cons.mpr ⟨wg_20, fun _ h => absurd h List.not_mem_nil⟩⟩⟩⟩⟩, Or.inr wn_388, by decide +kernel⟩
theorem wg_414 : Cond.methodLink RX2 78 yX3_wordsOf ∈ mgood := mgood_in (w := Cond.methodLink RX2 78 yX3_wordsOf) (List.mem_of_getElem? (i := 414) (by decide +kernel)) rfl
theorem cv_X2_78 : mcV RX2 78 yX3_wordsOf 1 := ⟨wg_414, wg_259, wg_260, wg_15, by decide +kernel⟩
theorem wg_415 : Cond.methodLink RX2 81 ⟨"MirroredTalks$Pairs", "reasonFor", "(IIII)I"⟩ ∈ mgood := mgood_in (w := Cond.methodLink RX2 81 ⟨"MirroredTalks$Pairs", "reasonFor", "(IIII)I"⟩) (List.mem_of_getElem? (i := 415) (by decide +kernel)) rfl
theorem wg_417 : Cond.sameMethod "MirroredTalks$Pairs" "MirroredTalks$Pairs" "reasonFor" "(IIII)I" ∈ mgood := mgood_in (w := Cond.sameMethod "MirroredTalks$Pairs" "MirroredTalks$Pairs" "reasonFor" "(IIII)I") (List.mem_of_getElem? (i := 417) (by decide +kernel)) rfl
theorem wg_418 : Cond.selects RX6 ⟨"MirroredTalks$Pairs", "reasonFor", "(IIII)I"⟩ yX6_reasonFor ∈ mgood := mgood_in (w := Cond.selects RX6 ⟨"MirroredTalks$Pairs", "reasonFor", "(IIII)I"⟩ yX6_reasonFor) (List.mem_of_getElem? (i := 418) (by decide +kernel)) rfl
theorem wg_419 : Cond.instanceMethod yX6_reasonFor ∈ mgood := mgood_in (w := Cond.instanceMethod yX6_reasonFor) (List.mem_of_getElem? (i := 419) (by decide +kernel)) rfl
theorem wn_416 : Cond.declares ⟨"MirroredTalks$Pairs", "reasonFor", "(IIII)I"⟩ ∈ mnest := mnest_in (w := Cond.declares ⟨"MirroredTalks$Pairs", "reasonFor", "(IIII)I"⟩) (List.mem_of_getElem? (i := 416) (by decide +kernel)) rfl
theorem cu_X2_81_X6 : mcU RX2 81 RX6 "MirroredTalks$Pairs" ⟨"MirroredTalks$Pairs", "reasonFor", "(IIII)I"⟩ yX6_reasonFor 4 := ⟨List.forall_mem_cons.mpr ⟨wg_415, List.forall_mem_cons.mpr ⟨wg_417, List.forall_mem_cons.mpr ⟨wg_418, List.forall_mem_cons.mpr ⟨wg_419, List.forall_mem_cons.mpr ⟨wg_22, fun _ h => absurd h List.not_mem_nil⟩⟩⟩⟩⟩, Or.inr wn_416, by decide +kernel⟩
theorem wg_425 : Cond.selects RX7 ⟨"MirroredTalks$Pairs", "reasonFor", "(IIII)I"⟩ yX7_reasonFor ∈ mgood := mgood_in (w := Cond.selects RX7 ⟨"MirroredTalks$Pairs", "reasonFor", "(IIII)I"⟩ yX7_reasonFor) (List.mem_of_getElem? (i := 425) (by decide +kernel)) rfl
theorem wg_426 : Cond.instanceMethod yX7_reasonFor ∈ mgood := mgood_in (w := Cond.instanceMethod yX7_reasonFor) (List.mem_of_getElem? (i := 426) (by decide +kernel)) rfl
theorem cu_X2_81_X7 : mcU RX2 81 RX7 "MirroredTalks$Pairs" ⟨"MirroredTalks$Pairs", "reasonFor", "(IIII)I"⟩ yX7_reasonFor 4 := ⟨List.forall_mem_cons.mpr ⟨wg_415, List.forall_mem_cons.mpr ⟨wg_417, List.forall_mem_cons.mpr ⟨wg_425, List.forall_mem_cons.mpr ⟨wg_426, List.forall_mem_cons.mpr ⟨wg_20, fun _ h => absurd h List.not_mem_nil⟩⟩⟩⟩⟩, Or.inr wn_416, by decide +kernel⟩
theorem wg_673 : Cond.methodLink RX2 85 ⟨"MirroredTalks$Pairs", "kindOfOne", "(I)I"⟩ ∈ mgood := mgood_in (w := Cond.methodLink RX2 85 ⟨"MirroredTalks$Pairs", "kindOfOne", "(I)I"⟩) (List.mem_of_getElem? (i := 673) (by decide +kernel)) rfl
theorem wg_788 : Cond.sameMethod "MirroredTalks$Pairs" "MirroredTalks$Pairs" "kindOfOne" "(I)I" ∈ mgood := mgood_in (w := Cond.sameMethod "MirroredTalks$Pairs" "MirroredTalks$Pairs" "kindOfOne" "(I)I") (List.mem_of_getElem? (i := 788) (by decide +kernel)) rfl
theorem wg_789 : Cond.selects RX6 ⟨"MirroredTalks$Pairs", "kindOfOne", "(I)I"⟩ yX2_kindOfOne ∈ mgood := mgood_in (w := Cond.selects RX6 ⟨"MirroredTalks$Pairs", "kindOfOne", "(I)I"⟩ yX2_kindOfOne) (List.mem_of_getElem? (i := 789) (by decide +kernel)) rfl
theorem wg_556 : Cond.instanceMethod yX2_kindOfOne ∈ mgood := mgood_in (w := Cond.instanceMethod yX2_kindOfOne) (List.mem_of_getElem? (i := 556) (by decide +kernel)) rfl
theorem cu_X2_85_X6 : mcU RX2 85 RX6 "MirroredTalks$Pairs" ⟨"MirroredTalks$Pairs", "kindOfOne", "(I)I"⟩ yX2_kindOfOne 1 := ⟨List.forall_mem_cons.mpr ⟨wg_673, List.forall_mem_cons.mpr ⟨wg_788, List.forall_mem_cons.mpr ⟨wg_789, List.forall_mem_cons.mpr ⟨wg_556, List.forall_mem_cons.mpr ⟨wg_19, fun _ h => absurd h List.not_mem_nil⟩⟩⟩⟩⟩, Or.inl rfl, by decide +kernel⟩
theorem wg_790 : Cond.selects RX7 ⟨"MirroredTalks$Pairs", "kindOfOne", "(I)I"⟩ yX2_kindOfOne ∈ mgood := mgood_in (w := Cond.selects RX7 ⟨"MirroredTalks$Pairs", "kindOfOne", "(I)I"⟩ yX2_kindOfOne) (List.mem_of_getElem? (i := 790) (by decide +kernel)) rfl
theorem cu_X2_85_X7 : mcU RX2 85 RX7 "MirroredTalks$Pairs" ⟨"MirroredTalks$Pairs", "kindOfOne", "(I)I"⟩ yX2_kindOfOne 1 := ⟨List.forall_mem_cons.mpr ⟨wg_673, List.forall_mem_cons.mpr ⟨wg_788, List.forall_mem_cons.mpr ⟨wg_790, List.forall_mem_cons.mpr ⟨wg_556, List.forall_mem_cons.mpr ⟨wg_19, fun _ h => absurd h List.not_mem_nil⟩⟩⟩⟩⟩, Or.inl rfl, by decide +kernel⟩
theorem wg_674 : Cond.methodLink RX2 88 ⟨"MirroredTalks$Pairs", "kindOfOther", "(I)I"⟩ ∈ mgood := mgood_in (w := Cond.methodLink RX2 88 ⟨"MirroredTalks$Pairs", "kindOfOther", "(I)I"⟩) (List.mem_of_getElem? (i := 674) (by decide +kernel)) rfl
theorem wg_791 : Cond.sameMethod "MirroredTalks$Pairs" "MirroredTalks$Pairs" "kindOfOther" "(I)I" ∈ mgood := mgood_in (w := Cond.sameMethod "MirroredTalks$Pairs" "MirroredTalks$Pairs" "kindOfOther" "(I)I") (List.mem_of_getElem? (i := 791) (by decide +kernel)) rfl
theorem wg_792 : Cond.selects RX6 ⟨"MirroredTalks$Pairs", "kindOfOther", "(I)I"⟩ yX2_kindOfOther ∈ mgood := mgood_in (w := Cond.selects RX6 ⟨"MirroredTalks$Pairs", "kindOfOther", "(I)I"⟩ yX2_kindOfOther) (List.mem_of_getElem? (i := 792) (by decide +kernel)) rfl
theorem wg_562 : Cond.instanceMethod yX2_kindOfOther ∈ mgood := mgood_in (w := Cond.instanceMethod yX2_kindOfOther) (List.mem_of_getElem? (i := 562) (by decide +kernel)) rfl
theorem cu_X2_88_X6 : mcU RX2 88 RX6 "MirroredTalks$Pairs" ⟨"MirroredTalks$Pairs", "kindOfOther", "(I)I"⟩ yX2_kindOfOther 1 := ⟨List.forall_mem_cons.mpr ⟨wg_674, List.forall_mem_cons.mpr ⟨wg_791, List.forall_mem_cons.mpr ⟨wg_792, List.forall_mem_cons.mpr ⟨wg_562, List.forall_mem_cons.mpr ⟨wg_19, fun _ h => absurd h List.not_mem_nil⟩⟩⟩⟩⟩, Or.inl rfl, by decide +kernel⟩
theorem wg_793 : Cond.selects RX7 ⟨"MirroredTalks$Pairs", "kindOfOther", "(I)I"⟩ yX2_kindOfOther ∈ mgood := mgood_in (w := Cond.selects RX7 ⟨"MirroredTalks$Pairs", "kindOfOther", "(I)I"⟩ yX2_kindOfOther) (List.mem_of_getElem? (i := 793) (by decide +kernel)) rfl
theorem cu_X2_88_X7 : mcU RX2 88 RX7 "MirroredTalks$Pairs" ⟨"MirroredTalks$Pairs", "kindOfOther", "(I)I"⟩ yX2_kindOfOther 1 := ⟨List.forall_mem_cons.mpr ⟨wg_674, List.forall_mem_cons.mpr ⟨wg_791, List.forall_mem_cons.mpr ⟨wg_793, List.forall_mem_cons.mpr ⟨wg_562, List.forall_mem_cons.mpr ⟨wg_19, fun _ h => absurd h List.not_mem_nil⟩⟩⟩⟩⟩, Or.inl rfl, by decide +kernel⟩
theorem wg_675 : Cond.methodLink RX2 91 yX2_lackedWords ∈ mgood := mgood_in (w := Cond.methodLink RX2 91 yX2_lackedWords) (List.mem_of_getElem? (i := 675) (by decide +kernel)) rfl
theorem wg_423 : Cond.static yX2_lackedWords ∈ mgood := mgood_in (w := Cond.static yX2_lackedWords) (List.mem_of_getElem? (i := 423) (by decide +kernel)) rfl
theorem cs_X2_91 : mcS RX2 91 yX2_lackedWords (3) := ⟨wg_675, wg_423, wg_19, by decide +kernel⟩
theorem wn_676 : Cond.methodLinkNest RX2 95 yX8_firstWordIn "MirroredTalks" ∈ mnest := mnest_in (w := Cond.methodLinkNest RX2 95 yX8_firstWordIn "MirroredTalks") (List.mem_of_getElem? (i := 676) (by decide +kernel)) rfl
theorem wg_677 : Cond.static yX8_firstWordIn ∈ mgood := mgood_in (w := Cond.static yX8_firstWordIn) (List.mem_of_getElem? (i := 677) (by decide +kernel)) rfl
theorem cn_X2_95 : mcN RX2 95 yX8_firstWordIn (1) := ⟨⟨_, wn_676⟩, wg_677, wg_14, by decide +kernel⟩
theorem wg_408 : Cond.methodLink RX2 98 ⟨"MirroredTalks$Pairs", "reasonOf", "(I)I"⟩ ∈ mgood := mgood_in (w := Cond.methodLink RX2 98 ⟨"MirroredTalks$Pairs", "reasonOf", "(I)I"⟩) (List.mem_of_getElem? (i := 408) (by decide +kernel)) rfl
theorem wg_410 : Cond.sameMethod "MirroredTalks$Pairs" "MirroredTalks$Pairs" "reasonOf" "(I)I" ∈ mgood := mgood_in (w := Cond.sameMethod "MirroredTalks$Pairs" "MirroredTalks$Pairs" "reasonOf" "(I)I") (List.mem_of_getElem? (i := 410) (by decide +kernel)) rfl
theorem wg_411 : Cond.selects RX6 ⟨"MirroredTalks$Pairs", "reasonOf", "(I)I"⟩ yX2_reasonOf ∈ mgood := mgood_in (w := Cond.selects RX6 ⟨"MirroredTalks$Pairs", "reasonOf", "(I)I"⟩ yX2_reasonOf) (List.mem_of_getElem? (i := 411) (by decide +kernel)) rfl
theorem wg_409 : Cond.instanceMethod yX2_reasonOf ∈ mgood := mgood_in (w := Cond.instanceMethod yX2_reasonOf) (List.mem_of_getElem? (i := 409) (by decide +kernel)) rfl
theorem cu_X2_98_X6 : mcU RX2 98 RX6 "MirroredTalks$Pairs" ⟨"MirroredTalks$Pairs", "reasonOf", "(I)I"⟩ yX2_reasonOf 1 := ⟨List.forall_mem_cons.mpr ⟨wg_408, List.forall_mem_cons.mpr ⟨wg_410, List.forall_mem_cons.mpr ⟨wg_411, List.forall_mem_cons.mpr ⟨wg_409, List.forall_mem_cons.mpr ⟨wg_19, fun _ h => absurd h List.not_mem_nil⟩⟩⟩⟩⟩, Or.inl rfl, by decide +kernel⟩
theorem wg_412 : Cond.selects RX7 ⟨"MirroredTalks$Pairs", "reasonOf", "(I)I"⟩ yX2_reasonOf ∈ mgood := mgood_in (w := Cond.selects RX7 ⟨"MirroredTalks$Pairs", "reasonOf", "(I)I"⟩ yX2_reasonOf) (List.mem_of_getElem? (i := 412) (by decide +kernel)) rfl
theorem cu_X2_98_X7 : mcU RX2 98 RX7 "MirroredTalks$Pairs" ⟨"MirroredTalks$Pairs", "reasonOf", "(I)I"⟩ yX2_reasonOf 1 := ⟨List.forall_mem_cons.mpr ⟨wg_408, List.forall_mem_cons.mpr ⟨wg_410, List.forall_mem_cons.mpr ⟨wg_412, List.forall_mem_cons.mpr ⟨wg_409, List.forall_mem_cons.mpr ⟨wg_19, fun _ h => absurd h List.not_mem_nil⟩⟩⟩⟩⟩, Or.inl rfl, by decide +kernel⟩
theorem wx_4 : Cond.selects RX6 yX2_firstLackedWord yX2_firstLackedWord ∈ mgood := mgood_inx (List.mem_of_getElem? (i := 4) rfl) rfl
theorem wg_669 : Cond.methodLink RX2 101 ⟨"MirroredTalks$Pairs", "firstLackedWord", "(I)I"⟩ ∈ mgood := mgood_in (w := Cond.methodLink RX2 101 ⟨"MirroredTalks$Pairs", "firstLackedWord", "(I)I"⟩) (List.mem_of_getElem? (i := 669) (by decide +kernel)) rfl
theorem wg_787 : Cond.sameMethod "MirroredTalks$Pairs" "MirroredTalks$Pairs" "firstLackedWord" "(I)I" ∈ mgood := mgood_in (w := Cond.sameMethod "MirroredTalks$Pairs" "MirroredTalks$Pairs" "firstLackedWord" "(I)I") (List.mem_of_getElem? (i := 787) (by decide +kernel)) rfl
theorem wg_671 : Cond.instanceMethod yX2_firstLackedWord ∈ mgood := mgood_in (w := Cond.instanceMethod yX2_firstLackedWord) (List.mem_of_getElem? (i := 671) (by decide +kernel)) rfl
theorem cu_X2_101_X6 : mcU RX2 101 RX6 "MirroredTalks$Pairs" ⟨"MirroredTalks$Pairs", "firstLackedWord", "(I)I"⟩ yX2_firstLackedWord 1 := ⟨List.forall_mem_cons.mpr ⟨wg_669, List.forall_mem_cons.mpr ⟨wg_787, List.forall_mem_cons.mpr ⟨wx_4, List.forall_mem_cons.mpr ⟨wg_671, List.forall_mem_cons.mpr ⟨wg_19, fun _ h => absurd h List.not_mem_nil⟩⟩⟩⟩⟩, Or.inl rfl, by decide +kernel⟩
theorem wx_5 : Cond.selects RX7 yX2_firstLackedWord yX2_firstLackedWord ∈ mgood := mgood_inx (List.mem_of_getElem? (i := 5) rfl) rfl
theorem cu_X2_101_X7 : mcU RX2 101 RX7 "MirroredTalks$Pairs" ⟨"MirroredTalks$Pairs", "firstLackedWord", "(I)I"⟩ yX2_firstLackedWord 1 := ⟨List.forall_mem_cons.mpr ⟨wg_669, List.forall_mem_cons.mpr ⟨wg_787, List.forall_mem_cons.mpr ⟨wx_5, List.forall_mem_cons.mpr ⟨wg_671, List.forall_mem_cons.mpr ⟨wg_19, fun _ h => absurd h List.not_mem_nil⟩⟩⟩⟩⟩, Or.inl rfl, by decide +kernel⟩
theorem wn_679 : Cond.methodLinkNest RX2 104 yX8_foundOr "MirroredTalks" ∈ mnest := mnest_in (w := Cond.methodLinkNest RX2 104 yX8_foundOr "MirroredTalks") (List.mem_of_getElem? (i := 679) (by decide +kernel)) rfl
theorem cn_X2_104 : mcN RX2 104 yX8_foundOr (1) := ⟨⟨_, wn_679⟩, wg_342, wg_14, by decide +kernel⟩
theorem wx_6 : Cond.selects RX6 yX2_wordOfRow yX2_wordOfRow ∈ mgood := mgood_inx (List.mem_of_getElem? (i := 6) rfl) rfl
theorem wg_680 : Cond.methodLink RX2 107 ⟨"MirroredTalks$Pairs", "wordOfRow", "(II)I"⟩ ∈ mgood := mgood_in (w := Cond.methodLink RX2 107 ⟨"MirroredTalks$Pairs", "wordOfRow", "(II)I"⟩) (List.mem_of_getElem? (i := 680) (by decide +kernel)) rfl
theorem wg_794 : Cond.sameMethod "MirroredTalks$Pairs" "MirroredTalks$Pairs" "wordOfRow" "(II)I" ∈ mgood := mgood_in (w := Cond.sameMethod "MirroredTalks$Pairs" "MirroredTalks$Pairs" "wordOfRow" "(II)I") (List.mem_of_getElem? (i := 794) (by decide +kernel)) rfl
theorem wg_682 : Cond.instanceMethod yX2_wordOfRow ∈ mgood := mgood_in (w := Cond.instanceMethod yX2_wordOfRow) (List.mem_of_getElem? (i := 682) (by decide +kernel)) rfl
theorem cu_X2_107_X6 : mcU RX2 107 RX6 "MirroredTalks$Pairs" ⟨"MirroredTalks$Pairs", "wordOfRow", "(II)I"⟩ yX2_wordOfRow 2 := ⟨List.forall_mem_cons.mpr ⟨wg_680, List.forall_mem_cons.mpr ⟨wg_794, List.forall_mem_cons.mpr ⟨wx_6, List.forall_mem_cons.mpr ⟨wg_682, List.forall_mem_cons.mpr ⟨wg_19, fun _ h => absurd h List.not_mem_nil⟩⟩⟩⟩⟩, Or.inl rfl, by decide +kernel⟩
theorem wx_7 : Cond.selects RX7 yX2_wordOfRow yX2_wordOfRow ∈ mgood := mgood_inx (List.mem_of_getElem? (i := 7) rfl) rfl
theorem cu_X2_107_X7 : mcU RX2 107 RX7 "MirroredTalks$Pairs" ⟨"MirroredTalks$Pairs", "wordOfRow", "(II)I"⟩ yX2_wordOfRow 2 := ⟨List.forall_mem_cons.mpr ⟨wg_680, List.forall_mem_cons.mpr ⟨wg_794, List.forall_mem_cons.mpr ⟨wx_7, List.forall_mem_cons.mpr ⟨wg_682, List.forall_mem_cons.mpr ⟨wg_19, fun _ h => absurd h List.not_mem_nil⟩⟩⟩⟩⟩, Or.inl rfl, by decide +kernel⟩
theorem wg_41 : Cond.methodLink RX3 15 yX3_clear ∈ mgood := mgood_in (w := Cond.methodLink RX3 15 yX3_clear) (List.mem_of_getElem? (i := 41) (by decide +kernel)) rfl
theorem wg_42 : Cond.instanceMethod yX3_clear ∈ mgood := mgood_in (w := Cond.instanceMethod yX3_clear) (List.mem_of_getElem? (i := 42) (by decide +kernel)) rfl
theorem wg_43 : Cond.selects RX3 yX3_clear yX3_clear ∈ mgood := mgood_in (w := Cond.selects RX3 yX3_clear yX3_clear) (List.mem_of_getElem? (i := 43) (by decide +kernel)) rfl
theorem cv_X3_15 : mcV RX3 15 yX3_clear 0 := ⟨wg_41, wg_42, wg_43, wg_15, by decide +kernel⟩
theorem wg_45 : Cond.methodLink RX3 18 yX3_setKind ∈ mgood := mgood_in (w := Cond.methodLink RX3 18 yX3_setKind) (List.mem_of_getElem? (i := 45) (by decide +kernel)) rfl
theorem cv_X3_18 : mcV RX3 18 yX3_setKind 2 := ⟨wg_45, wg_46, wg_47, wg_15, by decide +kernel⟩
theorem wg_52 : Cond.methodLink RX3 22 yX3_setTarget ∈ mgood := mgood_in (w := Cond.methodLink RX3 22 yX3_setTarget) (List.mem_of_getElem? (i := 52) (by decide +kernel)) rfl
theorem cv_X3_22 : mcV RX3 22 yX3_setTarget 3 := ⟨wg_52, wg_53, wg_54, wg_15, by decide +kernel⟩
theorem wn_49 : Cond.methodLinkNest RX3 26 yX8_isState "MirroredTalks" ∈ mnest := mnest_in (w := Cond.methodLinkNest RX3 26 yX8_isState "MirroredTalks") (List.mem_of_getElem? (i := 49) (by decide +kernel)) rfl
theorem cn_X3_26 : mcN RX3 26 yX8_isState (1) := ⟨⟨_, wn_49⟩, wg_50, wg_14, by decide +kernel⟩
theorem wn_56 : Cond.methodLinkNest RX3 30 yX8_isWord "MirroredTalks" ∈ mnest := mnest_in (w := Cond.methodLinkNest RX3 30 yX8_isWord "MirroredTalks") (List.mem_of_getElem? (i := 56) (by decide +kernel)) rfl
theorem cn_X3_30 : mcN RX3 30 yX8_isWord (1) := ⟨⟨_, wn_56⟩, wg_57, wg_14, by decide +kernel⟩
theorem wg_262 : Cond.methodLink RX3 33 yX3_targetOf ∈ mgood := mgood_in (w := Cond.methodLink RX3 33 yX3_targetOf) (List.mem_of_getElem? (i := 262) (by decide +kernel)) rfl
theorem cv_X3_33 : mcV RX3 33 yX3_targetOf 2 := ⟨wg_262, wg_263, wg_264, wg_15, by decide +kernel⟩
theorem wg_434 : Cond.methodLink RX3 37 yX3_wordsOf ∈ mgood := mgood_in (w := Cond.methodLink RX3 37 yX3_wordsOf) (List.mem_of_getElem? (i := 434) (by decide +kernel)) rfl
theorem cv_X3_37 : mcV RX3 37 yX3_wordsOf 1 := ⟨wg_434, wg_259, wg_260, wg_15, by decide +kernel⟩
theorem wg_435 : Cond.methodLink RX3 41 yJ6_bitCount_0f7a4 ∈ mgood := mgood_in (w := Cond.methodLink RX3 41 yJ6_bitCount_0f7a4) (List.mem_of_getElem? (i := 435) (by decide +kernel)) rfl
theorem cs_X3_41 : mcS RX3 41 yJ6_bitCount_0f7a4 (1) := ⟨wg_435, wg_267, wg_24, by decide +kernel⟩
theorem wg_290 : Cond.methodLink RX3 46 yX3_kindOf ∈ mgood := mgood_in (w := Cond.methodLink RX3 46 yX3_kindOf) (List.mem_of_getElem? (i := 290) (by decide +kernel)) rfl
theorem cv_X3_46 : mcV RX3 46 yX3_kindOf 1 := ⟨wg_290, wg_248, wg_249, wg_15, by decide +kernel⟩
theorem wn_334 : Cond.methodLinkNest RX3 49 yX8_holds "MirroredTalks" ∈ mnest := mnest_in (w := Cond.methodLinkNest RX3 49 yX8_holds "MirroredTalks") (List.mem_of_getElem? (i := 334) (by decide +kernel)) rfl
theorem cn_X3_49 : mcN RX3 49 yX8_holds (2) := ⟨⟨_, wn_334⟩, wg_335, wg_14, by decide +kernel⟩
theorem wg_337 : Cond.methodLink RX3 53 yX3_statesBehind ∈ mgood := mgood_in (w := Cond.methodLink RX3 53 yX3_statesBehind) (List.mem_of_getElem? (i := 337) (by decide +kernel)) rfl
theorem wg_339 : Cond.instanceMethod yX3_statesBehind ∈ mgood := mgood_in (w := Cond.instanceMethod yX3_statesBehind) (List.mem_of_getElem? (i := 339) (by decide +kernel)) rfl
theorem wg_5 : Cond.selects RX3 yX3_statesBehind yX3_statesBehind ∈ mgood := mgood_in (w := Cond.selects RX3 yX3_statesBehind yX3_statesBehind) (List.mem_of_getElem? (i := 5) (by decide +kernel)) rfl
theorem cv_X3_53 : mcV RX3 53 yX3_statesBehind 1 := ⟨wg_337, wg_339, wg_5, wg_15, by decide +kernel⟩
theorem wg_508 : Cond.methodLink RX4 29 yJ6_bitCount_0f7a4 ∈ mgood := mgood_in (w := Cond.methodLink RX4 29 yJ6_bitCount_0f7a4) (List.mem_of_getElem? (i := 508) (by decide +kernel)) rfl
theorem cs_X4_29 : mcS RX4 29 yJ6_bitCount_0f7a4 (1) := ⟨wg_508, wg_267, wg_24, by decide +kernel⟩
theorem wg_472 : Cond.methodLink RX4 44 yX3_clear ∈ mgood := mgood_in (w := Cond.methodLink RX4 44 yX3_clear) (List.mem_of_getElem? (i := 472) (by decide +kernel)) rfl
theorem cv_X4_44 : mcV RX4 44 yX3_clear 0 := ⟨wg_472, wg_42, wg_43, wg_15, by decide +kernel⟩
theorem wg_473 : Cond.methodLink RX4 47 yX4_setFault ∈ mgood := mgood_in (w := Cond.methodLink RX4 47 yX4_setFault) (List.mem_of_getElem? (i := 473) (by decide +kernel)) rfl
theorem wg_475 : Cond.instanceMethod yX4_setFault ∈ mgood := mgood_in (w := Cond.instanceMethod yX4_setFault) (List.mem_of_getElem? (i := 475) (by decide +kernel)) rfl
theorem wg_6 : Cond.selects RX4 yX4_setFault yX4_setFault ∈ mgood := mgood_in (w := Cond.selects RX4 yX4_setFault yX4_setFault) (List.mem_of_getElem? (i := 6) (by decide +kernel)) rfl
theorem cv_X4_47 : mcV RX4 47 yX4_setFault 3 := ⟨wg_473, wg_475, wg_6, wg_17, by decide +kernel⟩
theorem wg_477 : Cond.methodLink RX4 51 yX4_isFaulty ∈ mgood := mgood_in (w := Cond.methodLink RX4 51 yX4_isFaulty) (List.mem_of_getElem? (i := 477) (by decide +kernel)) rfl
theorem cv_X4_51 : mcV RX4 51 yX4_isFaulty 0 := ⟨wg_477, wg_478, wg_479, wg_17, by decide +kernel⟩
theorem wg_481 : Cond.methodLink RX4 55 yX4_characterAt ∈ mgood := mgood_in (w := Cond.methodLink RX4 55 yX4_characterAt) (List.mem_of_getElem? (i := 481) (by decide +kernel)) rfl
theorem wg_483 : Cond.instanceMethod yX4_characterAt ∈ mgood := mgood_in (w := Cond.instanceMethod yX4_characterAt) (List.mem_of_getElem? (i := 483) (by decide +kernel)) rfl
theorem wg_7 : Cond.selects RX4 yX4_characterAt yX4_characterAt ∈ mgood := mgood_in (w := Cond.selects RX4 yX4_characterAt yX4_characterAt) (List.mem_of_getElem? (i := 7) (by decide +kernel)) rfl
theorem cv_X4_55 : mcV RX4 55 yX4_characterAt 1 := ⟨wg_481, wg_483, wg_7, wg_17, by decide +kernel⟩
theorem wg_486 : Cond.methodLink RX4 58 yX4_after ∈ mgood := mgood_in (w := Cond.methodLink RX4 58 yX4_after) (List.mem_of_getElem? (i := 486) (by decide +kernel)) rfl
theorem wg_487 : Cond.static yX4_after ∈ mgood := mgood_in (w := Cond.static yX4_after) (List.mem_of_getElem? (i := 487) (by decide +kernel)) rfl
theorem cs_X4_58 : mcS RX4 58 yX4_after (2) := ⟨wg_486, wg_487, wg_17, by decide +kernel⟩
theorem wg_491 : Cond.methodLink RX4 62 yX4_takeState ∈ mgood := mgood_in (w := Cond.methodLink RX4 62 yX4_takeState) (List.mem_of_getElem? (i := 491) (by decide +kernel)) rfl
theorem wg_493 : Cond.instanceMethod yX4_takeState ∈ mgood := mgood_in (w := Cond.instanceMethod yX4_takeState) (List.mem_of_getElem? (i := 493) (by decide +kernel)) rfl
theorem wg_8 : Cond.selects RX4 yX4_takeState yX4_takeState ∈ mgood := mgood_in (w := Cond.selects RX4 yX4_takeState yX4_takeState) (List.mem_of_getElem? (i := 8) (by decide +kernel)) rfl
theorem cv_X4_62 : mcV RX4 62 yX4_takeState 2 := ⟨wg_491, wg_493, wg_8, wg_17, by decide +kernel⟩
theorem wn_489 : Cond.methodLinkNest RX4 66 yX8_isState "MirroredTalks" ∈ mnest := mnest_in (w := Cond.methodLinkNest RX4 66 yX8_isState "MirroredTalks") (List.mem_of_getElem? (i := 489) (by decide +kernel)) rfl
theorem cn_X4_66 : mcN RX4 66 yX8_isState (1) := ⟨⟨_, wn_489⟩, wg_50, wg_14, by decide +kernel⟩
theorem wn_490 : Cond.methodLinkNest RX4 70 yX8_isWord "MirroredTalks" ∈ mnest := mnest_in (w := Cond.methodLinkNest RX4 70 yX8_isWord "MirroredTalks") (List.mem_of_getElem? (i := 490) (by decide +kernel)) rfl
theorem cn_X4_70 : mcN RX4 70 yX8_isWord (1) := ⟨⟨_, wn_490⟩, wg_57, wg_14, by decide +kernel⟩
theorem wn_495 : Cond.methodLinkNest RX4 73 yX8_holds "MirroredTalks" ∈ mnest := mnest_in (w := Cond.methodLinkNest RX4 73 yX8_holds "MirroredTalks") (List.mem_of_getElem? (i := 495) (by decide +kernel)) rfl
theorem cn_X4_73 : mcN RX4 73 yX8_holds (2) := ⟨⟨_, wn_495⟩, wg_335, wg_14, by decide +kernel⟩
theorem wg_496 : Cond.methodLink RX4 77 yX3_setKind ∈ mgood := mgood_in (w := Cond.methodLink RX4 77 yX3_setKind) (List.mem_of_getElem? (i := 496) (by decide +kernel)) rfl
theorem cv_X4_77 : mcV RX4 77 yX3_setKind 2 := ⟨wg_496, wg_46, wg_47, wg_15, by decide +kernel⟩
theorem wg_497 : Cond.methodLink RX4 80 yX3_targetOf ∈ mgood := mgood_in (w := Cond.methodLink RX4 80 yX3_targetOf) (List.mem_of_getElem? (i := 497) (by decide +kernel)) rfl
theorem cv_X4_80 : mcV RX4 80 yX3_targetOf 2 := ⟨wg_497, wg_263, wg_264, wg_15, by decide +kernel⟩
theorem wg_498 : Cond.methodLink RX4 83 yX3_setTarget ∈ mgood := mgood_in (w := Cond.methodLink RX4 83 yX3_setTarget) (List.mem_of_getElem? (i := 498) (by decide +kernel)) rfl
theorem cv_X4_83 : mcV RX4 83 yX3_setTarget 3 := ⟨wg_498, wg_53, wg_54, wg_15, by decide +kernel⟩
theorem wn_485 : Cond.methodLinkNest RX4 86 yX8_cellOf "MirroredTalks" ∈ mnest := mnest_in (w := Cond.methodLinkNest RX4 86 yX8_cellOf "MirroredTalks") (List.mem_of_getElem? (i := 485) (by decide +kernel)) rfl
theorem cn_X4_86 : mcN RX4 86 yX8_cellOf (2) := ⟨⟨_, wn_485⟩, wg_377, wg_14, by decide +kernel⟩
theorem wg_568 : Cond.methodLink RX5 22 yX5_countWays ∈ mgood := mgood_in (w := Cond.methodLink RX5 22 yX5_countWays) (List.mem_of_getElem? (i := 568) (by decide +kernel)) rfl
theorem wg_570 : Cond.instanceMethod yX5_countWays ∈ mgood := mgood_in (w := Cond.instanceMethod yX5_countWays) (List.mem_of_getElem? (i := 570) (by decide +kernel)) rfl
theorem wg_9 : Cond.selects RX5 yX5_countWays yX5_countWays ∈ mgood := mgood_in (w := Cond.selects RX5 yX5_countWays yX5_countWays) (List.mem_of_getElem? (i := 9) (by decide +kernel)) rfl
theorem cv_X5_22 : mcV RX5 22 yX5_countWays 1 := ⟨wg_568, wg_570, wg_9, wg_21, by decide +kernel⟩
theorem wg_586 : Cond.methodLink RX5 26 yX5_setReady ∈ mgood := mgood_in (w := Cond.methodLink RX5 26 yX5_setReady) (List.mem_of_getElem? (i := 586) (by decide +kernel)) rfl
theorem wg_588 : Cond.instanceMethod yX5_setReady ∈ mgood := mgood_in (w := Cond.instanceMethod yX5_setReady) (List.mem_of_getElem? (i := 588) (by decide +kernel)) rfl
theorem wg_10 : Cond.selects RX5 yX5_setReady yX5_setReady ∈ mgood := mgood_in (w := Cond.selects RX5 yX5_setReady yX5_setReady) (List.mem_of_getElem? (i := 10) (by decide +kernel)) rfl
theorem cv_X5_26 : mcV RX5 26 yX5_setReady 1 := ⟨wg_586, wg_588, wg_10, wg_21, by decide +kernel⟩
theorem wg_590 : Cond.methodLink RX5 34 yX7_isEnd ∈ mgood := mgood_in (w := Cond.methodLink RX5 34 yX7_isEnd) (List.mem_of_getElem? (i := 590) (by decide +kernel)) rfl
theorem wg_549 : Cond.instanceMethod yX7_isEnd ∈ mgood := mgood_in (w := Cond.instanceMethod yX7_isEnd) (List.mem_of_getElem? (i := 549) (by decide +kernel)) rfl
theorem wg_550 : Cond.selects RX7 yX7_isEnd yX7_isEnd ∈ mgood := mgood_in (w := Cond.selects RX7 yX7_isEnd yX7_isEnd) (List.mem_of_getElem? (i := 550) (by decide +kernel)) rfl
theorem cv_X5_34 : mcV RX5 34 yX7_isEnd 1 := ⟨wg_590, wg_549, wg_550, wg_20, by decide +kernel⟩
theorem wg_591 : Cond.methodLink RX5 40 yX5_rowsTo ∈ mgood := mgood_in (w := Cond.methodLink RX5 40 yX5_rowsTo) (List.mem_of_getElem? (i := 591) (by decide +kernel)) rfl
theorem wg_593 : Cond.instanceMethod yX5_rowsTo ∈ mgood := mgood_in (w := Cond.instanceMethod yX5_rowsTo) (List.mem_of_getElem? (i := 593) (by decide +kernel)) rfl
theorem wg_11 : Cond.selects RX5 yX5_rowsTo yX5_rowsTo ∈ mgood := mgood_in (w := Cond.selects RX5 yX5_rowsTo yX5_rowsTo) (List.mem_of_getElem? (i := 11) (by decide +kernel)) rfl
theorem cv_X5_40 : mcV RX5 40 yX5_rowsTo 1 := ⟨wg_591, wg_593, wg_11, wg_21, by decide +kernel⟩
theorem wg_595 : Cond.methodLink RX5 44 yX5_capped ∈ mgood := mgood_in (w := Cond.methodLink RX5 44 yX5_capped) (List.mem_of_getElem? (i := 595) (by decide +kernel)) rfl
theorem wg_596 : Cond.static yX5_capped ∈ mgood := mgood_in (w := Cond.static yX5_capped) (List.mem_of_getElem? (i := 596) (by decide +kernel)) rfl
theorem cs_X5_44 : mcS RX5 44 yX5_capped (1) := ⟨wg_595, wg_596, wg_21, by decide +kernel⟩
theorem wg_577 : Cond.methodLink RX5 48 ⟨"MirroredTalks$TalkPairs", "positionBehind", "(II)I"⟩ ∈ mgood := mgood_in (w := Cond.methodLink RX5 48 ⟨"MirroredTalks$TalkPairs", "positionBehind", "(II)I"⟩) (List.mem_of_getElem? (i := 577) (by decide +kernel)) rfl
theorem wg_578 : Cond.sameMethod "MirroredTalks$TalkPairs" "MirroredTalks$Pairs" "positionBehind" "(II)I" ∈ mgood := mgood_in (w := Cond.sameMethod "MirroredTalks$TalkPairs" "MirroredTalks$Pairs" "positionBehind" "(II)I") (List.mem_of_getElem? (i := 578) (by decide +kernel)) rfl
theorem wg_580 : Cond.selects RX7 ⟨"MirroredTalks$TalkPairs", "positionBehind", "(II)I"⟩ yX2_positionBehind ∈ mgood := mgood_in (w := Cond.selects RX7 ⟨"MirroredTalks$TalkPairs", "positionBehind", "(II)I"⟩ yX2_positionBehind) (List.mem_of_getElem? (i := 580) (by decide +kernel)) rfl
theorem wg_581 : Cond.instanceMethod yX2_positionBehind ∈ mgood := mgood_in (w := Cond.instanceMethod yX2_positionBehind) (List.mem_of_getElem? (i := 581) (by decide +kernel)) rfl
theorem cu_X5_48_X7 : mcU RX5 48 RX7 "MirroredTalks$Pairs" ⟨"MirroredTalks$TalkPairs", "positionBehind", "(II)I"⟩ yX2_positionBehind 2 := ⟨List.forall_mem_cons.mpr ⟨wg_577, List.forall_mem_cons.mpr ⟨wg_578, List.forall_mem_cons.mpr ⟨wg_580, List.forall_mem_cons.mpr ⟨wg_581, List.forall_mem_cons.mpr ⟨wg_19, fun _ h => absurd h List.not_mem_nil⟩⟩⟩⟩⟩, Or.inl rfl, by decide +kernel⟩
theorem wg_602 : Cond.methodLink RX5 52 yX5_goAlong ∈ mgood := mgood_in (w := Cond.methodLink RX5 52 yX5_goAlong) (List.mem_of_getElem? (i := 602) (by decide +kernel)) rfl
theorem wg_604 : Cond.instanceMethod yX5_goAlong ∈ mgood := mgood_in (w := Cond.instanceMethod yX5_goAlong) (List.mem_of_getElem? (i := 604) (by decide +kernel)) rfl
theorem wg_12 : Cond.selects RX5 yX5_goAlong yX5_goAlong ∈ mgood := mgood_in (w := Cond.selects RX5 yX5_goAlong yX5_goAlong) (List.mem_of_getElem? (i := 12) (by decide +kernel)) rfl
theorem cv_X5_52 : mcV RX5 52 yX5_goAlong 2 := ⟨wg_602, wg_604, wg_12, wg_21, by decide +kernel⟩
theorem wg_576 : Cond.methodLink RX5 56 ⟨"MirroredTalks$TalkPairs", "size", "()I"⟩ ∈ mgood := mgood_in (w := Cond.methodLink RX5 56 ⟨"MirroredTalks$TalkPairs", "size", "()I"⟩) (List.mem_of_getElem? (i := 576) (by decide +kernel)) rfl
theorem cu_X5_56_X7 : mcU RX5 56 RX7 "MirroredTalks$Pairs" ⟨"MirroredTalks$TalkPairs", "size", "()I"⟩ yX2_size 0 := ⟨List.forall_mem_cons.mpr ⟨wg_576, List.forall_mem_cons.mpr ⟨wg_530, List.forall_mem_cons.mpr ⟨wg_532, List.forall_mem_cons.mpr ⟨wg_533, List.forall_mem_cons.mpr ⟨wg_19, fun _ h => absurd h List.not_mem_nil⟩⟩⟩⟩⟩, Or.inl rfl, by decide +kernel⟩
theorem wg_572 : Cond.methodLink RX5 62 yJ7_fill_53178 ∈ mgood := mgood_in (w := Cond.methodLink RX5 62 yJ7_fill_53178) (List.mem_of_getElem? (i := 572) (by decide +kernel)) rfl
theorem cs_X5_62 : mcS RX5 62 yJ7_fill_53178 (2) := ⟨wg_572, wg_360, wg_25, by decide +kernel⟩
theorem wg_573 : Cond.methodLink RX5 68 yJ7_fill_d0a16 ∈ mgood := mgood_in (w := Cond.methodLink RX5 68 yJ7_fill_d0a16) (List.mem_of_getElem? (i := 573) (by decide +kernel)) rfl
theorem wg_574 : Cond.static yJ7_fill_d0a16 ∈ mgood := mgood_in (w := Cond.static yJ7_fill_d0a16) (List.mem_of_getElem? (i := 574) (by decide +kernel)) rfl
theorem cs_X5_68 : mcS RX5 68 yJ7_fill_d0a16 (2) := ⟨wg_573, wg_574, wg_25, by decide +kernel⟩
theorem wg_583 : Cond.methodLink RX5 71 yX5_isPosition ∈ mgood := mgood_in (w := Cond.methodLink RX5 71 yX5_isPosition) (List.mem_of_getElem? (i := 583) (by decide +kernel)) rfl
theorem wg_584 : Cond.static yX5_isPosition ∈ mgood := mgood_in (w := Cond.static yX5_isPosition) (List.mem_of_getElem? (i := 584) (by decide +kernel)) rfl
theorem cs_X5_71 : mcS RX5 71 yX5_isPosition (1) := ⟨wg_583, wg_584, wg_21, by decide +kernel⟩
theorem wg_599 : Cond.methodLink RX5 76 yJ9_min_f86c9 ∈ mgood := mgood_in (w := Cond.methodLink RX5 76 yJ9_min_f86c9) (List.mem_of_getElem? (i := 599) (by decide +kernel)) rfl
theorem wg_600 : Cond.static yJ9_min_f86c9 ∈ mgood := mgood_in (w := Cond.static yJ9_min_f86c9) (List.mem_of_getElem? (i := 600) (by decide +kernel)) rfl
theorem wg_26 : Cond.initialized RJ9 ∈ mgood := mgood_in (w := Cond.initialized RJ9) (List.mem_of_getElem? (i := 26) (by decide +kernel)) rfl
theorem cs_X5_76 : mcS RX5 76 yJ9_min_f86c9 (2) := ⟨wg_599, wg_600, wg_26, by decide +kernel⟩
theorem wg_421 : Cond.methodLink RX6 11 ⟨"MirroredTalks$StandInPairs", "lackedWords", "(III)I"⟩ ∈ mgood := mgood_in (w := Cond.methodLink RX6 11 ⟨"MirroredTalks$StandInPairs", "lackedWords", "(III)I"⟩) (List.mem_of_getElem? (i := 421) (by decide +kernel)) rfl
theorem wg_422 : Cond.sameMethod "MirroredTalks$StandInPairs" RX2 "lackedWords" "(III)I" ∈ mgood := mgood_in (w := Cond.sameMethod "MirroredTalks$StandInPairs" RX2 "lackedWords" "(III)I") (List.mem_of_getElem? (i := 422) (by decide +kernel)) rfl
theorem ct_X6_11 : mcT RX6 11 ⟨"MirroredTalks$StandInPairs", "lackedWords", "(III)I"⟩ yX2_lackedWords 3 := ⟨wg_421, wg_422, rfl, wg_423, wg_19, by decide +kernel⟩
theorem wg_428 : Cond.methodLink RX7 11 ⟨"MirroredTalks$TalkPairs", "lackedWords", "(III)I"⟩ ∈ mgood := mgood_in (w := Cond.methodLink RX7 11 ⟨"MirroredTalks$TalkPairs", "lackedWords", "(III)I"⟩) (List.mem_of_getElem? (i := 428) (by decide +kernel)) rfl
theorem wg_429 : Cond.sameMethod "MirroredTalks$TalkPairs" RX2 "lackedWords" "(III)I" ∈ mgood := mgood_in (w := Cond.sameMethod "MirroredTalks$TalkPairs" RX2 "lackedWords" "(III)I") (List.mem_of_getElem? (i := 429) (by decide +kernel)) rfl
theorem ct_X7_11 : mcT RX7 11 ⟨"MirroredTalks$TalkPairs", "lackedWords", "(III)I"⟩ yX2_lackedWords 3 := ⟨wg_428, wg_429, rfl, wg_423, wg_19, by decide +kernel⟩
theorem wg_552 : Cond.methodLink RX7 15 ⟨"MirroredTalks$TalkPairs", "kindOfOne", "(I)I"⟩ ∈ mgood := mgood_in (w := Cond.methodLink RX7 15 ⟨"MirroredTalks$TalkPairs", "kindOfOne", "(I)I"⟩) (List.mem_of_getElem? (i := 552) (by decide +kernel)) rfl
theorem wg_553 : Cond.sameMethod "MirroredTalks$TalkPairs" "MirroredTalks$Pairs" "kindOfOne" "(I)I" ∈ mgood := mgood_in (w := Cond.sameMethod "MirroredTalks$TalkPairs" "MirroredTalks$Pairs" "kindOfOne" "(I)I") (List.mem_of_getElem? (i := 553) (by decide +kernel)) rfl
theorem wg_555 : Cond.selects RX7 ⟨"MirroredTalks$TalkPairs", "kindOfOne", "(I)I"⟩ yX2_kindOfOne ∈ mgood := mgood_in (w := Cond.selects RX7 ⟨"MirroredTalks$TalkPairs", "kindOfOne", "(I)I"⟩ yX2_kindOfOne) (List.mem_of_getElem? (i := 555) (by decide +kernel)) rfl
theorem cu_X7_15_X7 : mcU RX7 15 RX7 "MirroredTalks$Pairs" ⟨"MirroredTalks$TalkPairs", "kindOfOne", "(I)I"⟩ yX2_kindOfOne 1 := ⟨List.forall_mem_cons.mpr ⟨wg_552, List.forall_mem_cons.mpr ⟨wg_553, List.forall_mem_cons.mpr ⟨wg_555, List.forall_mem_cons.mpr ⟨wg_556, List.forall_mem_cons.mpr ⟨wg_19, fun _ h => absurd h List.not_mem_nil⟩⟩⟩⟩⟩, Or.inl rfl, by decide +kernel⟩
theorem wg_558 : Cond.methodLink RX7 19 ⟨"MirroredTalks$TalkPairs", "kindOfOther", "(I)I"⟩ ∈ mgood := mgood_in (w := Cond.methodLink RX7 19 ⟨"MirroredTalks$TalkPairs", "kindOfOther", "(I)I"⟩) (List.mem_of_getElem? (i := 558) (by decide +kernel)) rfl
theorem wg_559 : Cond.sameMethod "MirroredTalks$TalkPairs" "MirroredTalks$Pairs" "kindOfOther" "(I)I" ∈ mgood := mgood_in (w := Cond.sameMethod "MirroredTalks$TalkPairs" "MirroredTalks$Pairs" "kindOfOther" "(I)I") (List.mem_of_getElem? (i := 559) (by decide +kernel)) rfl
theorem wg_561 : Cond.selects RX7 ⟨"MirroredTalks$TalkPairs", "kindOfOther", "(I)I"⟩ yX2_kindOfOther ∈ mgood := mgood_in (w := Cond.selects RX7 ⟨"MirroredTalks$TalkPairs", "kindOfOther", "(I)I"⟩ yX2_kindOfOther) (List.mem_of_getElem? (i := 561) (by decide +kernel)) rfl
theorem cu_X7_19_X7 : mcU RX7 19 RX7 "MirroredTalks$Pairs" ⟨"MirroredTalks$TalkPairs", "kindOfOther", "(I)I"⟩ yX2_kindOfOther 1 := ⟨List.forall_mem_cons.mpr ⟨wg_558, List.forall_mem_cons.mpr ⟨wg_559, List.forall_mem_cons.mpr ⟨wg_561, List.forall_mem_cons.mpr ⟨wg_562, List.forall_mem_cons.mpr ⟨wg_19, fun _ h => absurd h List.not_mem_nil⟩⟩⟩⟩⟩, Or.inl rfl, by decide +kernel⟩
theorem wg_539 : Cond.methodLink RX7 22 ⟨"MirroredTalks$TalkPairs", "size", "()I"⟩ ∈ mgood := mgood_in (w := Cond.methodLink RX7 22 ⟨"MirroredTalks$TalkPairs", "size", "()I"⟩) (List.mem_of_getElem? (i := 539) (by decide +kernel)) rfl
theorem cu_X7_22_X7 : mcU RX7 22 RX7 "MirroredTalks$Pairs" ⟨"MirroredTalks$TalkPairs", "size", "()I"⟩ yX2_size 0 := ⟨List.forall_mem_cons.mpr ⟨wg_539, List.forall_mem_cons.mpr ⟨wg_530, List.forall_mem_cons.mpr ⟨wg_532, List.forall_mem_cons.mpr ⟨wg_533, List.forall_mem_cons.mpr ⟨wg_19, fun _ h => absurd h List.not_mem_nil⟩⟩⟩⟩⟩, Or.inl rfl, by decide +kernel⟩
theorem wg_540 : Cond.methodLink RX7 26 ⟨"MirroredTalks$TalkPairs", "reasonOf", "(I)I"⟩ ∈ mgood := mgood_in (w := Cond.methodLink RX7 26 ⟨"MirroredTalks$TalkPairs", "reasonOf", "(I)I"⟩) (List.mem_of_getElem? (i := 540) (by decide +kernel)) rfl
theorem wg_541 : Cond.sameMethod "MirroredTalks$TalkPairs" "MirroredTalks$Pairs" "reasonOf" "(I)I" ∈ mgood := mgood_in (w := Cond.sameMethod "MirroredTalks$TalkPairs" "MirroredTalks$Pairs" "reasonOf" "(I)I") (List.mem_of_getElem? (i := 541) (by decide +kernel)) rfl
theorem wg_543 : Cond.selects RX7 ⟨"MirroredTalks$TalkPairs", "reasonOf", "(I)I"⟩ yX2_reasonOf ∈ mgood := mgood_in (w := Cond.selects RX7 ⟨"MirroredTalks$TalkPairs", "reasonOf", "(I)I"⟩ yX2_reasonOf) (List.mem_of_getElem? (i := 543) (by decide +kernel)) rfl
theorem cu_X7_26_X7 : mcU RX7 26 RX7 "MirroredTalks$Pairs" ⟨"MirroredTalks$TalkPairs", "reasonOf", "(I)I"⟩ yX2_reasonOf 1 := ⟨List.forall_mem_cons.mpr ⟨wg_540, List.forall_mem_cons.mpr ⟨wg_541, List.forall_mem_cons.mpr ⟨wg_543, List.forall_mem_cons.mpr ⟨wg_409, List.forall_mem_cons.mpr ⟨wg_19, fun _ h => absurd h List.not_mem_nil⟩⟩⟩⟩⟩, Or.inl rfl, by decide +kernel⟩
theorem wg_548 : Cond.methodLink RX7 29 yX7_isEnd ∈ mgood := mgood_in (w := Cond.methodLink RX7 29 yX7_isEnd) (List.mem_of_getElem? (i := 548) (by decide +kernel)) rfl
theorem cv_X7_29 : mcV RX7 29 yX7_isEnd 1 := ⟨wg_548, wg_549, wg_550, wg_20, by decide +kernel⟩
theorem wg_612 : Cond.methodLink RX7 33 ⟨"MirroredTalks$TalkPairs", "lengthOf", "(I)I"⟩ ∈ mgood := mgood_in (w := Cond.methodLink RX7 33 ⟨"MirroredTalks$TalkPairs", "lengthOf", "(I)I"⟩) (List.mem_of_getElem? (i := 612) (by decide +kernel)) rfl
theorem cu_X7_33_X7 : mcU RX7 33 RX7 "MirroredTalks$Pairs" ⟨"MirroredTalks$TalkPairs", "lengthOf", "(I)I"⟩ yX2_lengthOf 1 := ⟨List.forall_mem_cons.mpr ⟨wg_612, List.forall_mem_cons.mpr ⟨wg_613, List.forall_mem_cons.mpr ⟨wg_615, List.forall_mem_cons.mpr ⟨wg_397, List.forall_mem_cons.mpr ⟨wg_19, fun _ h => absurd h List.not_mem_nil⟩⟩⟩⟩⟩, Or.inl rfl, by decide +kernel⟩
theorem wg_620 : Cond.methodLink RX7 36 ⟨"MirroredTalks$TalkPairs", "stateOfOne", "(I)I"⟩ ∈ mgood := mgood_in (w := Cond.methodLink RX7 36 ⟨"MirroredTalks$TalkPairs", "stateOfOne", "(I)I"⟩) (List.mem_of_getElem? (i := 620) (by decide +kernel)) rfl
theorem cu_X7_36_X7 : mcU RX7 36 RX7 "MirroredTalks$Pairs" ⟨"MirroredTalks$TalkPairs", "stateOfOne", "(I)I"⟩ yX2_stateOfOne 1 := ⟨List.forall_mem_cons.mpr ⟨wg_620, List.forall_mem_cons.mpr ⟨wg_621, List.forall_mem_cons.mpr ⟨wg_623, List.forall_mem_cons.mpr ⟨wg_371, List.forall_mem_cons.mpr ⟨wg_19, fun _ h => absurd h List.not_mem_nil⟩⟩⟩⟩⟩, Or.inl rfl, by decide +kernel⟩
theorem wg_628 : Cond.methodLink RX7 39 ⟨"MirroredTalks$TalkPairs", "stateOfOther", "(I)I"⟩ ∈ mgood := mgood_in (w := Cond.methodLink RX7 39 ⟨"MirroredTalks$TalkPairs", "stateOfOther", "(I)I"⟩) (List.mem_of_getElem? (i := 628) (by decide +kernel)) rfl
theorem cu_X7_39_X7 : mcU RX7 39 RX7 "MirroredTalks$Pairs" ⟨"MirroredTalks$TalkPairs", "stateOfOther", "(I)I"⟩ yX2_stateOfOther 1 := ⟨List.forall_mem_cons.mpr ⟨wg_628, List.forall_mem_cons.mpr ⟨wg_629, List.forall_mem_cons.mpr ⟨wg_631, List.forall_mem_cons.mpr ⟨wg_380, List.forall_mem_cons.mpr ⟨wg_19, fun _ h => absurd h List.not_mem_nil⟩⟩⟩⟩⟩, Or.inl rfl, by decide +kernel⟩
theorem wg_299 : Cond.methodLink RL 13 yX8_stateOf ∈ mgood := mgood_in (w := Cond.methodLink RL 13 yX8_stateOf) (List.mem_of_getElem? (i := 299) (by decide +kernel)) rfl
theorem wg_300 : Cond.instanceMethod yX8_stateOf ∈ mgood := mgood_in (w := Cond.instanceMethod yX8_stateOf) (List.mem_of_getElem? (i := 300) (by decide +kernel)) rfl
theorem wg_301 : Cond.selects RX8 yX8_stateOf yX8_stateOf ∈ mgood := mgood_in (w := Cond.selects RX8 yX8_stateOf yX8_stateOf) (List.mem_of_getElem? (i := 301) (by decide +kernel)) rfl
theorem cv_L_13 : mcV RL 13 yX8_stateOf 3 := ⟨wg_299, wg_300, wg_301, wg_14, by decide +kernel⟩
theorem wg_522 : Cond.methodLink RL 19 yX8_talk ∈ mgood := mgood_in (w := Cond.methodLink RL 19 yX8_talk) (List.mem_of_getElem? (i := 522) (by decide +kernel)) rfl
theorem wg_523 : Cond.instanceMethod yX8_talk ∈ mgood := mgood_in (w := Cond.instanceMethod yX8_talk) (List.mem_of_getElem? (i := 523) (by decide +kernel)) rfl
theorem wg_524 : Cond.selects RX8 yX8_talk yX8_talk ∈ mgood := mgood_in (w := Cond.selects RX8 yX8_talk yX8_talk) (List.mem_of_getElem? (i := 524) (by decide +kernel)) rfl
theorem cv_L_19 : mcV RL 19 yX8_talk 3 := ⟨wg_522, wg_523, wg_524, wg_14, by decide +kernel⟩
theorem wg_345 : Cond.methodLink RL 22 yX8_count ∈ mgood := mgood_in (w := Cond.methodLink RL 22 yX8_count) (List.mem_of_getElem? (i := 345) (by decide +kernel)) rfl
theorem wg_346 : Cond.instanceMethod yX8_count ∈ mgood := mgood_in (w := Cond.instanceMethod yX8_count) (List.mem_of_getElem? (i := 346) (by decide +kernel)) rfl
theorem wg_347 : Cond.selects RX8 yX8_count yX8_count ∈ mgood := mgood_in (w := Cond.selects RX8 yX8_count yX8_count) (List.mem_of_getElem? (i := 347) (by decide +kernel)) rfl
theorem cv_L_22 : mcV RL 22 yX8_count 1 := ⟨wg_345, wg_346, wg_347, wg_14, by decide +kernel⟩
theorem wg_215 : Cond.methodLink RL 26 yX8_kind ∈ mgood := mgood_in (w := Cond.methodLink RL 26 yX8_kind) (List.mem_of_getElem? (i := 215) (by decide +kernel)) rfl
theorem wg_216 : Cond.instanceMethod yX8_kind ∈ mgood := mgood_in (w := Cond.instanceMethod yX8_kind) (List.mem_of_getElem? (i := 216) (by decide +kernel)) rfl
theorem wg_217 : Cond.selects RX8 yX8_kind yX8_kind ∈ mgood := mgood_in (w := Cond.selects RX8 yX8_kind yX8_kind) (List.mem_of_getElem? (i := 217) (by decide +kernel)) rfl
theorem cv_L_26 : mcV RL 26 yX8_kind 3 := ⟨wg_215, wg_216, wg_217, wg_14, by decide +kernel⟩
theorem wg_252 : Cond.methodLink RL 32 yX8_arrow ∈ mgood := mgood_in (w := Cond.methodLink RL 32 yX8_arrow) (List.mem_of_getElem? (i := 252) (by decide +kernel)) rfl
theorem wg_253 : Cond.instanceMethod yX8_arrow ∈ mgood := mgood_in (w := Cond.instanceMethod yX8_arrow) (List.mem_of_getElem? (i := 253) (by decide +kernel)) rfl
theorem wg_254 : Cond.selects RX8 yX8_arrow yX8_arrow ∈ mgood := mgood_in (w := Cond.selects RX8 yX8_arrow yX8_arrow) (List.mem_of_getElem? (i := 254) (by decide +kernel)) rfl
theorem cv_L_32 : mcV RL 32 yX8_arrow 4 := ⟨wg_252, wg_253, wg_254, wg_14, by decide +kernel⟩
theorem wg_272 : Cond.methodLink RL 36 yX8_erase ∈ mgood := mgood_in (w := Cond.methodLink RL 36 yX8_erase) (List.mem_of_getElem? (i := 272) (by decide +kernel)) rfl
theorem wg_273 : Cond.instanceMethod yX8_erase ∈ mgood := mgood_in (w := Cond.instanceMethod yX8_erase) (List.mem_of_getElem? (i := 273) (by decide +kernel)) rfl
theorem wg_274 : Cond.selects RX8 yX8_erase yX8_erase ∈ mgood := mgood_in (w := Cond.selects RX8 yX8_erase yX8_erase) (List.mem_of_getElem? (i := 274) (by decide +kernel)) rfl
theorem cv_L_36 : mcV RL 36 yX8_erase 3 := ⟨wg_272, wg_273, wg_274, wg_14, by decide +kernel⟩
theorem wg_278 : Cond.methodLink RL 39 yX8_copy ∈ mgood := mgood_in (w := Cond.methodLink RL 39 yX8_copy) (List.mem_of_getElem? (i := 278) (by decide +kernel)) rfl
theorem wg_279 : Cond.instanceMethod yX8_copy ∈ mgood := mgood_in (w := Cond.instanceMethod yX8_copy) (List.mem_of_getElem? (i := 279) (by decide +kernel)) rfl
theorem wg_280 : Cond.selects RX8 yX8_copy yX8_copy ∈ mgood := mgood_in (w := Cond.selects RX8 yX8_copy yX8_copy) (List.mem_of_getElem? (i := 280) (by decide +kernel)) rfl
theorem cv_L_39 : mcV RL 39 yX8_copy 2 := ⟨wg_278, wg_279, wg_280, wg_14, by decide +kernel⟩
theorem wg_291 : Cond.methodLink RL 43 yX8_mirror ∈ mgood := mgood_in (w := Cond.methodLink RL 43 yX8_mirror) (List.mem_of_getElem? (i := 291) (by decide +kernel)) rfl
theorem wg_292 : Cond.instanceMethod yX8_mirror ∈ mgood := mgood_in (w := Cond.instanceMethod yX8_mirror) (List.mem_of_getElem? (i := 292) (by decide +kernel)) rfl
theorem wg_293 : Cond.selects RX8 yX8_mirror yX8_mirror ∈ mgood := mgood_in (w := Cond.selects RX8 yX8_mirror yX8_mirror) (List.mem_of_getElem? (i := 293) (by decide +kernel)) rfl
theorem cv_L_43 : mcV RL 43 yX8_mirror 1 := ⟨wg_291, wg_292, wg_293, wg_14, by decide +kernel⟩
theorem wg_639 : Cond.methodLink RL 46 yX8_unlike ∈ mgood := mgood_in (w := Cond.methodLink RL 46 yX8_unlike) (List.mem_of_getElem? (i := 639) (by decide +kernel)) rfl
theorem wg_640 : Cond.instanceMethod yX8_unlike ∈ mgood := mgood_in (w := Cond.instanceMethod yX8_unlike) (List.mem_of_getElem? (i := 640) (by decide +kernel)) rfl
theorem wg_641 : Cond.selects RX8 yX8_unlike yX8_unlike ∈ mgood := mgood_in (w := Cond.selects RX8 yX8_unlike yX8_unlike) (List.mem_of_getElem? (i := 641) (by decide +kernel)) rfl
theorem cv_L_46 : mcV RL 46 yX8_unlike 1 := ⟨wg_639, wg_640, wg_641, wg_14, by decide +kernel⟩
theorem wg_464 : Cond.methodLink RL 49 yX8_read ∈ mgood := mgood_in (w := Cond.methodLink RL 49 yX8_read) (List.mem_of_getElem? (i := 464) (by decide +kernel)) rfl
theorem wg_465 : Cond.instanceMethod yX8_read ∈ mgood := mgood_in (w := Cond.instanceMethod yX8_read) (List.mem_of_getElem? (i := 465) (by decide +kernel)) rfl
theorem wg_466 : Cond.selects RX8 yX8_read yX8_read ∈ mgood := mgood_in (w := Cond.selects RX8 yX8_read yX8_read) (List.mem_of_getElem? (i := 466) (by decide +kernel)) rfl
theorem cv_L_49 : mcV RL 49 yX8_read 1 := ⟨wg_464, wg_465, wg_466, wg_14, by decide +kernel⟩
theorem wg_644 : Cond.methodLink RL 52 yX8_pairOf ∈ mgood := mgood_in (w := Cond.methodLink RL 52 yX8_pairOf) (List.mem_of_getElem? (i := 644) (by decide +kernel)) rfl
theorem wg_645 : Cond.instanceMethod yX8_pairOf ∈ mgood := mgood_in (w := Cond.instanceMethod yX8_pairOf) (List.mem_of_getElem? (i := 645) (by decide +kernel)) rfl
theorem wg_646 : Cond.selects RX8 yX8_pairOf yX8_pairOf ∈ mgood := mgood_in (w := Cond.selects RX8 yX8_pairOf yX8_pairOf) (List.mem_of_getElem? (i := 646) (by decide +kernel)) rfl
theorem cv_L_52 : mcV RL 52 yX8_pairOf 4 := ⟨wg_644, wg_645, wg_646, wg_14, by decide +kernel⟩
theorem wg_685 : Cond.methodLink RL 56 yX8_talks ∈ mgood := mgood_in (w := Cond.methodLink RL 56 yX8_talks) (List.mem_of_getElem? (i := 685) (by decide +kernel)) rfl
theorem wg_686 : Cond.instanceMethod yX8_talks ∈ mgood := mgood_in (w := Cond.instanceMethod yX8_talks) (List.mem_of_getElem? (i := 686) (by decide +kernel)) rfl
theorem wg_687 : Cond.selects RX8 yX8_talks yX8_talks ∈ mgood := mgood_in (w := Cond.selects RX8 yX8_talks yX8_talks) (List.mem_of_getElem? (i := 687) (by decide +kernel)) rfl
theorem cv_L_56 : mcV RL 56 yX8_talks 2 := ⟨wg_685, wg_686, wg_687, wg_14, by decide +kernel⟩
theorem wg_694 : Cond.methodLink RL 62 yX8_standsIn ∈ mgood := mgood_in (w := Cond.methodLink RL 62 yX8_standsIn) (List.mem_of_getElem? (i := 694) (by decide +kernel)) rfl
theorem cv_L_62 : mcV RL 62 yX8_standsIn 2 := ⟨wg_694, wg_350, wg_351, wg_14, by decide +kernel⟩
theorem wg_695 : Cond.methodLink RL 65 yX8_against ∈ mgood := mgood_in (w := Cond.methodLink RL 65 yX8_against) (List.mem_of_getElem? (i := 695) (by decide +kernel)) rfl
theorem wg_696 : Cond.instanceMethod yX8_against ∈ mgood := mgood_in (w := Cond.instanceMethod yX8_against) (List.mem_of_getElem? (i := 696) (by decide +kernel)) rfl
theorem wg_697 : Cond.selects RX8 yX8_against yX8_against ∈ mgood := mgood_in (w := Cond.selects RX8 yX8_against yX8_against) (List.mem_of_getElem? (i := 697) (by decide +kernel)) rfl
theorem cv_L_65 : mcV RL 65 yX8_against 3 := ⟨wg_695, wg_696, wg_697, wg_14, by decide +kernel⟩
theorem wg_714 : Cond.methodLink RL 68 yX8_type ∈ mgood := mgood_in (w := Cond.methodLink RL 68 yX8_type) (List.mem_of_getElem? (i := 714) (by decide +kernel)) rfl
theorem wg_715 : Cond.instanceMethod yX8_type ∈ mgood := mgood_in (w := Cond.instanceMethod yX8_type) (List.mem_of_getElem? (i := 715) (by decide +kernel)) rfl
theorem wg_716 : Cond.selects RX8 yX8_type yX8_type ∈ mgood := mgood_in (w := Cond.selects RX8 yX8_type yX8_type) (List.mem_of_getElem? (i := 716) (by decide +kernel)) rfl
theorem cv_L_68 : mcV RL 68 yX8_type 1 := ⟨wg_714, wg_715, wg_716, wg_14, by decide +kernel⟩
theorem wg_727 : Cond.methodLink RL 71 yX8_fault ∈ mgood := mgood_in (w := Cond.methodLink RL 71 yX8_fault) (List.mem_of_getElem? (i := 727) (by decide +kernel)) rfl
theorem wg_728 : Cond.instanceMethod yX8_fault ∈ mgood := mgood_in (w := Cond.instanceMethod yX8_fault) (List.mem_of_getElem? (i := 728) (by decide +kernel)) rfl
theorem wg_729 : Cond.selects RX8 yX8_fault yX8_fault ∈ mgood := mgood_in (w := Cond.selects RX8 yX8_fault yX8_fault) (List.mem_of_getElem? (i := 729) (by decide +kernel)) rfl
theorem cv_L_71 : mcV RL 71 yX8_fault 1 := ⟨wg_727, wg_728, wg_729, wg_14, by decide +kernel⟩
theorem wg_517 : Cond.methodLink RL 74 yL_seen ∈ mgood := mgood_in (w := Cond.methodLink RL 74 yL_seen) (List.mem_of_getElem? (i := 517) (by decide +kernel)) rfl
theorem wg_518 : Cond.static yL_seen ∈ mgood := mgood_in (w := Cond.static yL_seen) (List.mem_of_getElem? (i := 518) (by decide +kernel)) rfl
theorem wg_13 : Cond.initialized RL ∈ mgood := mgood_in (w := Cond.initialized RL) (List.mem_of_getElem? (i := 13) (by decide +kernel)) rfl
theorem cs_L_74 : mcS RL 74 yL_seen (1) := ⟨wg_517, wg_518, wg_13, by decide +kernel⟩
theorem wg_635 : Cond.methodLink RL 78 yL_refusesAny ∈ mgood := mgood_in (w := Cond.methodLink RL 78 yL_refusesAny) (List.mem_of_getElem? (i := 635) (by decide +kernel)) rfl
theorem wg_636 : Cond.static yL_refusesAny ∈ mgood := mgood_in (w := Cond.static yL_refusesAny) (List.mem_of_getElem? (i := 636) (by decide +kernel)) rfl
theorem cs_L_78 : mcS RL 78 yL_refusesAny (2) := ⟨wg_635, wg_636, wg_13, by decide +kernel⟩
theorem wg_743 : Cond.methodLink RL 85 yL_puts ∈ mgood := mgood_in (w := Cond.methodLink RL 85 yL_puts) (List.mem_of_getElem? (i := 743) (by decide +kernel)) rfl
theorem wg_744 : Cond.static yL_puts ∈ mgood := mgood_in (w := Cond.static yL_puts) (List.mem_of_getElem? (i := 744) (by decide +kernel)) rfl
theorem cs_L_85 : mcS RL 85 yL_puts (2) := ⟨wg_743, wg_744, wg_13, by decide +kernel⟩
theorem wg_750 : Cond.methodLink RL 90 yL_faultOf ∈ mgood := mgood_in (w := Cond.methodLink RL 90 yL_faultOf) (List.mem_of_getElem? (i := 750) (by decide +kernel)) rfl
theorem wg_751 : Cond.static yL_faultOf ∈ mgood := mgood_in (w := Cond.static yL_faultOf) (List.mem_of_getElem? (i := 751) (by decide +kernel)) rfl
theorem cs_L_90 : mcS RL 90 yL_faultOf (2) := ⟨wg_750, wg_751, wg_13, by decide +kernel⟩
theorem wg_444 : Cond.methodLink RL 130 yX8_undo ∈ mgood := mgood_in (w := Cond.methodLink RL 130 yX8_undo) (List.mem_of_getElem? (i := 444) (by decide +kernel)) rfl
theorem wg_445 : Cond.instanceMethod yX8_undo ∈ mgood := mgood_in (w := Cond.instanceMethod yX8_undo) (List.mem_of_getElem? (i := 445) (by decide +kernel)) rfl
theorem wg_446 : Cond.selects RX8 yX8_undo yX8_undo ∈ mgood := mgood_in (w := Cond.selects RX8 yX8_undo yX8_undo) (List.mem_of_getElem? (i := 446) (by decide +kernel)) rfl
theorem cv_L_130 : mcV RL 130 yX8_undo 0 := ⟨wg_444, wg_445, wg_446, wg_14, by decide +kernel⟩
theorem wg_632 : Cond.methodLink RL 140 yL_refused ∈ mgood := mgood_in (w := Cond.methodLink RL 140 yL_refused) (List.mem_of_getElem? (i := 632) (by decide +kernel)) rfl
theorem wg_633 : Cond.static yL_refused ∈ mgood := mgood_in (w := Cond.static yL_refused) (List.mem_of_getElem? (i := 633) (by decide +kernel)) rfl
theorem cs_L_140 : mcS RL 140 yL_refused (1) := ⟨wg_632, wg_633, wg_13, by decide +kernel⟩
theorem wg_747 : Cond.methodLink RL 148 yL_texts ∈ mgood := mgood_in (w := Cond.methodLink RL 148 yL_texts) (List.mem_of_getElem? (i := 747) (by decide +kernel)) rfl
theorem wg_748 : Cond.static yL_texts ∈ mgood := mgood_in (w := Cond.static yL_texts) (List.mem_of_getElem? (i := 748) (by decide +kernel)) rfl
theorem cs_L_148 : mcS RL 148 yL_texts (0) := ⟨wg_747, wg_748, wg_13, by decide +kernel⟩
theorem wg_773 : Cond.methodLink RL 152 yL_plans ∈ mgood := mgood_in (w := Cond.methodLink RL 152 yL_plans) (List.mem_of_getElem? (i := 773) (by decide +kernel)) rfl
theorem wg_774 : Cond.static yL_plans ∈ mgood := mgood_in (w := Cond.static yL_plans) (List.mem_of_getElem? (i := 774) (by decide +kernel)) rfl
theorem cs_L_152 : mcS RL 152 yL_plans (0) := ⟨wg_773, wg_774, wg_13, by decide +kernel⟩
theorem wg_779 : Cond.methodLink RL 155 yL_circles ∈ mgood := mgood_in (w := Cond.methodLink RL 155 yL_circles) (List.mem_of_getElem? (i := 779) (by decide +kernel)) rfl
theorem wg_780 : Cond.static yL_circles ∈ mgood := mgood_in (w := Cond.static yL_circles) (List.mem_of_getElem? (i := 780) (by decide +kernel)) rfl
theorem cs_L_155 : mcS RL 155 yL_circles (0) := ⟨wg_779, wg_780, wg_13, by decide +kernel⟩
theorem wg_513 : Cond.methodLink RL 160 yL_drawn ∈ mgood := mgood_in (w := Cond.methodLink RL 160 yL_drawn) (List.mem_of_getElem? (i := 513) (by decide +kernel)) rfl
theorem wg_514 : Cond.static yL_drawn ∈ mgood := mgood_in (w := Cond.static yL_drawn) (List.mem_of_getElem? (i := 514) (by decide +kernel)) rfl
theorem cs_L_160 : mcS RL 160 yL_drawn (2) := ⟨wg_513, wg_514, wg_13, by decide +kernel⟩
theorem wg_509 : Cond.methodLink RL 164 yL_part ∈ mgood := mgood_in (w := Cond.methodLink RL 164 yL_part) (List.mem_of_getElem? (i := 509) (by decide +kernel)) rfl
theorem wg_510 : Cond.static yL_part ∈ mgood := mgood_in (w := Cond.static yL_part) (List.mem_of_getElem? (i := 510) (by decide +kernel)) rfl
theorem cs_L_164 : mcS RL 164 yL_part (2) := ⟨wg_509, wg_510, wg_13, by decide +kernel⟩
theorem wg_456 : Cond.methodLink RL 167 yX8_clearText ∈ mgood := mgood_in (w := Cond.methodLink RL 167 yX8_clearText) (List.mem_of_getElem? (i := 456) (by decide +kernel)) rfl
theorem wg_457 : Cond.instanceMethod yX8_clearText ∈ mgood := mgood_in (w := Cond.instanceMethod yX8_clearText) (List.mem_of_getElem? (i := 457) (by decide +kernel)) rfl
theorem wg_458 : Cond.selects RX8 yX8_clearText yX8_clearText ∈ mgood := mgood_in (w := Cond.selects RX8 yX8_clearText yX8_clearText) (List.mem_of_getElem? (i := 458) (by decide +kernel)) rfl
theorem cv_L_167 : mcV RL 167 yX8_clearText 0 := ⟨wg_456, wg_457, wg_458, wg_14, by decide +kernel⟩
theorem wg_187 : Cond.fieldLink RX8 10 "MirroredTalks" "first" "LMirroredTalks$Plan;" ∈ mgood := mgood_in (w := Cond.fieldLink RX8 10 "MirroredTalks" "first" "LMirroredTalks$Plan;") (List.mem_of_getElem? (i := 187) (by decide +kernel)) rfl
theorem fl_X8_10_7 : mFl RX8 10 7 0 := ⟨RX8, TX8, 9, rfl, by decide, wg_187, fun w h => mgood_in (inX8 w h) (List.all_eq_true.mp (show (u_ws RX8 TX8 9).all goodWord = true by decide +kernel) w h)⟩
theorem wg_188 : Cond.fieldLink RX8 16 "MirroredTalks" "second" "LMirroredTalks$Plan;" ∈ mgood := mgood_in (w := Cond.fieldLink RX8 16 "MirroredTalks" "second" "LMirroredTalks$Plan;") (List.mem_of_getElem? (i := 188) (by decide +kernel)) rfl
theorem fl_X8_16_7 : mFl RX8 16 7 1 := ⟨RX8, TX8, 9, rfl, by decide, wg_188, fun w h => mgood_in (inX8 w h) (List.all_eq_true.mp (show (u_ws RX8 TX8 9).all goodWord = true by decide +kernel) w h)⟩
theorem wg_189 : Cond.fieldLink RX8 19 "MirroredTalks" "third" "LMirroredTalks$Plan;" ∈ mgood := mgood_in (w := Cond.fieldLink RX8 19 "MirroredTalks" "third" "LMirroredTalks$Plan;") (List.mem_of_getElem? (i := 189) (by decide +kernel)) rfl
theorem fl_X8_19_7 : mFl RX8 19 7 2 := ⟨RX8, TX8, 9, rfl, by decide, wg_189, fun w h => mgood_in (inX8 w h) (List.all_eq_true.mp (show (u_ws RX8 TX8 9).all goodWord = true by decide +kernel) w h)⟩
theorem wg_190 : Cond.fieldLink RX8 25 "MirroredTalks" "history" "LMirroredTalks$History;" ∈ mgood := mgood_in (w := Cond.fieldLink RX8 25 "MirroredTalks" "history" "LMirroredTalks$History;") (List.mem_of_getElem? (i := 190) (by decide +kernel)) rfl
theorem fl_X8_25_7 : mFl RX8 25 7 3 := ⟨RX8, TX8, 9, rfl, by decide, wg_190, fun w h => mgood_in (inX8 w h) (List.all_eq_true.mp (show (u_ws RX8 TX8 9).all goodWord = true by decide +kernel) w h)⟩
theorem wg_191 : Cond.fieldLink RX8 32 "MirroredTalks" "text" "LMirroredTalks$PlanText;" ∈ mgood := mgood_in (w := Cond.fieldLink RX8 32 "MirroredTalks" "text" "LMirroredTalks$PlanText;") (List.mem_of_getElem? (i := 191) (by decide +kernel)) rfl
theorem fl_X8_32_7 : mFl RX8 32 7 4 := ⟨RX8, TX8, 9, rfl, by decide, wg_191, fun w h => mgood_in (inX8 w h) (List.all_eq_true.mp (show (u_ws RX8 TX8 9).all goodWord = true by decide +kernel) w h)⟩
theorem wg_192 : Cond.fieldLink RX8 39 "MirroredTalks" "likeness" "LMirroredTalks$Likeness;" ∈ mgood := mgood_in (w := Cond.fieldLink RX8 39 "MirroredTalks" "likeness" "LMirroredTalks$Likeness;") (List.mem_of_getElem? (i := 192) (by decide +kernel)) rfl
theorem fl_X8_39_7 : mFl RX8 39 7 5 := ⟨RX8, TX8, 9, rfl, by decide, wg_192, fun w h => mgood_in (inX8 w h) (List.all_eq_true.mp (show (u_ws RX8 TX8 9).all goodWord = true by decide +kernel) w h)⟩
theorem wg_193 : Cond.fieldLink RX8 48 "MirroredTalks" "talkPairs" "LMirroredTalks$TalkPairs;" ∈ mgood := mgood_in (w := Cond.fieldLink RX8 48 "MirroredTalks" "talkPairs" "LMirroredTalks$TalkPairs;") (List.mem_of_getElem? (i := 193) (by decide +kernel)) rfl
theorem fl_X8_48_7 : mFl RX8 48 7 6 := ⟨RX8, TX8, 9, rfl, by decide, wg_193, fun w h => mgood_in (inX8 w h) (List.all_eq_true.mp (show (u_ws RX8 TX8 9).all goodWord = true by decide +kernel) w h)⟩
theorem wg_194 : Cond.fieldLink RX8 55 "MirroredTalks" "rowCount" "LMirroredTalks$RowCount;" ∈ mgood := mgood_in (w := Cond.fieldLink RX8 55 "MirroredTalks" "rowCount" "LMirroredTalks$RowCount;") (List.mem_of_getElem? (i := 194) (by decide +kernel)) rfl
theorem fl_X8_55_7 : mFl RX8 55 7 7 := ⟨RX8, TX8, 9, rfl, by decide, wg_194, fun w h => mgood_in (inX8 w h) (List.all_eq_true.mp (show (u_ws RX8 TX8 9).all goodWord = true by decide +kernel) w h)⟩
theorem wg_195 : Cond.fieldLink RX8 62 "MirroredTalks" "standInPairs" "LMirroredTalks$StandInPairs;" ∈ mgood := mgood_in (w := Cond.fieldLink RX8 62 "MirroredTalks" "standInPairs" "LMirroredTalks$StandInPairs;") (List.mem_of_getElem? (i := 195) (by decide +kernel)) rfl
theorem fl_X8_62_7 : mFl RX8 62 7 8 := ⟨RX8, TX8, 9, rfl, by decide, wg_195, fun w h => mgood_in (inX8 w h) (List.all_eq_true.mp (show (u_ws RX8 TX8 9).all goodWord = true by decide +kernel) w h)⟩
theorem kI_X8_76 : Cond.constant RX8 76 (mI (-1000001)) ∈ mgood := mgood_in (List.mem_of_getElem? (i := 226) (by decide +kernel)) rfl
theorem kI_X8_111 : Cond.constant RX8 111 (mI (-1000002)) ∈ mgood := mgood_in (List.mem_of_getElem? (i := 277) (by decide +kernel)) rfl
theorem kI_X8_151 : Cond.constant RX8 151 (mI (-1000004)) ∈ mgood := mgood_in (List.mem_of_getElem? (i := 344) (by decide +kernel)) rfl
theorem kJ_X8_177 : Cond.constantLong RX8 177 (mJ (-1)) ∈ mgood := mgood_in (List.mem_of_getElem? (i := 607) (by decide +kernel)) rfl
theorem kJ_X8_188 : Cond.constantLong RX8 188 (mJ (-1000001)) ∈ mgood := mgood_in (List.mem_of_getElem? (i := 689) (by decide +kernel)) rfl
theorem kJ_X8_190 : Cond.constantLong RX8 190 (mJ (-1000002)) ∈ mgood := mgood_in (List.mem_of_getElem? (i := 690) (by decide +kernel)) rfl
theorem kJ_X8_192 : Cond.constantLong RX8 192 (mJ (1000000000000000)) ∈ mgood := mgood_in (List.mem_of_getElem? (i := 691) (by decide +kernel)) rfl
theorem kJ_X8_194 : Cond.constantLong RX8 194 (mJ (-1000003)) ∈ mgood := mgood_in (List.mem_of_getElem? (i := 692) (by decide +kernel)) rfl
theorem kI_X8_221 : Cond.constant RX8 221 (mI (-1000003)) ∈ mgood := mgood_in (List.mem_of_getElem? (i := 722) (by decide +kernel)) rfl
theorem wg_70 : Cond.fieldLink RX0 11 "MirroredTalks$History" "entries" "[I" ∈ mgood := mgood_in (w := Cond.fieldLink RX0 11 "MirroredTalks$History" "entries" "[I") (List.mem_of_getElem? (i := 70) (by decide +kernel)) rfl
theorem fl_X0_11_0 : mFl RX0 11 0 0 := ⟨RX0, TX0, 2, rfl, by decide, wg_70, fun w h => mgood_in (inX0 w h) (List.all_eq_true.mp (show (u_ws RX0 TX0 2).all goodWord = true by decide +kernel) w h)⟩
theorem wg_71 : Cond.fieldLink RX0 15 "MirroredTalks$History" "size" "I" ∈ mgood := mgood_in (w := Cond.fieldLink RX0 15 "MirroredTalks$History" "size" "I") (List.mem_of_getElem? (i := 71) (by decide +kernel)) rfl
theorem fl_X0_15_0 : mFl RX0 15 0 1 := ⟨RX0, TX0, 2, rfl, by decide, wg_71, fun w h => mgood_in (inX0 w h) (List.all_eq_true.mp (show (u_ws RX0 TX0 2).all goodWord = true by decide +kernel) w h)⟩
theorem fp_X0_15_0 : mFp RX0 15 0 1 .int := ⟨RX0, TX0, 2, tyX0, rfl, by decide, wg_71, fun w h => mgood_in (inX0 w h) (List.all_eq_true.mp (show (u_ws RX0 TX0 2).all goodWord = true by decide +kernel) w h), tyX0_ok, nmX0, rfl, by decide +kernel⟩
theorem wg_113 : Cond.fieldLink RX1 9 "MirroredTalks$Likeness" "alike" "[Z" ∈ mgood := mgood_in (w := Cond.fieldLink RX1 9 "MirroredTalks$Likeness" "alike" "[Z") (List.mem_of_getElem? (i := 113) (by decide +kernel)) rfl
theorem fl_X1_9_1 : mFl RX1 9 1 0 := ⟨RX1, TX1, 1, rfl, by decide, wg_113, fun w h => mgood_in (inX1 w h) (List.all_eq_true.mp (show (u_ws RX1 TX1 1).all goodWord = true by decide +kernel) w h)⟩
theorem wg_127 : Cond.fieldLink RX2 9 "MirroredTalks$Pairs" "pairs" "[I" ∈ mgood := mgood_in (w := Cond.fieldLink RX2 9 "MirroredTalks$Pairs" "pairs" "[I") (List.mem_of_getElem? (i := 127) (by decide +kernel)) rfl
theorem fl_X2_9_5 : mFl RX2 9 5 0 := ⟨RX6, TX6, 8, rfl, by decide, wg_127, fun w h => mgood_in (inX6 w h) (List.all_eq_true.mp (show (u_ws RX6 TX6 8).all goodWord = true by decide +kernel) w h)⟩
theorem fl_X2_9_6 : mFl RX2 9 6 0 := ⟨RX7, TX7, 8, rfl, by decide, wg_127, fun w h => mgood_in (inX7 w h) (List.all_eq_true.mp (show (u_ws RX7 TX7 8).all goodWord = true by decide +kernel) w h)⟩
theorem wg_128 : Cond.fieldLink RX2 15 "MirroredTalks$Pairs" "positions" "[I" ∈ mgood := mgood_in (w := Cond.fieldLink RX2 15 "MirroredTalks$Pairs" "positions" "[I") (List.mem_of_getElem? (i := 128) (by decide +kernel)) rfl
theorem fl_X2_15_5 : mFl RX2 15 5 1 := ⟨RX6, TX6, 8, rfl, by decide, wg_128, fun w h => mgood_in (inX6 w h) (List.all_eq_true.mp (show (u_ws RX6 TX6 8).all goodWord = true by decide +kernel) w h)⟩
theorem fl_X2_15_6 : mFl RX2 15 6 1 := ⟨RX7, TX7, 8, rfl, by decide, wg_128, fun w h => mgood_in (inX7 w h) (List.all_eq_true.mp (show (u_ws RX7 TX7 8).all goodWord = true by decide +kernel) w h)⟩
theorem wg_129 : Cond.fieldLink RX2 18 "MirroredTalks$Pairs" "lengths" "[I" ∈ mgood := mgood_in (w := Cond.fieldLink RX2 18 "MirroredTalks$Pairs" "lengths" "[I") (List.mem_of_getElem? (i := 129) (by decide +kernel)) rfl
theorem fl_X2_18_5 : mFl RX2 18 5 2 := ⟨RX6, TX6, 8, rfl, by decide, wg_129, fun w h => mgood_in (inX6 w h) (List.all_eq_true.mp (show (u_ws RX6 TX6 8).all goodWord = true by decide +kernel) w h)⟩
theorem fl_X2_18_6 : mFl RX2 18 6 2 := ⟨RX7, TX7, 8, rfl, by decide, wg_129, fun w h => mgood_in (inX7 w h) (List.all_eq_true.mp (show (u_ws RX7 TX7 8).all goodWord = true by decide +kernel) w h)⟩
theorem wg_130 : Cond.fieldLink RX2 21 "MirroredTalks$Pairs" "origins" "[I" ∈ mgood := mgood_in (w := Cond.fieldLink RX2 21 "MirroredTalks$Pairs" "origins" "[I") (List.mem_of_getElem? (i := 130) (by decide +kernel)) rfl
theorem fl_X2_21_5 : mFl RX2 21 5 3 := ⟨RX6, TX6, 8, rfl, by decide, wg_130, fun w h => mgood_in (inX6 w h) (List.all_eq_true.mp (show (u_ws RX6 TX6 8).all goodWord = true by decide +kernel) w h)⟩
theorem fl_X2_21_6 : mFl RX2 21 6 3 := ⟨RX7, TX7, 8, rfl, by decide, wg_130, fun w h => mgood_in (inX7 w h) (List.all_eq_true.mp (show (u_ws RX7 TX7 8).all goodWord = true by decide +kernel) w h)⟩
theorem wg_131 : Cond.fieldLink RX2 24 "MirroredTalks$Pairs" "lastWords" "[I" ∈ mgood := mgood_in (w := Cond.fieldLink RX2 24 "MirroredTalks$Pairs" "lastWords" "[I") (List.mem_of_getElem? (i := 131) (by decide +kernel)) rfl
theorem fl_X2_24_5 : mFl RX2 24 5 4 := ⟨RX6, TX6, 8, rfl, by decide, wg_131, fun w h => mgood_in (inX6 w h) (List.all_eq_true.mp (show (u_ws RX6 TX6 8).all goodWord = true by decide +kernel) w h)⟩
theorem fl_X2_24_6 : mFl RX2 24 6 4 := ⟨RX7, TX7, 8, rfl, by decide, wg_131, fun w h => mgood_in (inX7 w h) (List.all_eq_true.mp (show (u_ws RX7 TX7 8).all goodWord = true by decide +kernel) w h)⟩
theorem wg_132 : Cond.fieldLink RX2 27 "MirroredTalks$Pairs" "one" "LMirroredTalks$Plan;" ∈ mgood := mgood_in (w := Cond.fieldLink RX2 27 "MirroredTalks$Pairs" "one" "LMirroredTalks$Plan;") (List.mem_of_getElem? (i := 132) (by decide +kernel)) rfl
theorem fl_X2_27_5 : mFl RX2 27 5 5 := ⟨RX6, TX6, 8, rfl, by decide, wg_132, fun w h => mgood_in (inX6 w h) (List.all_eq_true.mp (show (u_ws RX6 TX6 8).all goodWord = true by decide +kernel) w h)⟩
theorem fp_X2_27_5 : mFp RX2 27 5 5 (.object "MirroredTalks$Plan") := ⟨RX6, TX6, 8, tyX6, rfl, by decide, wg_132, fun w h => mgood_in (inX6 w h) (List.all_eq_true.mp (show (u_ws RX6 TX6 8).all goodWord = true by decide +kernel) w h), tyX6_ok, nmX6, rfl, by decide +kernel⟩
theorem fl_X2_27_6 : mFl RX2 27 6 5 := ⟨RX7, TX7, 8, rfl, by decide, wg_132, fun w h => mgood_in (inX7 w h) (List.all_eq_true.mp (show (u_ws RX7 TX7 8).all goodWord = true by decide +kernel) w h)⟩
theorem fp_X2_27_6 : mFp RX2 27 6 5 (.object "MirroredTalks$Plan") := ⟨RX7, TX7, 8, tyX7, rfl, by decide, wg_132, fun w h => mgood_in (inX7 w h) (List.all_eq_true.mp (show (u_ws RX7 TX7 8).all goodWord = true by decide +kernel) w h), tyX7_ok, nmX7, rfl, by decide +kernel⟩
theorem wg_133 : Cond.fieldLink RX2 31 "MirroredTalks$Pairs" "other" "LMirroredTalks$Plan;" ∈ mgood := mgood_in (w := Cond.fieldLink RX2 31 "MirroredTalks$Pairs" "other" "LMirroredTalks$Plan;") (List.mem_of_getElem? (i := 133) (by decide +kernel)) rfl
theorem fl_X2_31_5 : mFl RX2 31 5 6 := ⟨RX6, TX6, 8, rfl, by decide, wg_133, fun w h => mgood_in (inX6 w h) (List.all_eq_true.mp (show (u_ws RX6 TX6 8).all goodWord = true by decide +kernel) w h)⟩
theorem fp_X2_31_5 : mFp RX2 31 5 6 (.object "MirroredTalks$Plan") := ⟨RX6, TX6, 8, tyX6, rfl, by decide, wg_133, fun w h => mgood_in (inX6 w h) (List.all_eq_true.mp (show (u_ws RX6 TX6 8).all goodWord = true by decide +kernel) w h), tyX6_ok, nmX6, rfl, by decide +kernel⟩
theorem fl_X2_31_6 : mFl RX2 31 6 6 := ⟨RX7, TX7, 8, rfl, by decide, wg_133, fun w h => mgood_in (inX7 w h) (List.all_eq_true.mp (show (u_ws RX7 TX7 8).all goodWord = true by decide +kernel) w h)⟩
theorem fp_X2_31_6 : mFp RX2 31 6 6 (.object "MirroredTalks$Plan") := ⟨RX7, TX7, 8, tyX7, rfl, by decide, wg_133, fun w h => mgood_in (inX7 w h) (List.all_eq_true.mp (show (u_ws RX7 TX7 8).all goodWord = true by decide +kernel) w h), tyX7_ok, nmX7, rfl, by decide +kernel⟩
theorem wg_134 : Cond.fieldLink RX2 40 "MirroredTalks$Pairs" "size" "I" ∈ mgood := mgood_in (w := Cond.fieldLink RX2 40 "MirroredTalks$Pairs" "size" "I") (List.mem_of_getElem? (i := 134) (by decide +kernel)) rfl
theorem fl_X2_40_5 : mFl RX2 40 5 7 := ⟨RX6, TX6, 8, rfl, by decide, wg_134, fun w h => mgood_in (inX6 w h) (List.all_eq_true.mp (show (u_ws RX6 TX6 8).all goodWord = true by decide +kernel) w h)⟩
theorem fp_X2_40_5 : mFp RX2 40 5 7 .int := ⟨RX6, TX6, 8, tyX6, rfl, by decide, wg_134, fun w h => mgood_in (inX6 w h) (List.all_eq_true.mp (show (u_ws RX6 TX6 8).all goodWord = true by decide +kernel) w h), tyX6_ok, nmX6, rfl, by decide +kernel⟩
theorem fl_X2_40_6 : mFl RX2 40 6 7 := ⟨RX7, TX7, 8, rfl, by decide, wg_134, fun w h => mgood_in (inX7 w h) (List.all_eq_true.mp (show (u_ws RX7 TX7 8).all goodWord = true by decide +kernel) w h)⟩
theorem fp_X2_40_6 : mFp RX2 40 6 7 .int := ⟨RX7, TX7, 8, tyX7, rfl, by decide, wg_134, fun w h => mgood_in (inX7 w h) (List.all_eq_true.mp (show (u_ws RX7 TX7 8).all goodWord = true by decide +kernel) w h), tyX7_ok, nmX7, rfl, by decide +kernel⟩
theorem wg_59 : Cond.fieldLink RX3 11 "MirroredTalks$Plan" "cells" "[I" ∈ mgood := mgood_in (w := Cond.fieldLink RX3 11 "MirroredTalks$Plan" "cells" "[I") (List.mem_of_getElem? (i := 59) (by decide +kernel)) rfl
theorem fl_X3_11_2 : mFl RX3 11 2 0 := ⟨RX3, TX3, 1, rfl, by decide, wg_59, fun w h => mgood_in (inX3 w h) (List.all_eq_true.mp (show (u_ws RX3 TX3 1).all goodWord = true by decide +kernel) w h)⟩
theorem wg_85 : Cond.fieldLink RX4 11 "MirroredTalks$PlanText" "characters" "[I" ∈ mgood := mgood_in (w := Cond.fieldLink RX4 11 "MirroredTalks$PlanText" "characters" "[I") (List.mem_of_getElem? (i := 85) (by decide +kernel)) rfl
theorem fl_X4_11_3 : mFl RX4 11 3 0 := ⟨RX4, TX4, 7, rfl, by decide, wg_85, fun w h => mgood_in (inX4 w h) (List.all_eq_true.mp (show (u_ws RX4 TX4 7).all goodWord = true by decide +kernel) w h)⟩
theorem wg_87 : Cond.fieldLink RX4 18 "MirroredTalks$PlanText" "draft" "LMirroredTalks$Plan;" ∈ mgood := mgood_in (w := Cond.fieldLink RX4 18 "MirroredTalks$PlanText" "draft" "LMirroredTalks$Plan;") (List.mem_of_getElem? (i := 87) (by decide +kernel)) rfl
theorem fl_X4_18_3 : mFl RX4 18 3 2 := ⟨RX4, TX4, 7, rfl, by decide, wg_87, fun w h => mgood_in (inX4 w h) (List.all_eq_true.mp (show (u_ws RX4 TX4 7).all goodWord = true by decide +kernel) w h)⟩
theorem wg_86 : Cond.fieldLink RX4 22 "MirroredTalks$PlanText" "length" "I" ∈ mgood := mgood_in (w := Cond.fieldLink RX4 22 "MirroredTalks$PlanText" "length" "I") (List.mem_of_getElem? (i := 86) (by decide +kernel)) rfl
theorem fl_X4_22_3 : mFl RX4 22 3 1 := ⟨RX4, TX4, 7, rfl, by decide, wg_86, fun w h => mgood_in (inX4 w h) (List.all_eq_true.mp (show (u_ws RX4 TX4 7).all goodWord = true by decide +kernel) w h)⟩
theorem fp_X4_22_3 : mFp RX4 22 3 1 .int := ⟨RX4, TX4, 7, tyX4, rfl, by decide, wg_86, fun w h => mgood_in (inX4 w h) (List.all_eq_true.mp (show (u_ws RX4 TX4 7).all goodWord = true by decide +kernel) w h), tyX4_ok, nmX4, rfl, by decide +kernel⟩
theorem wg_88 : Cond.fieldLink RX4 26 "MirroredTalks$PlanText" "told" "I" ∈ mgood := mgood_in (w := Cond.fieldLink RX4 26 "MirroredTalks$PlanText" "told" "I") (List.mem_of_getElem? (i := 88) (by decide +kernel)) rfl
theorem fl_X4_26_3 : mFl RX4 26 3 3 := ⟨RX4, TX4, 7, rfl, by decide, wg_88, fun w h => mgood_in (inX4 w h) (List.all_eq_true.mp (show (u_ws RX4 TX4 7).all goodWord = true by decide +kernel) w h)⟩
theorem fp_X4_26_3 : mFp RX4 26 3 3 .int := ⟨RX4, TX4, 7, tyX4, rfl, by decide, wg_88, fun w h => mgood_in (inX4 w h) (List.all_eq_true.mp (show (u_ws RX4 TX4 7).all goodWord = true by decide +kernel) w h), tyX4_ok, nmX4, rfl, by decide +kernel⟩
theorem wg_90 : Cond.fieldLink RX4 35 "MirroredTalks$PlanText" "faultReason" "I" ∈ mgood := mgood_in (w := Cond.fieldLink RX4 35 "MirroredTalks$PlanText" "faultReason" "I") (List.mem_of_getElem? (i := 90) (by decide +kernel)) rfl
theorem fl_X4_35_3 : mFl RX4 35 3 5 := ⟨RX4, TX4, 7, rfl, by decide, wg_90, fun w h => mgood_in (inX4 w h) (List.all_eq_true.mp (show (u_ws RX4 TX4 7).all goodWord = true by decide +kernel) w h)⟩
theorem fp_X4_35_3 : mFp RX4 35 3 5 .int := ⟨RX4, TX4, 7, tyX4, rfl, by decide, wg_90, fun w h => mgood_in (inX4 w h) (List.all_eq_true.mp (show (u_ws RX4 TX4 7).all goodWord = true by decide +kernel) w h), tyX4_ok, nmX4, rfl, by decide +kernel⟩
theorem wg_89 : Cond.fieldLink RX4 38 "MirroredTalks$PlanText" "faultPosition" "I" ∈ mgood := mgood_in (w := Cond.fieldLink RX4 38 "MirroredTalks$PlanText" "faultPosition" "I") (List.mem_of_getElem? (i := 89) (by decide +kernel)) rfl
theorem fl_X4_38_3 : mFl RX4 38 3 4 := ⟨RX4, TX4, 7, rfl, by decide, wg_89, fun w h => mgood_in (inX4 w h) (List.all_eq_true.mp (show (u_ws RX4 TX4 7).all goodWord = true by decide +kernel) w h)⟩
theorem fp_X4_38_3 : mFp RX4 38 3 4 .int := ⟨RX4, TX4, 7, tyX4, rfl, by decide, wg_89, fun w h => mgood_in (inX4 w h) (List.all_eq_true.mp (show (u_ws RX4 TX4 7).all goodWord = true by decide +kernel) w h), tyX4_ok, nmX4, rfl, by decide +kernel⟩
theorem wg_91 : Cond.fieldLink RX4 41 "MirroredTalks$PlanText" "faultCause" "I" ∈ mgood := mgood_in (w := Cond.fieldLink RX4 41 "MirroredTalks$PlanText" "faultCause" "I") (List.mem_of_getElem? (i := 91) (by decide +kernel)) rfl
theorem fl_X4_41_3 : mFl RX4 41 3 6 := ⟨RX4, TX4, 7, rfl, by decide, wg_91, fun w h => mgood_in (inX4 w h) (List.all_eq_true.mp (show (u_ws RX4 TX4 7).all goodWord = true by decide +kernel) w h)⟩
theorem fp_X4_41_3 : mFp RX4 41 3 6 .int := ⟨RX4, TX4, 7, tyX4, rfl, by decide, wg_91, fun w h => mgood_in (inX4 w h) (List.all_eq_true.mp (show (u_ws RX4 TX4 7).all goodWord = true by decide +kernel) w h), tyX4_ok, nmX4, rfl, by decide +kernel⟩
theorem wg_158 : Cond.fieldLink RX5 9 "MirroredTalks$RowCount" "openWays" "[I" ∈ mgood := mgood_in (w := Cond.fieldLink RX5 9 "MirroredTalks$RowCount" "openWays" "[I") (List.mem_of_getElem? (i := 158) (by decide +kernel)) rfl
theorem fl_X5_9_4 : mFl RX5 9 4 0 := ⟨RX5, TX5, 4, rfl, by decide, wg_158, fun w h => mgood_in (inX5 w h) (List.all_eq_true.mp (show (u_ws RX5 TX5 4).all goodWord = true by decide +kernel) w h)⟩
theorem wg_159 : Cond.fieldLink RX5 15 "MirroredTalks$RowCount" "rows" "[J" ∈ mgood := mgood_in (w := Cond.fieldLink RX5 15 "MirroredTalks$RowCount" "rows" "[J") (List.mem_of_getElem? (i := 159) (by decide +kernel)) rfl
theorem fl_X5_15_4 : mFl RX5 15 4 1 := ⟨RX5, TX5, 4, rfl, by decide, wg_159, fun w h => mgood_in (inX5 w h) (List.all_eq_true.mp (show (u_ws RX5 TX5 4).all goodWord = true by decide +kernel) w h)⟩
theorem wg_160 : Cond.fieldLink RX5 19 "MirroredTalks$RowCount" "ready" "[I" ∈ mgood := mgood_in (w := Cond.fieldLink RX5 19 "MirroredTalks$RowCount" "ready" "[I") (List.mem_of_getElem? (i := 160) (by decide +kernel)) rfl
theorem fl_X5_19_4 : mFl RX5 19 4 2 := ⟨RX5, TX5, 4, rfl, by decide, wg_160, fun w h => mgood_in (inX5 w h) (List.all_eq_true.mp (show (u_ws RX5 TX5 4).all goodWord = true by decide +kernel) w h)⟩
theorem wg_161 : Cond.fieldLink RX5 30 "MirroredTalks$RowCount" "readySize" "I" ∈ mgood := mgood_in (w := Cond.fieldLink RX5 30 "MirroredTalks$RowCount" "readySize" "I") (List.mem_of_getElem? (i := 161) (by decide +kernel)) rfl
theorem fl_X5_30_4 : mFl RX5 30 4 3 := ⟨RX5, TX5, 4, rfl, by decide, wg_161, fun w h => mgood_in (inX5 w h) (List.all_eq_true.mp (show (u_ws RX5 TX5 4).all goodWord = true by decide +kernel) w h)⟩
theorem fp_X5_30_4 : mFp RX5 30 4 3 .int := ⟨RX5, TX5, 4, tyX5, rfl, by decide, wg_161, fun w h => mgood_in (inX5 w h) (List.all_eq_true.mp (show (u_ws RX5 TX5 4).all goodWord = true by decide +kernel) w h), tyX5_ok, nmX5, rfl, by decide +kernel⟩
theorem kJ_X5_60 : Cond.constantLong RX5 60 (mJ (-1)) ∈ mgood := mgood_in (List.mem_of_getElem? (i := 606) (by decide +kernel)) rfl
theorem kJ_X5_74 : Cond.constantLong RX5 74 (mJ (1000000000000001)) ∈ mgood := mgood_in (List.mem_of_getElem? (i := 598) (by decide +kernel)) rfl
theorem kI_L_7 : Cond.constant RL 7 (mI (2147483647)) ∈ mgood := mgood_in (List.mem_of_getElem? (i := 512) (by decide +kernel)) rfl
theorem kI_L_8 : Cond.constant RL 8 (mI (2654435)) ∈ mgood := mgood_in (List.mem_of_getElem? (i := 516) (by decide +kernel)) rfl
theorem kJ_L_9 : Cond.constantLong RL 9 (mJ (7)) ∈ mgood := mgood_in (List.mem_of_getElem? (i := 520) (by decide +kernel)) rfl
theorem kJ_L_11 : Cond.constantLong RL 11 (mJ (31)) ∈ mgood := mgood_in (List.mem_of_getElem? (i := 521) (by decide +kernel)) rfl
theorem kI_L_31 : Cond.constant RL 31 (mI (-1000001)) ∈ mgood := mgood_in (List.mem_of_getElem? (i := 638) (by decide +kernel)) rfl
theorem kI_L_55 : Cond.constant RL 55 (mI (-1000004)) ∈ mgood := mgood_in (List.mem_of_getElem? (i := 684) (by decide +kernel)) rfl
theorem kJ_L_60 : Cond.constantLong RL 60 (mJ (-1000001)) ∈ mgood := mgood_in (List.mem_of_getElem? (i := 693) (by decide +kernel)) rfl
theorem kJ_L_82 : Cond.constantLong RL 82 (mJ (255)) ∈ mgood := mgood_in (List.mem_of_getElem? (i := 746) (by decide +kernel)) rfl
theorem kI_L_89 : Cond.constant RL 89 (mI (-1000002)) ∈ mgood := mgood_in (List.mem_of_getElem? (i := 753) (by decide +kernel)) rfl
theorem kJ_L_94 : Cond.constantLong RL 94 (mJ (14395)) ∈ mgood := mgood_in (List.mem_of_getElem? (i := 754) (by decide +kernel)) rfl
theorem kJ_L_96 : Cond.constantLong RL 96 (mJ (48)) ∈ mgood := mgood_in (List.mem_of_getElem? (i := 755) (by decide +kernel)) rfl
theorem kJ_L_98 : Cond.constantLong RL 98 (mJ (12334)) ∈ mgood := mgood_in (List.mem_of_getElem? (i := 756) (by decide +kernel)) rfl
theorem kJ_L_100 : Cond.constantLong RL 100 (mJ (3154273)) ∈ mgood := mgood_in (List.mem_of_getElem? (i := 757) (by decide +kernel)) rfl
theorem kJ_L_102 : Cond.constantLong RL 102 (mJ (206718841147)) ∈ mgood := mgood_in (List.mem_of_getElem? (i := 758) (by decide +kernel)) rfl
theorem kJ_L_104 : Cond.constantLong RL 104 (mJ (207221766203)) ∈ mgood := mgood_in (List.mem_of_getElem? (i := 759) (by decide +kernel)) rfl
theorem kJ_L_106 : Cond.constantLong RL 106 (mJ (206936551739)) ∈ mgood := mgood_in (List.mem_of_getElem? (i := 760) (by decide +kernel)) rfl
theorem kJ_L_108 : Cond.constantLong RL 108 (mJ (3154235)) ∈ mgood := mgood_in (List.mem_of_getElem? (i := 761) (by decide +kernel)) rfl
theorem kJ_L_110 : Cond.constantLong RL 110 (mJ (52975119642171)) ∈ mgood := mgood_in (List.mem_of_getElem? (i := 762) (by decide +kernel)) rfl
theorem kJ_L_112 : Cond.constantLong RL 112 (mJ (3471777444948685154)) ∈ mgood := mgood_in (List.mem_of_getElem? (i := 763) (by decide +kernel)) rfl
theorem kJ_L_114 : Cond.constantLong RL 114 (mJ (55397350192187)) ∈ mgood := mgood_in (List.mem_of_getElem? (i := 764) (by decide +kernel)) rfl
theorem kJ_L_116 : Cond.constantLong RL 116 (mJ (3471777440653717857)) ∈ mgood := mgood_in (List.mem_of_getElem? (i := 765) (by decide +kernel)) rfl
theorem kJ_L_118 : Cond.constantLong RL 118 (mJ (12859)) ∈ mgood := mgood_in (List.mem_of_getElem? (i := 766) (by decide +kernel)) rfl
theorem kJ_L_120 : Cond.constantLong RL 120 (mJ (56347390851890)) ∈ mgood := mgood_in (List.mem_of_getElem? (i := 767) (by decide +kernel)) rfl
theorem kI_L_122 : Cond.constant RL 122 (mI (50101)) ∈ mgood := mgood_in (List.mem_of_getElem? (i := 768) (by decide +kernel)) rfl
theorem kJ_L_123 : Cond.constantLong RL 123 (mJ (3692782606868296238)) ∈ mgood := mgood_in (List.mem_of_getElem? (i := 769) (by decide +kernel)) rfl
theorem kJ_L_125 : Cond.constantLong RL 125 (mJ (59)) ∈ mgood := mgood_in (List.mem_of_getElem? (i := 770) (by decide +kernel)) rfl
theorem kI_L_127 : Cond.constant RL 127 (mI (50100)) ∈ mgood := mgood_in (List.mem_of_getElem? (i := 771) (by decide +kernel)) rfl
theorem kJ_L_128 : Cond.constantLong RL 128 (mJ (52919922680114)) ∈ mgood := mgood_in (List.mem_of_getElem? (i := 772) (by decide +kernel)) rfl
theorem kJ_L_134 : Cond.constantLong RL 134 (mJ (13547500206174779)) ∈ mgood := mgood_in (List.mem_of_getElem? (i := 776) (by decide +kernel)) rfl
theorem kJ_L_136 : Cond.constantLong RL 136 (mJ (3548661891170709051)) ∈ mgood := mgood_in (List.mem_of_getElem? (i := 777) (by decide +kernel)) rfl
theorem kJ_L_138 : Cond.constantLong RL 138 (mJ (-1000002)) ∈ mgood := mgood_in (List.mem_of_getElem? (i := 778) (by decide +kernel)) rfl
theorem kJ_L_144 : Cond.constantLong RL 144 (mJ (-1000003)) ∈ mgood := mgood_in (List.mem_of_getElem? (i := 782) (by decide +kernel)) rfl
theorem kJ_L_146 : Cond.constantLong RL 146 (mJ (782757789696)) ∈ mgood := mgood_in (List.mem_of_getElem? (i := 783) (by decide +kernel)) rfl
theorem kJ_L_158 : Cond.constantLong RL 158 (mJ (3468160047831793467)) ∈ mgood := mgood_in (List.mem_of_getElem? (i := 784) (by decide +kernel)) rfl
theorem kI_J6_265 : Cond.constant RJ6 265 (mI (1431655765)) ∈ mgood := mgood_in (List.mem_of_getElem? (i := 269) (by decide +kernel)) rfl
theorem kI_J6_266 : Cond.constant RJ6 266 (mI (858993459)) ∈ mgood := mgood_in (List.mem_of_getElem? (i := 270) (by decide +kernel)) rfl
theorem kI_J6_267 : Cond.constant RJ6 267 (mI (252645135)) ∈ mgood := mgood_in (List.mem_of_getElem? (i := 271) (by decide +kernel)) rfl
theorem ac_X0_19 : Cond.methodLink RX0 19 arraycopyName ∈ mgood := mgood_in (List.mem_of_getElem? (i := 235) (by decide +kernel)) rfl
theorem ac_X3_56 : Cond.methodLink RX3 56 arraycopyName ∈ mgood := mgood_in (List.mem_of_getElem? (i := 242) (by decide +kernel)) rfl
theorem ac_nat : Cond.native arraycopyName ∈ mgood := mgood_in (List.mem_of_getElem? (i := 237) (by decide +kernel)) rfl
theorem ac_stat : Cond.static arraycopyName ∈ mgood := mgood_in (List.mem_of_getElem? (i := 236) (by decide +kernel)) rfl
theorem ac_ini : Cond.initialized "java/lang/System" ∈ mgood := mgood_in (List.mem_of_getElem? (i := 23) (by decide +kernel)) rfl
