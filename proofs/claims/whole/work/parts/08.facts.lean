/-! THE STATIC FACTS: code words, call sites, fields, constants (by program out of the tables) -/
theorem kc_X0_init : Cond.code yX0_init cX0_init 1 none ∈ mgood := mgood_in (List.mem_of_getElem? (i := 108) (by decide +kernel)) rfl
theorem kc_X0_size : Cond.code yX0_size cX0_size 1 (some .int) ∈ mgood := mgood_in (List.mem_of_getElem? (i := 668) (by decide +kernel)) rfl
theorem kc_X3_saveTo : Cond.code yX3_saveTo cX3_saveTo 3 none ∈ mgood := mgood_in (List.mem_of_getElem? (i := 281) (by decide +kernel)) rfl
theorem kc_X0_record : Cond.code yX0_record cX0_record 5 none ∈ mgood := mgood_in (List.mem_of_getElem? (i := 274) (by decide +kernel)) rfl
theorem kc_X3_loadFrom : Cond.code yX3_loadFrom cX3_loadFrom 3 none ∈ mgood := mgood_in (List.mem_of_getElem? (i := 684) (by decide +kernel)) rfl
theorem kc_X0_restore : Cond.code yX0_restore cX0_restore 5 none ∈ mgood := mgood_in (List.mem_of_getElem? (i := 680) (by decide +kernel)) rfl
theorem kc_X1_init : Cond.code yX1_init cX1_init 1 none ∈ mgood := mgood_in (List.mem_of_getElem? (i := 151) (by decide +kernel)) rfl
theorem kc_X8_isState : Cond.code yX8_isState cX8_isState 1 (some .boolean) ∈ mgood := mgood_in (List.mem_of_getElem? (i := 91) (by decide +kernel)) rfl
theorem kc_X3_kindOf : Cond.code yX3_kindOf cX3_kindOf 2 (some .int) ∈ mgood := mgood_in (List.mem_of_getElem? (i := 290) (by decide +kernel)) rfl
theorem kc_X8_isWord : Cond.code yX8_isWord cX8_isWord 1 (some .boolean) ∈ mgood := mgood_in (List.mem_of_getElem? (i := 98) (by decide +kernel)) rfl
theorem kc_X3_targetOf : Cond.code yX3_targetOf cX3_targetOf 3 (some .int) ∈ mgood := mgood_in (List.mem_of_getElem? (i := 305) (by decide +kernel)) rfl
theorem kc_X3_wordsOf : Cond.code yX3_wordsOf cX3_wordsOf 4 (some .int) ∈ mgood := mgood_in (List.mem_of_getElem? (i := 301) (by decide +kernel)) rfl
theorem kc_X1_looksAlike : Cond.code yX1_looksAlike cX1_looksAlike 4 (some .boolean) ∈ mgood := mgood_in (List.mem_of_getElem? (i := 349) (by decide +kernel)) rfl
theorem kc_X1_areAlike : Cond.code yX1_areAlike cX1_areAlike 3 (some .boolean) ∈ mgood := mgood_in (List.mem_of_getElem? (i := 364) (by decide +kernel)) rfl
theorem kc_X1_leadsAlike : Cond.code yX1_leadsAlike cX1_leadsAlike 7 (some .boolean) ∈ mgood := mgood_in (List.mem_of_getElem? (i := 359) (by decide +kernel)) rfl
theorem kc_X1_part : Cond.code yX1_part cX1_part 4 none ∈ mgood := mgood_in (List.mem_of_getElem? (i := 355) (by decide +kernel)) rfl
theorem kc_X1_compare : Cond.code yX1_compare cX1_compare 4 none ∈ mgood := mgood_in (List.mem_of_getElem? (i := 346) (by decide +kernel)) rfl
theorem kc_X1_lowestAlike : Cond.code yX1_lowestAlike cX1_lowestAlike 3 (some .int) ∈ mgood := mgood_in (List.mem_of_getElem? (i := 369) (by decide +kernel)) rfl
theorem kc_X2_init : Cond.code yX2_init cX2_init 2 none ∈ mgood := mgood_in (List.mem_of_getElem? (i := 165) (by decide +kernel)) rfl
theorem kc_J7_fill_53178 : Cond.code yJ7_fill_53178 cJ7_fill_53178 4 none ∈ mgood := mgood_in (List.mem_of_getElem? (i := 405) (by decide +kernel)) rfl
theorem kc_X2_add : Cond.code yX2_add cX2_add 5 none ∈ mgood := mgood_in (List.mem_of_getElem? (i := 409) (by decide +kernel)) rfl
theorem kc_X8_cellOf : Cond.code yX8_cellOf cX8_cellOf 2 (some .int) ∈ mgood := mgood_in (List.mem_of_getElem? (i := 422) (by decide +kernel)) rfl
theorem kc_X2_stateOfOne : Cond.code yX2_stateOfOne cX2_stateOfOne 2 (some .int) ∈ mgood := mgood_in (List.mem_of_getElem? (i := 419) (by decide +kernel)) rfl
theorem kc_X2_stateOfOther : Cond.code yX2_stateOfOther cX2_stateOfOther 2 (some .int) ∈ mgood := mgood_in (List.mem_of_getElem? (i := 428) (by decide +kernel)) rfl
theorem kc_X6_goTogether : Cond.code yX6_goTogether cX6_goTogether 3 (some .boolean) ∈ mgood := mgood_in (List.mem_of_getElem? (i := 436) (by decide +kernel)) rfl
theorem kc_X7_goTogether : Cond.code yX7_goTogether cX7_goTogether 3 (some .boolean) ∈ mgood := mgood_in (List.mem_of_getElem? (i := 439) (by decide +kernel)) rfl
theorem kc_X2_pairBehind : Cond.code yX2_pairBehind cX2_pairBehind 7 (some .int) ∈ mgood := mgood_in (List.mem_of_getElem? (i := 413) (by decide +kernel)) rfl
theorem kc_X2_lengthOf : Cond.code yX2_lengthOf cX2_lengthOf 2 (some .int) ∈ mgood := mgood_in (List.mem_of_getElem? (i := 445) (by decide +kernel)) rfl
theorem kc_X2_walk : Cond.code yX2_walk cX2_walk 6 none ∈ mgood := mgood_in (List.mem_of_getElem? (i := 402) (by decide +kernel)) rfl
theorem kc_X2_positionBehind : Cond.code yX2_positionBehind cX2_positionBehind 3 (some .int) ∈ mgood := mgood_in (List.mem_of_getElem? (i := 576) (by decide +kernel)) rfl
theorem kc_X2_size : Cond.code yX2_size cX2_size 1 (some .int) ∈ mgood := mgood_in (List.mem_of_getElem? (i := 532) (by decide +kernel)) rfl
theorem kc_X2_has : Cond.code yX2_has cX2_has 2 (some .boolean) ∈ mgood := mgood_in (List.mem_of_getElem? (i := 479) (by decide +kernel)) rfl
theorem kc_X2_kindOfOne : Cond.code yX2_kindOfOne cX2_kindOfOne 2 (some .int) ∈ mgood := mgood_in (List.mem_of_getElem? (i := 507) (by decide +kernel)) rfl
theorem kc_X2_kindOfOther : Cond.code yX2_kindOfOther cX2_kindOfOther 2 (some .int) ∈ mgood := mgood_in (List.mem_of_getElem? (i := 513) (by decide +kernel)) rfl
theorem kc_X6_reasonFor : Cond.code yX6_reasonFor cX6_reasonFor 5 (some .int) ∈ mgood := mgood_in (List.mem_of_getElem? (i := 464) (by decide +kernel)) rfl
theorem kc_X7_reasonFor : Cond.code yX7_reasonFor cX7_reasonFor 6 (some .int) ∈ mgood := mgood_in (List.mem_of_getElem? (i := 471) (by decide +kernel)) rfl
theorem kc_X2_reasonOf : Cond.code yX2_reasonOf cX2_reasonOf 4 (some .int) ∈ mgood := mgood_in (List.mem_of_getElem? (i := 457) (by decide +kernel)) rfl
theorem kc_X2_lackedWords : Cond.code yX2_lackedWords cX2_lackedWords 3 (some .int) ∈ mgood := mgood_in (List.mem_of_getElem? (i := 468) (by decide +kernel)) rfl
theorem kc_X8_holds : Cond.code yX8_holds cX8_holds 2 (some .boolean) ∈ mgood := mgood_in (List.mem_of_getElem? (i := 376) (by decide +kernel)) rfl
theorem kc_X8_firstWordIn : Cond.code yX8_firstWordIn cX8_firstWordIn 2 (some .int) ∈ mgood := mgood_in (List.mem_of_getElem? (i := 517) (by decide +kernel)) rfl
theorem kc_X2_firstLackedWord : Cond.code yX2_firstLackedWord cX2_firstLackedWord 5 (some .int) ∈ mgood := mgood_in (List.mem_of_getElem? (i := 501) (by decide +kernel)) rfl
theorem kc_X2_firstFaulty : Cond.code yX2_firstFaulty cX2_firstFaulty 2 (some .int) ∈ mgood := mgood_in (List.mem_of_getElem? (i := 451) (by decide +kernel)) rfl
theorem kc_X8_foundOr : Cond.code yX8_foundOr cX8_foundOr 1 (some .int) ∈ mgood := mgood_in (List.mem_of_getElem? (i := 383) (by decide +kernel)) rfl
theorem kc_X2_wordOfRow : Cond.code yX2_wordOfRow cX2_wordOfRow 5 (some .int) ∈ mgood := mgood_in (List.mem_of_getElem? (i := 522) (by decide +kernel)) rfl
theorem kc_X2_tellMore : Cond.code yX2_tellMore cX2_tellMore 3 (some .int) ∈ mgood := mgood_in (List.mem_of_getElem? (i := 497) (by decide +kernel)) rfl
theorem kc_X3_setKind : Cond.code yX3_setKind cX3_setKind 3 none ∈ mgood := mgood_in (List.mem_of_getElem? (i := 88) (by decide +kernel)) rfl
theorem kc_X3_setTarget : Cond.code yX3_setTarget cX3_setTarget 4 none ∈ mgood := mgood_in (List.mem_of_getElem? (i := 95) (by decide +kernel)) rfl
theorem kc_X3_clear : Cond.code yX3_clear cX3_clear 3 none ∈ mgood := mgood_in (List.mem_of_getElem? (i := 84) (by decide +kernel)) rfl
theorem kc_X3_init : Cond.code yX3_init cX3_init 1 none ∈ mgood := mgood_in (List.mem_of_getElem? (i := 79) (by decide +kernel)) rfl
theorem kc_J6_bitCount_0f7a4 : Cond.code yJ6_bitCount_0f7a4 cJ6_bitCount_0f7a4 1 (some .int) ∈ mgood := mgood_in (List.mem_of_getElem? (i := 308) (by decide +kernel)) rfl
theorem kc_X3_arrows : Cond.code yX3_arrows cX3_arrows 3 (some .int) ∈ mgood := mgood_in (List.mem_of_getElem? (i := 662) (by decide +kernel)) rfl
theorem kc_X3_lastingStates : Cond.code yX3_lastingStates cX3_lastingStates 3 (some .int) ∈ mgood := mgood_in (List.mem_of_getElem? (i := 329) (by decide +kernel)) rfl
theorem kc_X3_swapSides : Cond.code yX3_swapSides cX3_swapSides 3 none ∈ mgood := mgood_in (List.mem_of_getElem? (i := 338) (by decide +kernel)) rfl
theorem kc_X3_statesBehind : Cond.code yX3_statesBehind cX3_statesBehind 5 (some .int) ∈ mgood := mgood_in (List.mem_of_getElem? (i := 380) (by decide +kernel)) rfl
theorem kc_X3_comesTo : Cond.code yX3_comesTo cX3_comesTo 5 (some .int) ∈ mgood := mgood_in (List.mem_of_getElem? (i := 373) (by decide +kernel)) rfl
theorem kc_X3_take : Cond.code yX3_take cX3_take 2 none ∈ mgood := mgood_in (List.mem_of_getElem? (i := 325) (by decide +kernel)) rfl
theorem kc_X4_init : Cond.code yX4_init cX4_init 1 none ∈ mgood := mgood_in (List.mem_of_getElem? (i := 121) (by decide +kernel)) rfl
theorem kc_X4_length : Cond.code yX4_length cX4_length 1 (some .int) ∈ mgood := mgood_in (List.mem_of_getElem? (i := 672) (by decide +kernel)) rfl
theorem kc_X4_isFull : Cond.code yX4_isFull cX4_isFull 1 (some .boolean) ∈ mgood := mgood_in (List.mem_of_getElem? (i := 692) (by decide +kernel)) rfl
theorem kc_X4_append : Cond.code yX4_append cX4_append 2 none ∈ mgood := mgood_in (List.mem_of_getElem? (i := 697) (by decide +kernel)) rfl
theorem kc_X4_clear : Cond.code yX4_clear cX4_clear 1 none ∈ mgood := mgood_in (List.mem_of_getElem? (i := 705) (by decide +kernel)) rfl
theorem kc_X4_draft : Cond.code yX4_draft cX4_draft 1 (some (.object "MirroredTalks$Plan")) ∈ mgood := mgood_in (List.mem_of_getElem? (i := 761) (by decide +kernel)) rfl
theorem kc_X4_toldStates : Cond.code yX4_toldStates cX4_toldStates 1 (some .int) ∈ mgood := mgood_in (List.mem_of_getElem? (i := 765) (by decide +kernel)) rfl
theorem kc_X4_isFaulty : Cond.code yX4_isFaulty cX4_isFaulty 1 (some .boolean) ∈ mgood := mgood_in (List.mem_of_getElem? (i := 722) (by decide +kernel)) rfl
theorem kc_X4_faultPosition : Cond.code yX4_faultPosition cX4_faultPosition 1 (some .int) ∈ mgood := mgood_in (List.mem_of_getElem? (i := 745) (by decide +kernel)) rfl
theorem kc_X4_faultReason : Cond.code yX4_faultReason cX4_faultReason 1 (some .int) ∈ mgood := mgood_in (List.mem_of_getElem? (i := 749) (by decide +kernel)) rfl
theorem kc_X4_faultCause : Cond.code yX4_faultCause cX4_faultCause 1 (some .int) ∈ mgood := mgood_in (List.mem_of_getElem? (i := 753) (by decide +kernel)) rfl
theorem kc_X4_setFault : Cond.code yX4_setFault cX4_setFault 4 none ∈ mgood := mgood_in (List.mem_of_getElem? (i := 718) (by decide +kernel)) rfl
theorem kc_X4_characterAt : Cond.code yX4_characterAt cX4_characterAt 2 (some .int) ∈ mgood := mgood_in (List.mem_of_getElem? (i := 726) (by decide +kernel)) rfl
theorem kc_X4_after : Cond.code yX4_after cX4_after 2 (some .int) ∈ mgood := mgood_in (List.mem_of_getElem? (i := 730) (by decide +kernel)) rfl
theorem kc_X4_takeState : Cond.code yX4_takeState cX4_takeState 7 none ∈ mgood := mgood_in (List.mem_of_getElem? (i := 736) (by decide +kernel)) rfl
theorem kc_X4_parse : Cond.code yX4_parse cX4_parse 6 none ∈ mgood := mgood_in (List.mem_of_getElem? (i := 713) (by decide +kernel)) rfl
theorem kc_X5_init : Cond.code yX5_init cX5_init 1 none ∈ mgood := mgood_in (List.mem_of_getElem? (i := 196) (by decide +kernel)) rfl
theorem kc_J7_fill_d0a16 : Cond.code yJ7_fill_d0a16 cJ7_fill_d0a16 5 none ∈ mgood := mgood_in (List.mem_of_getElem? (i := 569) (by decide +kernel)) rfl
theorem kc_X5_isPosition : Cond.code yX5_isPosition cX5_isPosition 1 (some .boolean) ∈ mgood := mgood_in (List.mem_of_getElem? (i := 579) (by decide +kernel)) rfl
theorem kc_X5_countWays : Cond.code yX5_countWays cX5_countWays 5 none ∈ mgood := mgood_in (List.mem_of_getElem? (i := 565) (by decide +kernel)) rfl
theorem kc_X5_setReady : Cond.code yX5_setReady cX5_setReady 2 none ∈ mgood := mgood_in (List.mem_of_getElem? (i := 583) (by decide +kernel)) rfl
theorem kc_X7_isEnd : Cond.code yX7_isEnd cX7_isEnd 2 (some .boolean) ∈ mgood := mgood_in (List.mem_of_getElem? (i := 549) (by decide +kernel)) rfl
theorem kc_X5_rowsTo : Cond.code yX5_rowsTo cX5_rowsTo 2 (some .long) ∈ mgood := mgood_in (List.mem_of_getElem? (i := 588) (by decide +kernel)) rfl
theorem kc_X5_capped : Cond.code yX5_capped cX5_capped 2 (some .long) ∈ mgood := mgood_in (List.mem_of_getElem? (i := 591) (by decide +kernel)) rfl
theorem kc_X5_goAlong : Cond.code yX5_goAlong cX5_goAlong 4 none ∈ mgood := mgood_in (List.mem_of_getElem? (i := 599) (by decide +kernel)) rfl
theorem kc_X5_rowsToEnds : Cond.code yX5_rowsToEnds cX5_rowsToEnds 7 (some .long) ∈ mgood := mgood_in (List.mem_of_getElem? (i := 561) (by decide +kernel)) rfl
theorem kc_X6_init : Cond.code yX6_init cX6_init 2 none ∈ mgood := mgood_in (List.mem_of_getElem? (i := 216) (by decide +kernel)) rfl
theorem kc_X7_init : Cond.code yX7_init cX7_init 2 none ∈ mgood := mgood_in (List.mem_of_getElem? (i := 162) (by decide +kernel)) rfl
theorem kc_X7_stuckPairs : Cond.code yX7_stuckPairs cX7_stuckPairs 3 (some .int) ∈ mgood := mgood_in (List.mem_of_getElem? (i := 536) (by decide +kernel)) rfl
theorem kc_X7_ends : Cond.code yX7_ends cX7_ends 3 (some .int) ∈ mgood := mgood_in (List.mem_of_getElem? (i := 545) (by decide +kernel)) rfl
theorem kc_X7_fewestWordsToEnd : Cond.code yX7_fewestWordsToEnd cX7_fewestWordsToEnd 2 (some .int) ∈ mgood := mgood_in (List.mem_of_getElem? (i := 605) (by decide +kernel)) rfl
theorem kc_X7_statesOfOne : Cond.code yX7_statesOfOne cX7_statesOfOne 3 (some .int) ∈ mgood := mgood_in (List.mem_of_getElem? (i := 610) (by decide +kernel)) rfl
theorem kc_X7_statesOfOther : Cond.code yX7_statesOfOther cX7_statesOfOther 3 (some .int) ∈ mgood := mgood_in (List.mem_of_getElem? (i := 615) (by decide +kernel)) rfl
theorem kc_X8_init : Cond.code yX8_init cX8_init 1 none ∈ mgood := mgood_in (List.mem_of_getElem? (i := 71) (by decide +kernel)) rfl
theorem kc_X8_isPlan : Cond.code yX8_isPlan cX8_isPlan 1 (some .boolean) ∈ mgood := mgood_in (List.mem_of_getElem? (i := 261) (by decide +kernel)) rfl
theorem kc_X8_isKind : Cond.code yX8_isKind cX8_isKind 1 (some .boolean) ∈ mgood := mgood_in (List.mem_of_getElem? (i := 265) (by decide +kernel)) rfl
theorem kc_X8_remember : Cond.code yX8_remember cX8_remember 1 none ∈ mgood := mgood_in (List.mem_of_getElem? (i := 270) (by decide +kernel)) rfl
theorem kc_X8_planAt : Cond.code yX8_planAt cX8_planAt 2 (some (.object "MirroredTalks$Plan")) ∈ mgood := mgood_in (List.mem_of_getElem? (i := 286) (by decide +kernel)) rfl
theorem kc_X8_kind : Cond.code yX8_kind cX8_kind 5 (some .int) ∈ mgood := mgood_in (List.mem_of_getElem? (i := 258) (by decide +kernel)) rfl
theorem kc_X8_arrow : Cond.code yX8_arrow cX8_arrow 5 (some .int) ∈ mgood := mgood_in (List.mem_of_getElem? (i := 295) (by decide +kernel)) rfl
theorem kc_X8_erase : Cond.code yX8_erase cX8_erase 5 (some .int) ∈ mgood := mgood_in (List.mem_of_getElem? (i := 315) (by decide +kernel)) rfl
theorem kc_X8_copy : Cond.code yX8_copy cX8_copy 3 (some .int) ∈ mgood := mgood_in (List.mem_of_getElem? (i := 321) (by decide +kernel)) rfl
theorem kc_X8_mirror : Cond.code yX8_mirror cX8_mirror 2 (some .int) ∈ mgood := mgood_in (List.mem_of_getElem? (i := 334) (by decide +kernel)) rfl
theorem kc_X8_stateOf : Cond.code yX8_stateOf cX8_stateOf 6 (some .int) ∈ mgood := mgood_in (List.mem_of_getElem? (i := 342) (by decide +kernel)) rfl
theorem kc_X8_unlike : Cond.code yX8_unlike cX8_unlike 5 (some .int) ∈ mgood := mgood_in (List.mem_of_getElem? (i := 388) (by decide +kernel)) rfl
theorem kc_X8_isPairQuestion : Cond.code yX8_isPairQuestion cX8_isPairQuestion 1 (some .boolean) ∈ mgood := mgood_in (List.mem_of_getElem? (i := 396) (by decide +kernel)) rfl
theorem kc_X8_pairOf : Cond.code yX8_pairOf cX8_pairOf 6 (some .int) ∈ mgood := mgood_in (List.mem_of_getElem? (i := 393) (by decide +kernel)) rfl
theorem kc_X8_talk : Cond.code yX8_talk cX8_talk 4 (some .int) ∈ mgood := mgood_in (List.mem_of_getElem? (i := 526) (by decide +kernel)) rfl
theorem kc_X8_talks : Cond.code yX8_talks cX8_talks 5 (some .long) ∈ mgood := mgood_in (List.mem_of_getElem? (i := 620) (by decide +kernel)) rfl
theorem kc_X8_standsIn : Cond.code yX8_standsIn cX8_standsIn 3 (some .int) ∈ mgood := mgood_in (List.mem_of_getElem? (i := 628) (by decide +kernel)) rfl
theorem kc_X8_against : Cond.code yX8_against cX8_against 5 (some .int) ∈ mgood := mgood_in (List.mem_of_getElem? (i := 638) (by decide +kernel)) rfl
theorem kc_X8_count : Cond.code yX8_count cX8_count 3 (some .int) ∈ mgood := mgood_in (List.mem_of_getElem? (i := 657) (by decide +kernel)) rfl
theorem kc_X8_undo : Cond.code yX8_undo cX8_undo 1 (some .int) ∈ mgood := mgood_in (List.mem_of_getElem? (i := 676) (by decide +kernel)) rfl
theorem kc_X8_type : Cond.code yX8_type cX8_type 2 (some .int) ∈ mgood := mgood_in (List.mem_of_getElem? (i := 688) (by decide +kernel)) rfl
theorem kc_X8_clearText : Cond.code yX8_clearText cX8_clearText 2 (some .int) ∈ mgood := mgood_in (List.mem_of_getElem? (i := 701) (by decide +kernel)) rfl
theorem kc_X8_fault : Cond.code yX8_fault cX8_fault 2 (some .int) ∈ mgood := mgood_in (List.mem_of_getElem? (i := 709) (by decide +kernel)) rfl
theorem kc_X8_read : Cond.code yX8_read cX8_read 2 (some .int) ∈ mgood := mgood_in (List.mem_of_getElem? (i := 757) (by decide +kernel)) rfl
theorem kc_X9_init : Cond.code yX9_init cX9_init 1 none ∈ mgood := mgood_in (List.mem_of_getElem? (i := 771) (by decide +kernel)) rfl
theorem kc_X9_in : Cond.code yX9_in cX9_in 3 (some .boolean) ∈ mgood := mgood_in (List.mem_of_getElem? (i := 859) (by decide +kernel)) rfl
theorem kc_X9_isPlan : Cond.code yX9_isPlan cX9_isPlan 1 (some .boolean) ∈ mgood := mgood_in (List.mem_of_getElem? (i := 856) (by decide +kernel)) rfl
theorem kc_X9_isState : Cond.code yX9_isState cX9_isState 1 (some .boolean) ∈ mgood := mgood_in (List.mem_of_getElem? (i := 862) (by decide +kernel)) rfl
theorem kc_X9_isWord : Cond.code yX9_isWord cX9_isWord 1 (some .boolean) ∈ mgood := mgood_in (List.mem_of_getElem? (i := 878) (by decide +kernel)) rfl
theorem kc_X9_kindOf : Cond.code yX9_kindOf cX9_kindOf 3 (some .int) ∈ mgood := mgood_in (List.mem_of_getElem? (i := 871) (by decide +kernel)) rfl
theorem kc_X9_placeOf : Cond.code yX9_placeOf cX9_placeOf 3 (some .int) ∈ mgood := mgood_in (List.mem_of_getElem? (i := 881) (by decide +kernel)) rfl
theorem kc_X9_led : Cond.code yX9_led cX9_led 4 (some .int) ∈ mgood := mgood_in (List.mem_of_getElem? (i := 889) (by decide +kernel)) rfl
theorem kc_X9_leads : Cond.code yX9_leads cX9_leads 4 (some .int) ∈ mgood := mgood_in (List.mem_of_getElem? (i := 933) (by decide +kernel)) rfl
theorem kc_X9_records : Cond.code yX9_records cX9_records 2 none ∈ mgood := mgood_in (List.mem_of_getElem? (i := 867) (by decide +kernel)) rfl
theorem kc_X9_kind : Cond.code yX9_kind cX9_kind 5 (some .int) ∈ mgood := mgood_in (List.mem_of_getElem? (i := 853) (by decide +kernel)) rfl
theorem kc_X9_words : Cond.code yX9_words cX9_words 5 (some .int) ∈ mgood := mgood_in (List.mem_of_getElem? (i := 885) (by decide +kernel)) rfl
theorem kc_X9_bits : Cond.code yX9_bits cX9_bits 3 (some .int) ∈ mgood := mgood_in (List.mem_of_getElem? (i := 892) (by decide +kernel)) rfl
theorem kc_X9_arrow : Cond.code yX9_arrow cX9_arrow 5 (some .int) ∈ mgood := mgood_in (List.mem_of_getElem? (i := 875) (by decide +kernel)) rfl
theorem kc_X9_erase : Cond.code yX9_erase cX9_erase 5 (some .int) ∈ mgood := mgood_in (List.mem_of_getElem? (i := 896) (by decide +kernel)) rfl
theorem kc_X9_going : Cond.code yX9_going cX9_going 4 (some .int) ∈ mgood := mgood_in (List.mem_of_getElem? (i := 905) (by decide +kernel)) rfl
theorem kc_X9_copy : Cond.code yX9_copy cX9_copy 4 (some .int) ∈ mgood := mgood_in (List.mem_of_getElem? (i := 901) (by decide +kernel)) rfl
theorem kc_X9_mirror : Cond.code yX9_mirror cX9_mirror 4 (some .int) ∈ mgood := mgood_in (List.mem_of_getElem? (i := 909) (by decide +kernel)) rfl
theorem kc_X9_haveSame : Cond.code yX9_haveSame cX9_haveSame 5 (some .boolean) ∈ mgood := mgood_in (List.mem_of_getElem? (i := 925) (by decide +kernel)) rfl
theorem kc_X9_leadAlike : Cond.code yX9_leadAlike cX9_leadAlike 7 (some .boolean) ∈ mgood := mgood_in (List.mem_of_getElem? (i := 929) (by decide +kernel)) rfl
theorem kc_X9_findAlike : Cond.code yX9_findAlike cX9_findAlike 6 none ∈ mgood := mgood_in (List.mem_of_getElem? (i := 921) (by decide +kernel)) rfl
theorem kc_X9_lowest : Cond.code yX9_lowest cX9_lowest 2 (some .int) ∈ mgood := mgood_in (List.mem_of_getElem? (i := 936) (by decide +kernel)) rfl
theorem kc_X9_alikeTo : Cond.code yX9_alikeTo cX9_alikeTo 3 (some .int) ∈ mgood := mgood_in (List.mem_of_getElem? (i := 917) (by decide +kernel)) rfl
theorem kc_X9_reached : Cond.code yX9_reached cX9_reached 7 (some .int) ∈ mgood := mgood_in (List.mem_of_getElem? (i := 940) (by decide +kernel)) rfl
theorem kc_X9_stateOf : Cond.code yX9_stateOf cX9_stateOf 5 (some .int) ∈ mgood := mgood_in (List.mem_of_getElem? (i := 913) (by decide +kernel)) rfl
theorem kc_X9_unlike : Cond.code yX9_unlike cX9_unlike 5 (some .int) ∈ mgood := mgood_in (List.mem_of_getElem? (i := 945) (by decide +kernel)) rfl
theorem kc_X9_together : Cond.code yX9_together cX9_together 3 (some .boolean) ∈ mgood := mgood_in (List.mem_of_getElem? (i := 967) (by decide +kernel)) rfl
theorem kc_X9_behind : Cond.code yX9_behind cX9_behind 7 (some .int) ∈ mgood := mgood_in (List.mem_of_getElem? (i := 971) (by decide +kernel)) rfl
theorem kc_X9_finds : Cond.code yX9_finds cX9_finds 4 none ∈ mgood := mgood_in (List.mem_of_getElem? (i := 960) (by decide +kernel)) rfl
theorem kc_X9_follows : Cond.code yX9_follows cX9_follows 8 (some .int) ∈ mgood := mgood_in (List.mem_of_getElem? (i := 964) (by decide +kernel)) rfl
theorem kc_X9_goThrough : Cond.code yX9_goThrough cX9_goThrough 7 none ∈ mgood := mgood_in (List.mem_of_getElem? (i := 956) (by decide +kernel)) rfl
theorem kc_X9_wordOf : Cond.code yX9_wordOf cX9_wordOf 4 (some .int) ∈ mgood := mgood_in (List.mem_of_getElem? (i := 990) (by decide +kernel)) rfl
theorem kc_X9_lacking : Cond.code yX9_lacking cX9_lacking 3 (some .int) ∈ mgood := mgood_in (List.mem_of_getElem? (i := 986) (by decide +kernel)) rfl
theorem kc_X9_missing : Cond.code yX9_missing cX9_missing 9 (some .int) ∈ mgood := mgood_in (List.mem_of_getElem? (i := 983) (by decide +kernel)) rfl
theorem kc_X9_why : Cond.code yX9_why cX9_why 7 (some .int) ∈ mgood := mgood_in (List.mem_of_getElem? (i := 979) (by decide +kernel)) rfl
theorem kc_X9_isEnd : Cond.code yX9_isEnd cX9_isEnd 4 (some .boolean) ∈ mgood := mgood_in (List.mem_of_getElem? (i := 1006) (by decide +kernel)) rfl
theorem kc_X9_isRowAsked : Cond.code yX9_isRowAsked cX9_isRowAsked 2 (some .boolean) ∈ mgood := mgood_in (List.mem_of_getElem? (i := 952) (by decide +kernel)) rfl
theorem kc_X9_firstStuck : Cond.code yX9_firstStuck cX9_firstStuck 4 (some .int) ∈ mgood := mgood_in (List.mem_of_getElem? (i := 975) (by decide +kernel)) rfl
theorem kc_X9_pairOf : Cond.code yX9_pairOf cX9_pairOf 6 (some .int) ∈ mgood := mgood_in (List.mem_of_getElem? (i := 949) (by decide +kernel)) rfl
theorem kc_X9_counts : Cond.code yX9_counts cX9_counts 9 (some .boolean) ∈ mgood := mgood_in (List.mem_of_getElem? (i := 1014) (by decide +kernel)) rfl
theorem kc_X9_countsAll : Cond.code yX9_countsAll cX9_countsAll 6 (some .boolean) ∈ mgood := mgood_in (List.mem_of_getElem? (i := 1010) (by decide +kernel)) rfl
theorem kc_X9_stuckOnes : Cond.code yX9_stuckOnes cX9_stuckOnes 5 (some .int) ∈ mgood := mgood_in (List.mem_of_getElem? (i := 998) (by decide +kernel)) rfl
theorem kc_X9_ends : Cond.code yX9_ends cX9_ends 5 (some .int) ∈ mgood := mgood_in (List.mem_of_getElem? (i := 1002) (by decide +kernel)) rfl
theorem kc_X9_fewest : Cond.code yX9_fewest cX9_fewest 4 (some .int) ∈ mgood := mgood_in (List.mem_of_getElem? (i := 1020) (by decide +kernel)) rfl
theorem kc_X9_comeTo : Cond.code yX9_comeTo cX9_comeTo 4 (some .int) ∈ mgood := mgood_in (List.mem_of_getElem? (i := 1024) (by decide +kernel)) rfl
theorem kc_X9_talk : Cond.code yX9_talk cX9_talk 4 (some .int) ∈ mgood := mgood_in (List.mem_of_getElem? (i := 994) (by decide +kernel)) rfl
theorem kc_X9_talks : Cond.code yX9_talks cX9_talks 3 (some .long) ∈ mgood := mgood_in (List.mem_of_getElem? (i := 1028) (by decide +kernel)) rfl
theorem kc_X9_wanted : Cond.code yX9_wanted cX9_wanted 7 (some .int) ∈ mgood := mgood_in (List.mem_of_getElem? (i := 1051) (by decide +kernel)) rfl
theorem kc_X9_whyNot : Cond.code yX9_whyNot cX9_whyNot 5 (some .int) ∈ mgood := mgood_in (List.mem_of_getElem? (i := 1047) (by decide +kernel)) rfl
theorem kc_X9_firstAgainst : Cond.code yX9_firstAgainst cX9_firstAgainst 4 (some .int) ∈ mgood := mgood_in (List.mem_of_getElem? (i := 1043) (by decide +kernel)) rfl
theorem kc_X9_canStand : Cond.code yX9_canStand cX9_canStand 3 (some .int) ∈ mgood := mgood_in (List.mem_of_getElem? (i := 1039) (by decide +kernel)) rfl
theorem kc_X9_standsIn : Cond.code yX9_standsIn cX9_standsIn 3 (some .int) ∈ mgood := mgood_in (List.mem_of_getElem? (i := 1035) (by decide +kernel)) rfl
theorem kc_X9_wantedThen : Cond.code yX9_wantedThen cX9_wantedThen 4 (some .int) ∈ mgood := mgood_in (List.mem_of_getElem? (i := 1059) (by decide +kernel)) rfl
theorem kc_X9_against : Cond.code yX9_against cX9_against 5 (some .int) ∈ mgood := mgood_in (List.mem_of_getElem? (i := 1055) (by decide +kernel)) rfl
theorem kc_X9_arrows : Cond.code yX9_arrows cX9_arrows 3 (some .int) ∈ mgood := mgood_in (List.mem_of_getElem? (i := 1067) (by decide +kernel)) rfl
theorem kc_X9_count : Cond.code yX9_count cX9_count 2 (some .int) ∈ mgood := mgood_in (List.mem_of_getElem? (i := 1063) (by decide +kernel)) rfl
theorem kc_X9_undo : Cond.code yX9_undo cX9_undo 2 (some .int) ∈ mgood := mgood_in (List.mem_of_getElem? (i := 1071) (by decide +kernel)) rfl
theorem kc_X9_type : Cond.code yX9_type cX9_type 2 (some .int) ∈ mgood := mgood_in (List.mem_of_getElem? (i := 1075) (by decide +kernel)) rfl
theorem kc_X9_clearText : Cond.code yX9_clearText cX9_clearText 2 (some .int) ∈ mgood := mgood_in (List.mem_of_getElem? (i := 1080) (by decide +kernel)) rfl
theorem kc_X9_takes : Cond.code yX9_takes cX9_takes 4 (some .boolean) ∈ mgood := mgood_in (List.mem_of_getElem? (i := 1096) (by decide +kernel)) rfl
theorem kc_X9_kindTaken : Cond.code yX9_kindTaken cX9_kindTaken 1 (some .int) ∈ mgood := mgood_in (List.mem_of_getElem? (i := 1104) (by decide +kernel)) rfl
theorem kc_X9_takesArrows : Cond.code yX9_takesArrows cX9_takesArrows 1 (some .boolean) ∈ mgood := mgood_in (List.mem_of_getElem? (i := 1108) (by decide +kernel)) rfl
theorem kc_X9_twice : Cond.code yX9_twice cX9_twice 3 (some .int) ∈ mgood := mgood_in (List.mem_of_getElem? (i := 1112) (by decide +kernel)) rfl
theorem kc_X9_breaksOff : Cond.code yX9_breaksOff cX9_breaksOff 1 (some .int) ∈ mgood := mgood_in (List.mem_of_getElem? (i := 1100) (by decide +kernel)) rfl
theorem kc_X9_readState : Cond.code yX9_readState cX9_readState 4 (some .int) ∈ mgood := mgood_in (List.mem_of_getElem? (i := 1092) (by decide +kernel)) rfl
theorem kc_X9_faulty : Cond.code yX9_faulty cX9_faulty 2 (some .int) ∈ mgood := mgood_in (List.mem_of_getElem? (i := 1088) (by decide +kernel)) rfl
theorem kc_X9_fault : Cond.code yX9_fault cX9_fault 3 (some .int) ∈ mgood := mgood_in (List.mem_of_getElem? (i := 1084) (by decide +kernel)) rfl
theorem kc_X9_read : Cond.code yX9_read cX9_read 3 (some .int) ∈ mgood := mgood_in (List.mem_of_getElem? (i := 1116) (by decide +kernel)) rfl
theorem kc_J9_min_f86c9 : Cond.code yJ9_min_f86c9 cJ9_min_f86c9 4 (some .long) ∈ mgood := mgood_in (List.mem_of_getElem? (i := 595) (by decide +kernel)) rfl
theorem wg_259 : Cond.methodLink RX8 66 yX8_isPlan ∈ mgood := mgood_in (w := Cond.methodLink RX8 66 yX8_isPlan) (List.mem_of_getElem? (i := 259) (by decide +kernel)) rfl
theorem wg_260 : Cond.static yX8_isPlan ∈ mgood := mgood_in (w := Cond.static yX8_isPlan) (List.mem_of_getElem? (i := 260) (by decide +kernel)) rfl
theorem wg_53 : Cond.initialized RX8 ∈ mgood := mgood_in (w := Cond.initialized RX8) (List.mem_of_getElem? (i := 53) (by decide +kernel)) rfl
theorem cs_X8_66 : mcS RX8 66 yX8_isPlan (1) := ⟨wg_259, wg_260, wg_53, by decide +kernel⟩
theorem wg_262 : Cond.methodLink RX8 70 yX8_isState ∈ mgood := mgood_in (w := Cond.methodLink RX8 70 yX8_isState) (List.mem_of_getElem? (i := 262) (by decide +kernel)) rfl
theorem wg_90 : Cond.static yX8_isState ∈ mgood := mgood_in (w := Cond.static yX8_isState) (List.mem_of_getElem? (i := 90) (by decide +kernel)) rfl
theorem cs_X8_70 : mcS RX8 70 yX8_isState (1) := ⟨wg_262, wg_90, wg_53, by decide +kernel⟩
theorem wg_263 : Cond.methodLink RX8 73 yX8_isKind ∈ mgood := mgood_in (w := Cond.methodLink RX8 73 yX8_isKind) (List.mem_of_getElem? (i := 263) (by decide +kernel)) rfl
theorem wg_264 : Cond.static yX8_isKind ∈ mgood := mgood_in (w := Cond.static yX8_isKind) (List.mem_of_getElem? (i := 264) (by decide +kernel)) rfl
theorem cs_X8_73 : mcS RX8 73 yX8_isKind (1) := ⟨wg_263, wg_264, wg_53, by decide +kernel⟩
theorem wg_267 : Cond.methodLink RX8 77 yX8_remember ∈ mgood := mgood_in (w := Cond.methodLink RX8 77 yX8_remember) (List.mem_of_getElem? (i := 267) (by decide +kernel)) rfl
theorem wg_269 : Cond.instanceMethod yX8_remember ∈ mgood := mgood_in (w := Cond.instanceMethod yX8_remember) (List.mem_of_getElem? (i := 269) (by decide +kernel)) rfl
theorem wg_0 : Cond.selects RX8 yX8_remember yX8_remember ∈ mgood := mgood_in (w := Cond.selects RX8 yX8_remember yX8_remember) (List.mem_of_getElem? (i := 0) (by decide +kernel)) rfl
theorem cv_X8_77 : mcV RX8 77 yX8_remember 0 := ⟨wg_267, wg_269, wg_0, wg_53, by decide +kernel⟩
theorem wg_283 : Cond.methodLink RX8 80 yX8_planAt ∈ mgood := mgood_in (w := Cond.methodLink RX8 80 yX8_planAt) (List.mem_of_getElem? (i := 283) (by decide +kernel)) rfl
theorem wg_285 : Cond.instanceMethod yX8_planAt ∈ mgood := mgood_in (w := Cond.instanceMethod yX8_planAt) (List.mem_of_getElem? (i := 285) (by decide +kernel)) rfl
theorem wg_1 : Cond.selects RX8 yX8_planAt yX8_planAt ∈ mgood := mgood_in (w := Cond.selects RX8 yX8_planAt yX8_planAt) (List.mem_of_getElem? (i := 1) (by decide +kernel)) rfl
theorem cv_X8_80 : mcV RX8 80 yX8_planAt 1 := ⟨wg_283, wg_285, wg_1, wg_53, by decide +kernel⟩
theorem wg_287 : Cond.methodLink RX8 84 yX3_kindOf ∈ mgood := mgood_in (w := Cond.methodLink RX8 84 yX3_kindOf) (List.mem_of_getElem? (i := 287) (by decide +kernel)) rfl
theorem wg_288 : Cond.instanceMethod yX3_kindOf ∈ mgood := mgood_in (w := Cond.instanceMethod yX3_kindOf) (List.mem_of_getElem? (i := 288) (by decide +kernel)) rfl
theorem wg_289 : Cond.selects RX3 yX3_kindOf yX3_kindOf ∈ mgood := mgood_in (w := Cond.selects RX3 yX3_kindOf yX3_kindOf) (List.mem_of_getElem? (i := 289) (by decide +kernel)) rfl
theorem wg_54 : Cond.initialized RX3 ∈ mgood := mgood_in (w := Cond.initialized RX3) (List.mem_of_getElem? (i := 54) (by decide +kernel)) rfl
theorem cv_X8_84 : mcV RX8 84 yX3_kindOf 1 := ⟨wg_287, wg_288, wg_289, wg_54, by decide +kernel⟩
theorem wg_291 : Cond.methodLink RX8 88 yX3_setKind ∈ mgood := mgood_in (w := Cond.methodLink RX8 88 yX3_setKind) (List.mem_of_getElem? (i := 291) (by decide +kernel)) rfl
theorem wg_86 : Cond.instanceMethod yX3_setKind ∈ mgood := mgood_in (w := Cond.instanceMethod yX3_setKind) (List.mem_of_getElem? (i := 86) (by decide +kernel)) rfl
theorem wg_87 : Cond.selects RX3 yX3_setKind yX3_setKind ∈ mgood := mgood_in (w := Cond.selects RX3 yX3_setKind yX3_setKind) (List.mem_of_getElem? (i := 87) (by decide +kernel)) rfl
theorem cv_X8_88 : mcV RX8 88 yX3_setKind 2 := ⟨wg_291, wg_86, wg_87, wg_54, by decide +kernel⟩
theorem wg_296 : Cond.methodLink RX8 92 yX8_isWord ∈ mgood := mgood_in (w := Cond.methodLink RX8 92 yX8_isWord) (List.mem_of_getElem? (i := 296) (by decide +kernel)) rfl
theorem wg_97 : Cond.static yX8_isWord ∈ mgood := mgood_in (w := Cond.static yX8_isWord) (List.mem_of_getElem? (i := 97) (by decide +kernel)) rfl
theorem cs_X8_92 : mcS RX8 92 yX8_isWord (1) := ⟨wg_296, wg_97, wg_53, by decide +kernel⟩
theorem wg_297 : Cond.methodLink RX8 95 yX3_setTarget ∈ mgood := mgood_in (w := Cond.methodLink RX8 95 yX3_setTarget) (List.mem_of_getElem? (i := 297) (by decide +kernel)) rfl
theorem wg_93 : Cond.instanceMethod yX3_setTarget ∈ mgood := mgood_in (w := Cond.instanceMethod yX3_setTarget) (List.mem_of_getElem? (i := 93) (by decide +kernel)) rfl
theorem wg_94 : Cond.selects RX3 yX3_setTarget yX3_setTarget ∈ mgood := mgood_in (w := Cond.selects RX3 yX3_setTarget yX3_setTarget) (List.mem_of_getElem? (i := 94) (by decide +kernel)) rfl
theorem cv_X8_95 : mcV RX8 95 yX3_setTarget 3 := ⟨wg_297, wg_93, wg_94, wg_54, by decide +kernel⟩
theorem wg_298 : Cond.methodLink RX8 99 yX3_wordsOf ∈ mgood := mgood_in (w := Cond.methodLink RX8 99 yX3_wordsOf) (List.mem_of_getElem? (i := 298) (by decide +kernel)) rfl
theorem wg_299 : Cond.instanceMethod yX3_wordsOf ∈ mgood := mgood_in (w := Cond.instanceMethod yX3_wordsOf) (List.mem_of_getElem? (i := 299) (by decide +kernel)) rfl
theorem wg_300 : Cond.selects RX3 yX3_wordsOf yX3_wordsOf ∈ mgood := mgood_in (w := Cond.selects RX3 yX3_wordsOf yX3_wordsOf) (List.mem_of_getElem? (i := 300) (by decide +kernel)) rfl
theorem cv_X8_99 : mcV RX8 99 yX3_wordsOf 1 := ⟨wg_298, wg_299, wg_300, wg_54, by decide +kernel⟩
theorem wg_306 : Cond.methodLink RX8 102 yJ6_bitCount_0f7a4 ∈ mgood := mgood_in (w := Cond.methodLink RX8 102 yJ6_bitCount_0f7a4) (List.mem_of_getElem? (i := 306) (by decide +kernel)) rfl
theorem wg_307 : Cond.static yJ6_bitCount_0f7a4 ∈ mgood := mgood_in (w := Cond.static yJ6_bitCount_0f7a4) (List.mem_of_getElem? (i := 307) (by decide +kernel)) rfl
theorem wg_64 : Cond.initialized RJ6 ∈ mgood := mgood_in (w := Cond.initialized RJ6) (List.mem_of_getElem? (i := 64) (by decide +kernel)) rfl
theorem cs_X8_102 : mcS RX8 102 yJ6_bitCount_0f7a4 (1) := ⟨wg_306, wg_307, wg_64, by decide +kernel⟩
theorem wg_316 : Cond.methodLink RX8 107 yX3_targetOf ∈ mgood := mgood_in (w := Cond.methodLink RX8 107 yX3_targetOf) (List.mem_of_getElem? (i := 316) (by decide +kernel)) rfl
theorem wg_303 : Cond.instanceMethod yX3_targetOf ∈ mgood := mgood_in (w := Cond.instanceMethod yX3_targetOf) (List.mem_of_getElem? (i := 303) (by decide +kernel)) rfl
theorem wg_304 : Cond.selects RX3 yX3_targetOf yX3_targetOf ∈ mgood := mgood_in (w := Cond.selects RX3 yX3_targetOf yX3_targetOf) (List.mem_of_getElem? (i := 304) (by decide +kernel)) rfl
theorem cv_X8_107 : mcV RX8 107 yX3_targetOf 2 := ⟨wg_316, wg_303, wg_304, wg_54, by decide +kernel⟩
theorem wg_322 : Cond.methodLink RX8 112 yX3_take ∈ mgood := mgood_in (w := Cond.methodLink RX8 112 yX3_take) (List.mem_of_getElem? (i := 322) (by decide +kernel)) rfl
theorem wg_323 : Cond.instanceMethod yX3_take ∈ mgood := mgood_in (w := Cond.instanceMethod yX3_take) (List.mem_of_getElem? (i := 323) (by decide +kernel)) rfl
theorem wg_324 : Cond.selects RX3 yX3_take yX3_take ∈ mgood := mgood_in (w := Cond.selects RX3 yX3_take yX3_take) (List.mem_of_getElem? (i := 324) (by decide +kernel)) rfl
theorem cv_X8_112 : mcV RX8 112 yX3_take 1 := ⟨wg_322, wg_323, wg_324, wg_54, by decide +kernel⟩
theorem wg_326 : Cond.methodLink RX8 115 yX3_lastingStates ∈ mgood := mgood_in (w := Cond.methodLink RX8 115 yX3_lastingStates) (List.mem_of_getElem? (i := 326) (by decide +kernel)) rfl
theorem wg_327 : Cond.instanceMethod yX3_lastingStates ∈ mgood := mgood_in (w := Cond.instanceMethod yX3_lastingStates) (List.mem_of_getElem? (i := 327) (by decide +kernel)) rfl
theorem wg_328 : Cond.selects RX3 yX3_lastingStates yX3_lastingStates ∈ mgood := mgood_in (w := Cond.selects RX3 yX3_lastingStates yX3_lastingStates) (List.mem_of_getElem? (i := 328) (by decide +kernel)) rfl
theorem cv_X8_115 : mcV RX8 115 yX3_lastingStates 0 := ⟨wg_326, wg_327, wg_328, wg_54, by decide +kernel⟩
theorem wg_335 : Cond.methodLink RX8 119 yX3_swapSides ∈ mgood := mgood_in (w := Cond.methodLink RX8 119 yX3_swapSides) (List.mem_of_getElem? (i := 335) (by decide +kernel)) rfl
theorem wg_336 : Cond.instanceMethod yX3_swapSides ∈ mgood := mgood_in (w := Cond.instanceMethod yX3_swapSides) (List.mem_of_getElem? (i := 336) (by decide +kernel)) rfl
theorem wg_337 : Cond.selects RX3 yX3_swapSides yX3_swapSides ∈ mgood := mgood_in (w := Cond.selects RX3 yX3_swapSides yX3_swapSides) (List.mem_of_getElem? (i := 337) (by decide +kernel)) rfl
theorem cv_X8_119 : mcV RX8 119 yX3_swapSides 0 := ⟨wg_335, wg_336, wg_337, wg_54, by decide +kernel⟩
theorem wg_343 : Cond.methodLink RX8 122 yX1_compare ∈ mgood := mgood_in (w := Cond.methodLink RX8 122 yX1_compare) (List.mem_of_getElem? (i := 343) (by decide +kernel)) rfl
theorem wg_344 : Cond.instanceMethod yX1_compare ∈ mgood := mgood_in (w := Cond.instanceMethod yX1_compare) (List.mem_of_getElem? (i := 344) (by decide +kernel)) rfl
theorem wg_345 : Cond.selects RX1 yX1_compare yX1_compare ∈ mgood := mgood_in (w := Cond.selects RX1 yX1_compare yX1_compare) (List.mem_of_getElem? (i := 345) (by decide +kernel)) rfl
theorem wg_57 : Cond.initialized RX1 ∈ mgood := mgood_in (w := Cond.initialized RX1) (List.mem_of_getElem? (i := 57) (by decide +kernel)) rfl
theorem cv_X8_122 : mcV RX8 122 yX1_compare 1 := ⟨wg_343, wg_344, wg_345, wg_57, by decide +kernel⟩
theorem wg_366 : Cond.methodLink RX8 125 yX1_lowestAlike ∈ mgood := mgood_in (w := Cond.methodLink RX8 125 yX1_lowestAlike) (List.mem_of_getElem? (i := 366) (by decide +kernel)) rfl
theorem wg_367 : Cond.instanceMethod yX1_lowestAlike ∈ mgood := mgood_in (w := Cond.instanceMethod yX1_lowestAlike) (List.mem_of_getElem? (i := 367) (by decide +kernel)) rfl
theorem wg_368 : Cond.selects RX1 yX1_lowestAlike yX1_lowestAlike ∈ mgood := mgood_in (w := Cond.selects RX1 yX1_lowestAlike yX1_lowestAlike) (List.mem_of_getElem? (i := 368) (by decide +kernel)) rfl
theorem cv_X8_125 : mcV RX8 125 yX1_lowestAlike 1 := ⟨wg_366, wg_367, wg_368, wg_57, by decide +kernel⟩
theorem wg_370 : Cond.methodLink RX8 128 yX3_comesTo ∈ mgood := mgood_in (w := Cond.methodLink RX8 128 yX3_comesTo) (List.mem_of_getElem? (i := 370) (by decide +kernel)) rfl
theorem wg_371 : Cond.instanceMethod yX3_comesTo ∈ mgood := mgood_in (w := Cond.instanceMethod yX3_comesTo) (List.mem_of_getElem? (i := 371) (by decide +kernel)) rfl
theorem wg_372 : Cond.selects RX3 yX3_comesTo yX3_comesTo ∈ mgood := mgood_in (w := Cond.selects RX3 yX3_comesTo yX3_comesTo) (List.mem_of_getElem? (i := 372) (by decide +kernel)) rfl
theorem cv_X8_128 : mcV RX8 128 yX3_comesTo 1 := ⟨wg_370, wg_371, wg_372, wg_54, by decide +kernel⟩
theorem wg_381 : Cond.methodLink RX8 131 yX8_foundOr ∈ mgood := mgood_in (w := Cond.methodLink RX8 131 yX8_foundOr) (List.mem_of_getElem? (i := 381) (by decide +kernel)) rfl
theorem wg_382 : Cond.static yX8_foundOr ∈ mgood := mgood_in (w := Cond.static yX8_foundOr) (List.mem_of_getElem? (i := 382) (by decide +kernel)) rfl
theorem cs_X8_131 : mcS RX8 131 yX8_foundOr (1) := ⟨wg_381, wg_382, wg_53, by decide +kernel⟩
theorem wg_389 : Cond.methodLink RX8 134 yX8_holds ∈ mgood := mgood_in (w := Cond.methodLink RX8 134 yX8_holds) (List.mem_of_getElem? (i := 389) (by decide +kernel)) rfl
theorem wg_375 : Cond.static yX8_holds ∈ mgood := mgood_in (w := Cond.static yX8_holds) (List.mem_of_getElem? (i := 375) (by decide +kernel)) rfl
theorem cs_X8_134 : mcS RX8 134 yX8_holds (2) := ⟨wg_389, wg_375, wg_53, by decide +kernel⟩
theorem wg_394 : Cond.methodLink RX8 138 yX8_isPairQuestion ∈ mgood := mgood_in (w := Cond.methodLink RX8 138 yX8_isPairQuestion) (List.mem_of_getElem? (i := 394) (by decide +kernel)) rfl
theorem wg_395 : Cond.static yX8_isPairQuestion ∈ mgood := mgood_in (w := Cond.static yX8_isPairQuestion) (List.mem_of_getElem? (i := 395) (by decide +kernel)) rfl
theorem cs_X8_138 : mcS RX8 138 yX8_isPairQuestion (1) := ⟨wg_394, wg_395, wg_53, by decide +kernel⟩
theorem wg_397 : Cond.methodLink RX8 141 ⟨"MirroredTalks$TalkPairs", "walk", "(LMirroredTalks$Plan;LMirroredTalks$Plan;)V"⟩ ∈ mgood := mgood_in (w := Cond.methodLink RX8 141 ⟨"MirroredTalks$TalkPairs", "walk", "(LMirroredTalks$Plan;LMirroredTalks$Plan;)V"⟩) (List.mem_of_getElem? (i := 397) (by decide +kernel)) rfl
theorem wg_398 : Cond.sameMethod "MirroredTalks$TalkPairs" "MirroredTalks$Pairs" "walk" "(LMirroredTalks$Plan;LMirroredTalks$Plan;)V" ∈ mgood := mgood_in (w := Cond.sameMethod "MirroredTalks$TalkPairs" "MirroredTalks$Pairs" "walk" "(LMirroredTalks$Plan;LMirroredTalks$Plan;)V") (List.mem_of_getElem? (i := 398) (by decide +kernel)) rfl
theorem wg_400 : Cond.selects RX7 ⟨"MirroredTalks$TalkPairs", "walk", "(LMirroredTalks$Plan;LMirroredTalks$Plan;)V"⟩ yX2_walk ∈ mgood := mgood_in (w := Cond.selects RX7 ⟨"MirroredTalks$TalkPairs", "walk", "(LMirroredTalks$Plan;LMirroredTalks$Plan;)V"⟩ yX2_walk) (List.mem_of_getElem? (i := 400) (by decide +kernel)) rfl
theorem wg_401 : Cond.instanceMethod yX2_walk ∈ mgood := mgood_in (w := Cond.instanceMethod yX2_walk) (List.mem_of_getElem? (i := 401) (by decide +kernel)) rfl
theorem wg_58 : Cond.initialized RX2 ∈ mgood := mgood_in (w := Cond.initialized RX2) (List.mem_of_getElem? (i := 58) (by decide +kernel)) rfl
theorem cu_X8_141_X7 : mcU RX8 141 RX7 "MirroredTalks$Pairs" ⟨"MirroredTalks$TalkPairs", "walk", "(LMirroredTalks$Plan;LMirroredTalks$Plan;)V"⟩ yX2_walk 2 := ⟨List.forall_mem_cons.mpr ⟨wg_397, List.forall_mem_cons.mpr ⟨wg_398, List.forall_mem_cons.mpr ⟨wg_400, List.forall_mem_cons.mpr ⟨wg_401, List.forall_mem_cons.mpr ⟨wg_58, fun _ h => absurd h List.not_mem_nil⟩⟩⟩⟩⟩, Or.inl rfl, by decide +kernel⟩
theorem wg_446 : Cond.methodLink RX8 145 ⟨"MirroredTalks$TalkPairs", "firstFaulty", "()I"⟩ ∈ mgood := mgood_in (w := Cond.methodLink RX8 145 ⟨"MirroredTalks$TalkPairs", "firstFaulty", "()I"⟩) (List.mem_of_getElem? (i := 446) (by decide +kernel)) rfl
theorem wg_447 : Cond.sameMethod "MirroredTalks$TalkPairs" "MirroredTalks$Pairs" "firstFaulty" "()I" ∈ mgood := mgood_in (w := Cond.sameMethod "MirroredTalks$TalkPairs" "MirroredTalks$Pairs" "firstFaulty" "()I") (List.mem_of_getElem? (i := 447) (by decide +kernel)) rfl
theorem wg_449 : Cond.selects RX7 ⟨"MirroredTalks$TalkPairs", "firstFaulty", "()I"⟩ yX2_firstFaulty ∈ mgood := mgood_in (w := Cond.selects RX7 ⟨"MirroredTalks$TalkPairs", "firstFaulty", "()I"⟩ yX2_firstFaulty) (List.mem_of_getElem? (i := 449) (by decide +kernel)) rfl
theorem wg_450 : Cond.instanceMethod yX2_firstFaulty ∈ mgood := mgood_in (w := Cond.instanceMethod yX2_firstFaulty) (List.mem_of_getElem? (i := 450) (by decide +kernel)) rfl
theorem cu_X8_145_X7 : mcU RX8 145 RX7 "MirroredTalks$Pairs" ⟨"MirroredTalks$TalkPairs", "firstFaulty", "()I"⟩ yX2_firstFaulty 0 := ⟨List.forall_mem_cons.mpr ⟨wg_446, List.forall_mem_cons.mpr ⟨wg_447, List.forall_mem_cons.mpr ⟨wg_449, List.forall_mem_cons.mpr ⟨wg_450, List.forall_mem_cons.mpr ⟨wg_58, fun _ h => absurd h List.not_mem_nil⟩⟩⟩⟩⟩, Or.inl rfl, by decide +kernel⟩
theorem wg_474 : Cond.methodLink RX8 148 ⟨"MirroredTalks$TalkPairs", "has", "(I)Z"⟩ ∈ mgood := mgood_in (w := Cond.methodLink RX8 148 ⟨"MirroredTalks$TalkPairs", "has", "(I)Z"⟩) (List.mem_of_getElem? (i := 474) (by decide +kernel)) rfl
theorem wg_475 : Cond.sameMethod "MirroredTalks$TalkPairs" "MirroredTalks$Pairs" "has" "(I)Z" ∈ mgood := mgood_in (w := Cond.sameMethod "MirroredTalks$TalkPairs" "MirroredTalks$Pairs" "has" "(I)Z") (List.mem_of_getElem? (i := 475) (by decide +kernel)) rfl
theorem wg_477 : Cond.selects RX7 ⟨"MirroredTalks$TalkPairs", "has", "(I)Z"⟩ yX2_has ∈ mgood := mgood_in (w := Cond.selects RX7 ⟨"MirroredTalks$TalkPairs", "has", "(I)Z"⟩ yX2_has) (List.mem_of_getElem? (i := 477) (by decide +kernel)) rfl
theorem wg_478 : Cond.instanceMethod yX2_has ∈ mgood := mgood_in (w := Cond.instanceMethod yX2_has) (List.mem_of_getElem? (i := 478) (by decide +kernel)) rfl
theorem cu_X8_148_X7 : mcU RX8 148 RX7 "MirroredTalks$Pairs" ⟨"MirroredTalks$TalkPairs", "has", "(I)Z"⟩ yX2_has 1 := ⟨List.forall_mem_cons.mpr ⟨wg_474, List.forall_mem_cons.mpr ⟨wg_475, List.forall_mem_cons.mpr ⟨wg_477, List.forall_mem_cons.mpr ⟨wg_478, List.forall_mem_cons.mpr ⟨wg_58, fun _ h => absurd h List.not_mem_nil⟩⟩⟩⟩⟩, Or.inl rfl, by decide +kernel⟩
theorem wg_480 : Cond.methodLink RX8 152 ⟨"MirroredTalks$TalkPairs", "stateOfOne", "(I)I"⟩ ∈ mgood := mgood_in (w := Cond.methodLink RX8 152 ⟨"MirroredTalks$TalkPairs", "stateOfOne", "(I)I"⟩) (List.mem_of_getElem? (i := 480) (by decide +kernel)) rfl
theorem wg_481 : Cond.sameMethod "MirroredTalks$TalkPairs" "MirroredTalks$Pairs" "stateOfOne" "(I)I" ∈ mgood := mgood_in (w := Cond.sameMethod "MirroredTalks$TalkPairs" "MirroredTalks$Pairs" "stateOfOne" "(I)I") (List.mem_of_getElem? (i := 481) (by decide +kernel)) rfl
theorem wg_483 : Cond.selects RX7 ⟨"MirroredTalks$TalkPairs", "stateOfOne", "(I)I"⟩ yX2_stateOfOne ∈ mgood := mgood_in (w := Cond.selects RX7 ⟨"MirroredTalks$TalkPairs", "stateOfOne", "(I)I"⟩ yX2_stateOfOne) (List.mem_of_getElem? (i := 483) (by decide +kernel)) rfl
theorem wg_415 : Cond.instanceMethod yX2_stateOfOne ∈ mgood := mgood_in (w := Cond.instanceMethod yX2_stateOfOne) (List.mem_of_getElem? (i := 415) (by decide +kernel)) rfl
theorem cu_X8_152_X7 : mcU RX8 152 RX7 "MirroredTalks$Pairs" ⟨"MirroredTalks$TalkPairs", "stateOfOne", "(I)I"⟩ yX2_stateOfOne 1 := ⟨List.forall_mem_cons.mpr ⟨wg_480, List.forall_mem_cons.mpr ⟨wg_481, List.forall_mem_cons.mpr ⟨wg_483, List.forall_mem_cons.mpr ⟨wg_415, List.forall_mem_cons.mpr ⟨wg_58, fun _ h => absurd h List.not_mem_nil⟩⟩⟩⟩⟩, Or.inl rfl, by decide +kernel⟩
theorem wg_484 : Cond.methodLink RX8 155 ⟨"MirroredTalks$TalkPairs", "stateOfOther", "(I)I"⟩ ∈ mgood := mgood_in (w := Cond.methodLink RX8 155 ⟨"MirroredTalks$TalkPairs", "stateOfOther", "(I)I"⟩) (List.mem_of_getElem? (i := 484) (by decide +kernel)) rfl
theorem wg_485 : Cond.sameMethod "MirroredTalks$TalkPairs" "MirroredTalks$Pairs" "stateOfOther" "(I)I" ∈ mgood := mgood_in (w := Cond.sameMethod "MirroredTalks$TalkPairs" "MirroredTalks$Pairs" "stateOfOther" "(I)I") (List.mem_of_getElem? (i := 485) (by decide +kernel)) rfl
theorem wg_487 : Cond.selects RX7 ⟨"MirroredTalks$TalkPairs", "stateOfOther", "(I)I"⟩ yX2_stateOfOther ∈ mgood := mgood_in (w := Cond.selects RX7 ⟨"MirroredTalks$TalkPairs", "stateOfOther", "(I)I"⟩ yX2_stateOfOther) (List.mem_of_getElem? (i := 487) (by decide +kernel)) rfl
theorem wg_424 : Cond.instanceMethod yX2_stateOfOther ∈ mgood := mgood_in (w := Cond.instanceMethod yX2_stateOfOther) (List.mem_of_getElem? (i := 424) (by decide +kernel)) rfl
theorem cu_X8_155_X7 : mcU RX8 155 RX7 "MirroredTalks$Pairs" ⟨"MirroredTalks$TalkPairs", "stateOfOther", "(I)I"⟩ yX2_stateOfOther 1 := ⟨List.forall_mem_cons.mpr ⟨wg_484, List.forall_mem_cons.mpr ⟨wg_485, List.forall_mem_cons.mpr ⟨wg_487, List.forall_mem_cons.mpr ⟨wg_424, List.forall_mem_cons.mpr ⟨wg_58, fun _ h => absurd h List.not_mem_nil⟩⟩⟩⟩⟩, Or.inl rfl, by decide +kernel⟩
theorem wg_488 : Cond.methodLink RX8 158 ⟨"MirroredTalks$TalkPairs", "lengthOf", "(I)I"⟩ ∈ mgood := mgood_in (w := Cond.methodLink RX8 158 ⟨"MirroredTalks$TalkPairs", "lengthOf", "(I)I"⟩) (List.mem_of_getElem? (i := 488) (by decide +kernel)) rfl
theorem wg_489 : Cond.sameMethod "MirroredTalks$TalkPairs" "MirroredTalks$Pairs" "lengthOf" "(I)I" ∈ mgood := mgood_in (w := Cond.sameMethod "MirroredTalks$TalkPairs" "MirroredTalks$Pairs" "lengthOf" "(I)I") (List.mem_of_getElem? (i := 489) (by decide +kernel)) rfl
theorem wg_491 : Cond.selects RX7 ⟨"MirroredTalks$TalkPairs", "lengthOf", "(I)I"⟩ yX2_lengthOf ∈ mgood := mgood_in (w := Cond.selects RX7 ⟨"MirroredTalks$TalkPairs", "lengthOf", "(I)I"⟩ yX2_lengthOf) (List.mem_of_getElem? (i := 491) (by decide +kernel)) rfl
theorem wg_441 : Cond.instanceMethod yX2_lengthOf ∈ mgood := mgood_in (w := Cond.instanceMethod yX2_lengthOf) (List.mem_of_getElem? (i := 441) (by decide +kernel)) rfl
theorem cu_X8_158_X7 : mcU RX8 158 RX7 "MirroredTalks$Pairs" ⟨"MirroredTalks$TalkPairs", "lengthOf", "(I)I"⟩ yX2_lengthOf 1 := ⟨List.forall_mem_cons.mpr ⟨wg_488, List.forall_mem_cons.mpr ⟨wg_489, List.forall_mem_cons.mpr ⟨wg_491, List.forall_mem_cons.mpr ⟨wg_441, List.forall_mem_cons.mpr ⟨wg_58, fun _ h => absurd h List.not_mem_nil⟩⟩⟩⟩⟩, Or.inl rfl, by decide +kernel⟩
theorem wg_492 : Cond.methodLink RX8 161 ⟨"MirroredTalks$TalkPairs", "tellMore", "(II)I"⟩ ∈ mgood := mgood_in (w := Cond.methodLink RX8 161 ⟨"MirroredTalks$TalkPairs", "tellMore", "(II)I"⟩) (List.mem_of_getElem? (i := 492) (by decide +kernel)) rfl
theorem wg_493 : Cond.sameMethod "MirroredTalks$TalkPairs" "MirroredTalks$Pairs" "tellMore" "(II)I" ∈ mgood := mgood_in (w := Cond.sameMethod "MirroredTalks$TalkPairs" "MirroredTalks$Pairs" "tellMore" "(II)I") (List.mem_of_getElem? (i := 493) (by decide +kernel)) rfl
theorem wg_495 : Cond.selects RX7 ⟨"MirroredTalks$TalkPairs", "tellMore", "(II)I"⟩ yX2_tellMore ∈ mgood := mgood_in (w := Cond.selects RX7 ⟨"MirroredTalks$TalkPairs", "tellMore", "(II)I"⟩ yX2_tellMore) (List.mem_of_getElem? (i := 495) (by decide +kernel)) rfl
theorem wg_496 : Cond.instanceMethod yX2_tellMore ∈ mgood := mgood_in (w := Cond.instanceMethod yX2_tellMore) (List.mem_of_getElem? (i := 496) (by decide +kernel)) rfl
theorem cu_X8_161_X7 : mcU RX8 161 RX7 "MirroredTalks$Pairs" ⟨"MirroredTalks$TalkPairs", "tellMore", "(II)I"⟩ yX2_tellMore 2 := ⟨List.forall_mem_cons.mpr ⟨wg_492, List.forall_mem_cons.mpr ⟨wg_493, List.forall_mem_cons.mpr ⟨wg_495, List.forall_mem_cons.mpr ⟨wg_496, List.forall_mem_cons.mpr ⟨wg_58, fun _ h => absurd h List.not_mem_nil⟩⟩⟩⟩⟩, Or.inl rfl, by decide +kernel⟩
theorem wg_527 : Cond.methodLink RX8 164 ⟨"MirroredTalks$TalkPairs", "size", "()I"⟩ ∈ mgood := mgood_in (w := Cond.methodLink RX8 164 ⟨"MirroredTalks$TalkPairs", "size", "()I"⟩) (List.mem_of_getElem? (i := 527) (by decide +kernel)) rfl
theorem wg_528 : Cond.sameMethod "MirroredTalks$TalkPairs" "MirroredTalks$Pairs" "size" "()I" ∈ mgood := mgood_in (w := Cond.sameMethod "MirroredTalks$TalkPairs" "MirroredTalks$Pairs" "size" "()I") (List.mem_of_getElem? (i := 528) (by decide +kernel)) rfl
theorem wg_530 : Cond.selects RX7 ⟨"MirroredTalks$TalkPairs", "size", "()I"⟩ yX2_size ∈ mgood := mgood_in (w := Cond.selects RX7 ⟨"MirroredTalks$TalkPairs", "size", "()I"⟩ yX2_size) (List.mem_of_getElem? (i := 530) (by decide +kernel)) rfl
theorem wg_531 : Cond.instanceMethod yX2_size ∈ mgood := mgood_in (w := Cond.instanceMethod yX2_size) (List.mem_of_getElem? (i := 531) (by decide +kernel)) rfl
theorem cu_X8_164_X7 : mcU RX8 164 RX7 "MirroredTalks$Pairs" ⟨"MirroredTalks$TalkPairs", "size", "()I"⟩ yX2_size 0 := ⟨List.forall_mem_cons.mpr ⟨wg_527, List.forall_mem_cons.mpr ⟨wg_528, List.forall_mem_cons.mpr ⟨wg_530, List.forall_mem_cons.mpr ⟨wg_531, List.forall_mem_cons.mpr ⟨wg_58, fun _ h => absurd h List.not_mem_nil⟩⟩⟩⟩⟩, Or.inl rfl, by decide +kernel⟩
theorem wg_533 : Cond.methodLink RX8 167 yX7_stuckPairs ∈ mgood := mgood_in (w := Cond.methodLink RX8 167 yX7_stuckPairs) (List.mem_of_getElem? (i := 533) (by decide +kernel)) rfl
theorem wg_534 : Cond.instanceMethod yX7_stuckPairs ∈ mgood := mgood_in (w := Cond.instanceMethod yX7_stuckPairs) (List.mem_of_getElem? (i := 534) (by decide +kernel)) rfl
theorem wg_535 : Cond.selects RX7 yX7_stuckPairs yX7_stuckPairs ∈ mgood := mgood_in (w := Cond.selects RX7 yX7_stuckPairs yX7_stuckPairs) (List.mem_of_getElem? (i := 535) (by decide +kernel)) rfl
theorem wg_59 : Cond.initialized RX7 ∈ mgood := mgood_in (w := Cond.initialized RX7) (List.mem_of_getElem? (i := 59) (by decide +kernel)) rfl
theorem cv_X8_167 : mcV RX8 167 yX7_stuckPairs 0 := ⟨wg_533, wg_534, wg_535, wg_59, by decide +kernel⟩
theorem wg_542 : Cond.methodLink RX8 170 yX7_ends ∈ mgood := mgood_in (w := Cond.methodLink RX8 170 yX7_ends) (List.mem_of_getElem? (i := 542) (by decide +kernel)) rfl
theorem wg_543 : Cond.instanceMethod yX7_ends ∈ mgood := mgood_in (w := Cond.instanceMethod yX7_ends) (List.mem_of_getElem? (i := 543) (by decide +kernel)) rfl
theorem wg_544 : Cond.selects RX7 yX7_ends yX7_ends ∈ mgood := mgood_in (w := Cond.selects RX7 yX7_ends yX7_ends) (List.mem_of_getElem? (i := 544) (by decide +kernel)) rfl
theorem cv_X8_170 : mcV RX8 170 yX7_ends 0 := ⟨wg_542, wg_543, wg_544, wg_59, by decide +kernel⟩
theorem wg_558 : Cond.methodLink RX8 173 yX5_rowsToEnds ∈ mgood := mgood_in (w := Cond.methodLink RX8 173 yX5_rowsToEnds) (List.mem_of_getElem? (i := 558) (by decide +kernel)) rfl
theorem wg_559 : Cond.instanceMethod yX5_rowsToEnds ∈ mgood := mgood_in (w := Cond.instanceMethod yX5_rowsToEnds) (List.mem_of_getElem? (i := 559) (by decide +kernel)) rfl
theorem wg_560 : Cond.selects RX5 yX5_rowsToEnds yX5_rowsToEnds ∈ mgood := mgood_in (w := Cond.selects RX5 yX5_rowsToEnds yX5_rowsToEnds) (List.mem_of_getElem? (i := 560) (by decide +kernel)) rfl
theorem wg_60 : Cond.initialized RX5 ∈ mgood := mgood_in (w := Cond.initialized RX5) (List.mem_of_getElem? (i := 60) (by decide +kernel)) rfl
theorem cv_X8_173 : mcV RX8 173 yX5_rowsToEnds 1 := ⟨wg_558, wg_559, wg_560, wg_60, by decide +kernel⟩
theorem wg_602 : Cond.methodLink RX8 179 yX7_fewestWordsToEnd ∈ mgood := mgood_in (w := Cond.methodLink RX8 179 yX7_fewestWordsToEnd) (List.mem_of_getElem? (i := 602) (by decide +kernel)) rfl
theorem wg_603 : Cond.instanceMethod yX7_fewestWordsToEnd ∈ mgood := mgood_in (w := Cond.instanceMethod yX7_fewestWordsToEnd) (List.mem_of_getElem? (i := 603) (by decide +kernel)) rfl
theorem wg_604 : Cond.selects RX7 yX7_fewestWordsToEnd yX7_fewestWordsToEnd ∈ mgood := mgood_in (w := Cond.selects RX7 yX7_fewestWordsToEnd yX7_fewestWordsToEnd) (List.mem_of_getElem? (i := 604) (by decide +kernel)) rfl
theorem cv_X8_179 : mcV RX8 179 yX7_fewestWordsToEnd 0 := ⟨wg_602, wg_603, wg_604, wg_59, by decide +kernel⟩
theorem wg_607 : Cond.methodLink RX8 182 yX7_statesOfOne ∈ mgood := mgood_in (w := Cond.methodLink RX8 182 yX7_statesOfOne) (List.mem_of_getElem? (i := 607) (by decide +kernel)) rfl
theorem wg_608 : Cond.instanceMethod yX7_statesOfOne ∈ mgood := mgood_in (w := Cond.instanceMethod yX7_statesOfOne) (List.mem_of_getElem? (i := 608) (by decide +kernel)) rfl
theorem wg_609 : Cond.selects RX7 yX7_statesOfOne yX7_statesOfOne ∈ mgood := mgood_in (w := Cond.selects RX7 yX7_statesOfOne yX7_statesOfOne) (List.mem_of_getElem? (i := 609) (by decide +kernel)) rfl
theorem cv_X8_182 : mcV RX8 182 yX7_statesOfOne 0 := ⟨wg_607, wg_608, wg_609, wg_59, by decide +kernel⟩
theorem wg_612 : Cond.methodLink RX8 185 yX7_statesOfOther ∈ mgood := mgood_in (w := Cond.methodLink RX8 185 yX7_statesOfOther) (List.mem_of_getElem? (i := 612) (by decide +kernel)) rfl
theorem wg_613 : Cond.instanceMethod yX7_statesOfOther ∈ mgood := mgood_in (w := Cond.instanceMethod yX7_statesOfOther) (List.mem_of_getElem? (i := 613) (by decide +kernel)) rfl
theorem wg_614 : Cond.selects RX7 yX7_statesOfOther yX7_statesOfOther ∈ mgood := mgood_in (w := Cond.selects RX7 yX7_statesOfOther yX7_statesOfOther) (List.mem_of_getElem? (i := 614) (by decide +kernel)) rfl
theorem cv_X8_185 : mcV RX8 185 yX7_statesOfOther 0 := ⟨wg_612, wg_613, wg_614, wg_59, by decide +kernel⟩
theorem wg_629 : Cond.methodLink RX8 196 ⟨"MirroredTalks$StandInPairs", "walk", "(LMirroredTalks$Plan;LMirroredTalks$Plan;)V"⟩ ∈ mgood := mgood_in (w := Cond.methodLink RX8 196 ⟨"MirroredTalks$StandInPairs", "walk", "(LMirroredTalks$Plan;LMirroredTalks$Plan;)V"⟩) (List.mem_of_getElem? (i := 629) (by decide +kernel)) rfl
theorem wg_630 : Cond.sameMethod "MirroredTalks$StandInPairs" "MirroredTalks$Pairs" "walk" "(LMirroredTalks$Plan;LMirroredTalks$Plan;)V" ∈ mgood := mgood_in (w := Cond.sameMethod "MirroredTalks$StandInPairs" "MirroredTalks$Pairs" "walk" "(LMirroredTalks$Plan;LMirroredTalks$Plan;)V") (List.mem_of_getElem? (i := 630) (by decide +kernel)) rfl
theorem wg_631 : Cond.selects RX6 ⟨"MirroredTalks$StandInPairs", "walk", "(LMirroredTalks$Plan;LMirroredTalks$Plan;)V"⟩ yX2_walk ∈ mgood := mgood_in (w := Cond.selects RX6 ⟨"MirroredTalks$StandInPairs", "walk", "(LMirroredTalks$Plan;LMirroredTalks$Plan;)V"⟩ yX2_walk) (List.mem_of_getElem? (i := 631) (by decide +kernel)) rfl
theorem cu_X8_196_X6 : mcU RX8 196 RX6 "MirroredTalks$Pairs" ⟨"MirroredTalks$StandInPairs", "walk", "(LMirroredTalks$Plan;LMirroredTalks$Plan;)V"⟩ yX2_walk 2 := ⟨List.forall_mem_cons.mpr ⟨wg_629, List.forall_mem_cons.mpr ⟨wg_630, List.forall_mem_cons.mpr ⟨wg_631, List.forall_mem_cons.mpr ⟨wg_401, List.forall_mem_cons.mpr ⟨wg_58, fun _ h => absurd h List.not_mem_nil⟩⟩⟩⟩⟩, Or.inl rfl, by decide +kernel⟩
theorem wg_632 : Cond.methodLink RX8 197 ⟨"MirroredTalks$StandInPairs", "firstFaulty", "()I"⟩ ∈ mgood := mgood_in (w := Cond.methodLink RX8 197 ⟨"MirroredTalks$StandInPairs", "firstFaulty", "()I"⟩) (List.mem_of_getElem? (i := 632) (by decide +kernel)) rfl
theorem wg_633 : Cond.sameMethod "MirroredTalks$StandInPairs" "MirroredTalks$Pairs" "firstFaulty" "()I" ∈ mgood := mgood_in (w := Cond.sameMethod "MirroredTalks$StandInPairs" "MirroredTalks$Pairs" "firstFaulty" "()I") (List.mem_of_getElem? (i := 633) (by decide +kernel)) rfl
theorem wg_634 : Cond.selects RX6 ⟨"MirroredTalks$StandInPairs", "firstFaulty", "()I"⟩ yX2_firstFaulty ∈ mgood := mgood_in (w := Cond.selects RX6 ⟨"MirroredTalks$StandInPairs", "firstFaulty", "()I"⟩ yX2_firstFaulty) (List.mem_of_getElem? (i := 634) (by decide +kernel)) rfl
theorem cu_X8_197_X6 : mcU RX8 197 RX6 "MirroredTalks$Pairs" ⟨"MirroredTalks$StandInPairs", "firstFaulty", "()I"⟩ yX2_firstFaulty 0 := ⟨List.forall_mem_cons.mpr ⟨wg_632, List.forall_mem_cons.mpr ⟨wg_633, List.forall_mem_cons.mpr ⟨wg_634, List.forall_mem_cons.mpr ⟨wg_450, List.forall_mem_cons.mpr ⟨wg_58, fun _ h => absurd h List.not_mem_nil⟩⟩⟩⟩⟩, Or.inl rfl, by decide +kernel⟩
theorem wg_639 : Cond.methodLink RX8 198 ⟨"MirroredTalks$StandInPairs", "has", "(I)Z"⟩ ∈ mgood := mgood_in (w := Cond.methodLink RX8 198 ⟨"MirroredTalks$StandInPairs", "has", "(I)Z"⟩) (List.mem_of_getElem? (i := 639) (by decide +kernel)) rfl
theorem wg_640 : Cond.sameMethod "MirroredTalks$StandInPairs" "MirroredTalks$Pairs" "has" "(I)Z" ∈ mgood := mgood_in (w := Cond.sameMethod "MirroredTalks$StandInPairs" "MirroredTalks$Pairs" "has" "(I)Z") (List.mem_of_getElem? (i := 640) (by decide +kernel)) rfl
theorem wg_641 : Cond.selects RX6 ⟨"MirroredTalks$StandInPairs", "has", "(I)Z"⟩ yX2_has ∈ mgood := mgood_in (w := Cond.selects RX6 ⟨"MirroredTalks$StandInPairs", "has", "(I)Z"⟩ yX2_has) (List.mem_of_getElem? (i := 641) (by decide +kernel)) rfl
theorem cu_X8_198_X6 : mcU RX8 198 RX6 "MirroredTalks$Pairs" ⟨"MirroredTalks$StandInPairs", "has", "(I)Z"⟩ yX2_has 1 := ⟨List.forall_mem_cons.mpr ⟨wg_639, List.forall_mem_cons.mpr ⟨wg_640, List.forall_mem_cons.mpr ⟨wg_641, List.forall_mem_cons.mpr ⟨wg_478, List.forall_mem_cons.mpr ⟨wg_58, fun _ h => absurd h List.not_mem_nil⟩⟩⟩⟩⟩, Or.inl rfl, by decide +kernel⟩
theorem wg_642 : Cond.methodLink RX8 199 ⟨"MirroredTalks$StandInPairs", "lengthOf", "(I)I"⟩ ∈ mgood := mgood_in (w := Cond.methodLink RX8 199 ⟨"MirroredTalks$StandInPairs", "lengthOf", "(I)I"⟩) (List.mem_of_getElem? (i := 642) (by decide +kernel)) rfl
theorem wg_643 : Cond.sameMethod "MirroredTalks$StandInPairs" "MirroredTalks$Pairs" "lengthOf" "(I)I" ∈ mgood := mgood_in (w := Cond.sameMethod "MirroredTalks$StandInPairs" "MirroredTalks$Pairs" "lengthOf" "(I)I") (List.mem_of_getElem? (i := 643) (by decide +kernel)) rfl
theorem wg_644 : Cond.selects RX6 ⟨"MirroredTalks$StandInPairs", "lengthOf", "(I)I"⟩ yX2_lengthOf ∈ mgood := mgood_in (w := Cond.selects RX6 ⟨"MirroredTalks$StandInPairs", "lengthOf", "(I)I"⟩ yX2_lengthOf) (List.mem_of_getElem? (i := 644) (by decide +kernel)) rfl
theorem cu_X8_199_X6 : mcU RX8 199 RX6 "MirroredTalks$Pairs" ⟨"MirroredTalks$StandInPairs", "lengthOf", "(I)I"⟩ yX2_lengthOf 1 := ⟨List.forall_mem_cons.mpr ⟨wg_642, List.forall_mem_cons.mpr ⟨wg_643, List.forall_mem_cons.mpr ⟨wg_644, List.forall_mem_cons.mpr ⟨wg_441, List.forall_mem_cons.mpr ⟨wg_58, fun _ h => absurd h List.not_mem_nil⟩⟩⟩⟩⟩, Or.inl rfl, by decide +kernel⟩
theorem wg_645 : Cond.methodLink RX8 200 ⟨"MirroredTalks$StandInPairs", "stateOfOne", "(I)I"⟩ ∈ mgood := mgood_in (w := Cond.methodLink RX8 200 ⟨"MirroredTalks$StandInPairs", "stateOfOne", "(I)I"⟩) (List.mem_of_getElem? (i := 645) (by decide +kernel)) rfl
theorem wg_646 : Cond.sameMethod "MirroredTalks$StandInPairs" "MirroredTalks$Pairs" "stateOfOne" "(I)I" ∈ mgood := mgood_in (w := Cond.sameMethod "MirroredTalks$StandInPairs" "MirroredTalks$Pairs" "stateOfOne" "(I)I") (List.mem_of_getElem? (i := 646) (by decide +kernel)) rfl
theorem wg_647 : Cond.selects RX6 ⟨"MirroredTalks$StandInPairs", "stateOfOne", "(I)I"⟩ yX2_stateOfOne ∈ mgood := mgood_in (w := Cond.selects RX6 ⟨"MirroredTalks$StandInPairs", "stateOfOne", "(I)I"⟩ yX2_stateOfOne) (List.mem_of_getElem? (i := 647) (by decide +kernel)) rfl
theorem cu_X8_200_X6 : mcU RX8 200 RX6 "MirroredTalks$Pairs" ⟨"MirroredTalks$StandInPairs", "stateOfOne", "(I)I"⟩ yX2_stateOfOne 1 := ⟨List.forall_mem_cons.mpr ⟨wg_645, List.forall_mem_cons.mpr ⟨wg_646, List.forall_mem_cons.mpr ⟨wg_647, List.forall_mem_cons.mpr ⟨wg_415, List.forall_mem_cons.mpr ⟨wg_58, fun _ h => absurd h List.not_mem_nil⟩⟩⟩⟩⟩, Or.inl rfl, by decide +kernel⟩
theorem wg_648 : Cond.methodLink RX8 201 ⟨"MirroredTalks$StandInPairs", "stateOfOther", "(I)I"⟩ ∈ mgood := mgood_in (w := Cond.methodLink RX8 201 ⟨"MirroredTalks$StandInPairs", "stateOfOther", "(I)I"⟩) (List.mem_of_getElem? (i := 648) (by decide +kernel)) rfl
theorem wg_649 : Cond.sameMethod "MirroredTalks$StandInPairs" "MirroredTalks$Pairs" "stateOfOther" "(I)I" ∈ mgood := mgood_in (w := Cond.sameMethod "MirroredTalks$StandInPairs" "MirroredTalks$Pairs" "stateOfOther" "(I)I") (List.mem_of_getElem? (i := 649) (by decide +kernel)) rfl
theorem wg_650 : Cond.selects RX6 ⟨"MirroredTalks$StandInPairs", "stateOfOther", "(I)I"⟩ yX2_stateOfOther ∈ mgood := mgood_in (w := Cond.selects RX6 ⟨"MirroredTalks$StandInPairs", "stateOfOther", "(I)I"⟩ yX2_stateOfOther) (List.mem_of_getElem? (i := 650) (by decide +kernel)) rfl
theorem cu_X8_201_X6 : mcU RX8 201 RX6 "MirroredTalks$Pairs" ⟨"MirroredTalks$StandInPairs", "stateOfOther", "(I)I"⟩ yX2_stateOfOther 1 := ⟨List.forall_mem_cons.mpr ⟨wg_648, List.forall_mem_cons.mpr ⟨wg_649, List.forall_mem_cons.mpr ⟨wg_650, List.forall_mem_cons.mpr ⟨wg_424, List.forall_mem_cons.mpr ⟨wg_58, fun _ h => absurd h List.not_mem_nil⟩⟩⟩⟩⟩, Or.inl rfl, by decide +kernel⟩
theorem wg_651 : Cond.methodLink RX8 202 ⟨"MirroredTalks$StandInPairs", "tellMore", "(II)I"⟩ ∈ mgood := mgood_in (w := Cond.methodLink RX8 202 ⟨"MirroredTalks$StandInPairs", "tellMore", "(II)I"⟩) (List.mem_of_getElem? (i := 651) (by decide +kernel)) rfl
theorem wg_652 : Cond.sameMethod "MirroredTalks$StandInPairs" "MirroredTalks$Pairs" "tellMore" "(II)I" ∈ mgood := mgood_in (w := Cond.sameMethod "MirroredTalks$StandInPairs" "MirroredTalks$Pairs" "tellMore" "(II)I") (List.mem_of_getElem? (i := 652) (by decide +kernel)) rfl
theorem wg_653 : Cond.selects RX6 ⟨"MirroredTalks$StandInPairs", "tellMore", "(II)I"⟩ yX2_tellMore ∈ mgood := mgood_in (w := Cond.selects RX6 ⟨"MirroredTalks$StandInPairs", "tellMore", "(II)I"⟩ yX2_tellMore) (List.mem_of_getElem? (i := 653) (by decide +kernel)) rfl
theorem cu_X8_202_X6 : mcU RX8 202 RX6 "MirroredTalks$Pairs" ⟨"MirroredTalks$StandInPairs", "tellMore", "(II)I"⟩ yX2_tellMore 2 := ⟨List.forall_mem_cons.mpr ⟨wg_651, List.forall_mem_cons.mpr ⟨wg_652, List.forall_mem_cons.mpr ⟨wg_653, List.forall_mem_cons.mpr ⟨wg_496, List.forall_mem_cons.mpr ⟨wg_58, fun _ h => absurd h List.not_mem_nil⟩⟩⟩⟩⟩, Or.inl rfl, by decide +kernel⟩
theorem wg_658 : Cond.methodLink RX8 203 yX8_standsIn ∈ mgood := mgood_in (w := Cond.methodLink RX8 203 yX8_standsIn) (List.mem_of_getElem? (i := 658) (by decide +kernel)) rfl
theorem wg_626 : Cond.instanceMethod yX8_standsIn ∈ mgood := mgood_in (w := Cond.instanceMethod yX8_standsIn) (List.mem_of_getElem? (i := 626) (by decide +kernel)) rfl
theorem wg_627 : Cond.selects RX8 yX8_standsIn yX8_standsIn ∈ mgood := mgood_in (w := Cond.selects RX8 yX8_standsIn yX8_standsIn) (List.mem_of_getElem? (i := 627) (by decide +kernel)) rfl
theorem cv_X8_203 : mcV RX8 203 yX8_standsIn 2 := ⟨wg_658, wg_626, wg_627, wg_53, by decide +kernel⟩
theorem wg_659 : Cond.methodLink RX8 206 yX3_arrows ∈ mgood := mgood_in (w := Cond.methodLink RX8 206 yX3_arrows) (List.mem_of_getElem? (i := 659) (by decide +kernel)) rfl
theorem wg_660 : Cond.instanceMethod yX3_arrows ∈ mgood := mgood_in (w := Cond.instanceMethod yX3_arrows) (List.mem_of_getElem? (i := 660) (by decide +kernel)) rfl
theorem wg_661 : Cond.selects RX3 yX3_arrows yX3_arrows ∈ mgood := mgood_in (w := Cond.selects RX3 yX3_arrows yX3_arrows) (List.mem_of_getElem? (i := 661) (by decide +kernel)) rfl
theorem cv_X8_206 : mcV RX8 206 yX3_arrows 0 := ⟨wg_659, wg_660, wg_661, wg_54, by decide +kernel⟩
theorem wg_665 : Cond.methodLink RX8 209 yX0_size ∈ mgood := mgood_in (w := Cond.methodLink RX8 209 yX0_size) (List.mem_of_getElem? (i := 665) (by decide +kernel)) rfl
theorem wg_666 : Cond.instanceMethod yX0_size ∈ mgood := mgood_in (w := Cond.instanceMethod yX0_size) (List.mem_of_getElem? (i := 666) (by decide +kernel)) rfl
theorem wg_667 : Cond.selects RX0 yX0_size yX0_size ∈ mgood := mgood_in (w := Cond.selects RX0 yX0_size yX0_size) (List.mem_of_getElem? (i := 667) (by decide +kernel)) rfl
theorem wg_55 : Cond.initialized RX0 ∈ mgood := mgood_in (w := Cond.initialized RX0) (List.mem_of_getElem? (i := 55) (by decide +kernel)) rfl
theorem cv_X8_209 : mcV RX8 209 yX0_size 0 := ⟨wg_665, wg_666, wg_667, wg_55, by decide +kernel⟩
theorem wg_669 : Cond.methodLink RX8 210 yX4_length ∈ mgood := mgood_in (w := Cond.methodLink RX8 210 yX4_length) (List.mem_of_getElem? (i := 669) (by decide +kernel)) rfl
theorem wg_670 : Cond.instanceMethod yX4_length ∈ mgood := mgood_in (w := Cond.instanceMethod yX4_length) (List.mem_of_getElem? (i := 670) (by decide +kernel)) rfl
theorem wg_671 : Cond.selects RX4 yX4_length yX4_length ∈ mgood := mgood_in (w := Cond.selects RX4 yX4_length yX4_length) (List.mem_of_getElem? (i := 671) (by decide +kernel)) rfl
theorem wg_56 : Cond.initialized RX4 ∈ mgood := mgood_in (w := Cond.initialized RX4) (List.mem_of_getElem? (i := 56) (by decide +kernel)) rfl
theorem cv_X8_210 : mcV RX8 210 yX4_length 0 := ⟨wg_669, wg_670, wg_671, wg_56, by decide +kernel⟩
theorem wg_677 : Cond.methodLink RX8 213 yX0_restore ∈ mgood := mgood_in (w := Cond.methodLink RX8 213 yX0_restore) (List.mem_of_getElem? (i := 677) (by decide +kernel)) rfl
theorem wg_678 : Cond.instanceMethod yX0_restore ∈ mgood := mgood_in (w := Cond.instanceMethod yX0_restore) (List.mem_of_getElem? (i := 678) (by decide +kernel)) rfl
theorem wg_679 : Cond.selects RX0 yX0_restore yX0_restore ∈ mgood := mgood_in (w := Cond.selects RX0 yX0_restore yX0_restore) (List.mem_of_getElem? (i := 679) (by decide +kernel)) rfl
theorem cv_X8_213 : mcV RX8 213 yX0_restore 3 := ⟨wg_677, wg_678, wg_679, wg_55, by decide +kernel⟩
theorem wg_689 : Cond.methodLink RX8 217 yX4_isFull ∈ mgood := mgood_in (w := Cond.methodLink RX8 217 yX4_isFull) (List.mem_of_getElem? (i := 689) (by decide +kernel)) rfl
theorem wg_690 : Cond.instanceMethod yX4_isFull ∈ mgood := mgood_in (w := Cond.instanceMethod yX4_isFull) (List.mem_of_getElem? (i := 690) (by decide +kernel)) rfl
theorem wg_691 : Cond.selects RX4 yX4_isFull yX4_isFull ∈ mgood := mgood_in (w := Cond.selects RX4 yX4_isFull yX4_isFull) (List.mem_of_getElem? (i := 691) (by decide +kernel)) rfl
theorem cv_X8_217 : mcV RX8 217 yX4_isFull 0 := ⟨wg_689, wg_690, wg_691, wg_56, by decide +kernel⟩
theorem wg_694 : Cond.methodLink RX8 222 yX4_append ∈ mgood := mgood_in (w := Cond.methodLink RX8 222 yX4_append) (List.mem_of_getElem? (i := 694) (by decide +kernel)) rfl
theorem wg_695 : Cond.instanceMethod yX4_append ∈ mgood := mgood_in (w := Cond.instanceMethod yX4_append) (List.mem_of_getElem? (i := 695) (by decide +kernel)) rfl
theorem wg_696 : Cond.selects RX4 yX4_append yX4_append ∈ mgood := mgood_in (w := Cond.selects RX4 yX4_append yX4_append) (List.mem_of_getElem? (i := 696) (by decide +kernel)) rfl
theorem cv_X8_222 : mcV RX8 222 yX4_append 1 := ⟨wg_694, wg_695, wg_696, wg_56, by decide +kernel⟩
theorem wg_702 : Cond.methodLink RX8 226 yX4_clear ∈ mgood := mgood_in (w := Cond.methodLink RX8 226 yX4_clear) (List.mem_of_getElem? (i := 702) (by decide +kernel)) rfl
theorem wg_703 : Cond.instanceMethod yX4_clear ∈ mgood := mgood_in (w := Cond.instanceMethod yX4_clear) (List.mem_of_getElem? (i := 703) (by decide +kernel)) rfl
theorem wg_704 : Cond.selects RX4 yX4_clear yX4_clear ∈ mgood := mgood_in (w := Cond.selects RX4 yX4_clear yX4_clear) (List.mem_of_getElem? (i := 704) (by decide +kernel)) rfl
theorem cv_X8_226 : mcV RX8 226 yX4_clear 0 := ⟨wg_702, wg_703, wg_704, wg_56, by decide +kernel⟩
theorem wg_710 : Cond.methodLink RX8 229 yX4_parse ∈ mgood := mgood_in (w := Cond.methodLink RX8 229 yX4_parse) (List.mem_of_getElem? (i := 710) (by decide +kernel)) rfl
theorem wg_711 : Cond.instanceMethod yX4_parse ∈ mgood := mgood_in (w := Cond.instanceMethod yX4_parse) (List.mem_of_getElem? (i := 711) (by decide +kernel)) rfl
theorem wg_712 : Cond.selects RX4 yX4_parse yX4_parse ∈ mgood := mgood_in (w := Cond.selects RX4 yX4_parse yX4_parse) (List.mem_of_getElem? (i := 712) (by decide +kernel)) rfl
theorem cv_X8_229 : mcV RX8 229 yX4_parse 0 := ⟨wg_710, wg_711, wg_712, wg_56, by decide +kernel⟩
theorem wg_741 : Cond.methodLink RX8 232 yX4_isFaulty ∈ mgood := mgood_in (w := Cond.methodLink RX8 232 yX4_isFaulty) (List.mem_of_getElem? (i := 741) (by decide +kernel)) rfl
theorem wg_720 : Cond.instanceMethod yX4_isFaulty ∈ mgood := mgood_in (w := Cond.instanceMethod yX4_isFaulty) (List.mem_of_getElem? (i := 720) (by decide +kernel)) rfl
theorem wg_721 : Cond.selects RX4 yX4_isFaulty yX4_isFaulty ∈ mgood := mgood_in (w := Cond.selects RX4 yX4_isFaulty yX4_isFaulty) (List.mem_of_getElem? (i := 721) (by decide +kernel)) rfl
theorem cv_X8_232 : mcV RX8 232 yX4_isFaulty 0 := ⟨wg_741, wg_720, wg_721, wg_56, by decide +kernel⟩
theorem wg_742 : Cond.methodLink RX8 235 yX4_faultPosition ∈ mgood := mgood_in (w := Cond.methodLink RX8 235 yX4_faultPosition) (List.mem_of_getElem? (i := 742) (by decide +kernel)) rfl
theorem wg_743 : Cond.instanceMethod yX4_faultPosition ∈ mgood := mgood_in (w := Cond.instanceMethod yX4_faultPosition) (List.mem_of_getElem? (i := 743) (by decide +kernel)) rfl
theorem wg_744 : Cond.selects RX4 yX4_faultPosition yX4_faultPosition ∈ mgood := mgood_in (w := Cond.selects RX4 yX4_faultPosition yX4_faultPosition) (List.mem_of_getElem? (i := 744) (by decide +kernel)) rfl
theorem cv_X8_235 : mcV RX8 235 yX4_faultPosition 0 := ⟨wg_742, wg_743, wg_744, wg_56, by decide +kernel⟩
theorem wg_746 : Cond.methodLink RX8 238 yX4_faultReason ∈ mgood := mgood_in (w := Cond.methodLink RX8 238 yX4_faultReason) (List.mem_of_getElem? (i := 746) (by decide +kernel)) rfl
theorem wg_747 : Cond.instanceMethod yX4_faultReason ∈ mgood := mgood_in (w := Cond.instanceMethod yX4_faultReason) (List.mem_of_getElem? (i := 747) (by decide +kernel)) rfl
theorem wg_748 : Cond.selects RX4 yX4_faultReason yX4_faultReason ∈ mgood := mgood_in (w := Cond.selects RX4 yX4_faultReason yX4_faultReason) (List.mem_of_getElem? (i := 748) (by decide +kernel)) rfl
theorem cv_X8_238 : mcV RX8 238 yX4_faultReason 0 := ⟨wg_746, wg_747, wg_748, wg_56, by decide +kernel⟩
theorem wg_750 : Cond.methodLink RX8 241 yX4_faultCause ∈ mgood := mgood_in (w := Cond.methodLink RX8 241 yX4_faultCause) (List.mem_of_getElem? (i := 750) (by decide +kernel)) rfl
theorem wg_751 : Cond.instanceMethod yX4_faultCause ∈ mgood := mgood_in (w := Cond.instanceMethod yX4_faultCause) (List.mem_of_getElem? (i := 751) (by decide +kernel)) rfl
theorem wg_752 : Cond.selects RX4 yX4_faultCause yX4_faultCause ∈ mgood := mgood_in (w := Cond.selects RX4 yX4_faultCause yX4_faultCause) (List.mem_of_getElem? (i := 752) (by decide +kernel)) rfl
theorem cv_X8_241 : mcV RX8 241 yX4_faultCause 0 := ⟨wg_750, wg_751, wg_752, wg_56, by decide +kernel⟩
theorem wg_758 : Cond.methodLink RX8 244 yX4_draft ∈ mgood := mgood_in (w := Cond.methodLink RX8 244 yX4_draft) (List.mem_of_getElem? (i := 758) (by decide +kernel)) rfl
theorem wg_759 : Cond.instanceMethod yX4_draft ∈ mgood := mgood_in (w := Cond.instanceMethod yX4_draft) (List.mem_of_getElem? (i := 759) (by decide +kernel)) rfl
theorem wg_760 : Cond.selects RX4 yX4_draft yX4_draft ∈ mgood := mgood_in (w := Cond.selects RX4 yX4_draft yX4_draft) (List.mem_of_getElem? (i := 760) (by decide +kernel)) rfl
theorem cv_X8_244 : mcV RX8 244 yX4_draft 0 := ⟨wg_758, wg_759, wg_760, wg_56, by decide +kernel⟩
theorem wg_762 : Cond.methodLink RX8 248 yX4_toldStates ∈ mgood := mgood_in (w := Cond.methodLink RX8 248 yX4_toldStates) (List.mem_of_getElem? (i := 762) (by decide +kernel)) rfl
theorem wg_763 : Cond.instanceMethod yX4_toldStates ∈ mgood := mgood_in (w := Cond.instanceMethod yX4_toldStates) (List.mem_of_getElem? (i := 763) (by decide +kernel)) rfl
theorem wg_764 : Cond.selects RX4 yX4_toldStates yX4_toldStates ∈ mgood := mgood_in (w := Cond.selects RX4 yX4_toldStates yX4_toldStates) (List.mem_of_getElem? (i := 764) (by decide +kernel)) rfl
theorem cv_X8_248 : mcV RX8 248 yX4_toldStates 0 := ⟨wg_762, wg_763, wg_764, wg_56, by decide +kernel⟩
theorem wg_271 : Cond.methodLink RX8 251 yX0_record ∈ mgood := mgood_in (w := Cond.methodLink RX8 251 yX0_record) (List.mem_of_getElem? (i := 271) (by decide +kernel)) rfl
theorem wg_272 : Cond.instanceMethod yX0_record ∈ mgood := mgood_in (w := Cond.instanceMethod yX0_record) (List.mem_of_getElem? (i := 272) (by decide +kernel)) rfl
theorem wg_273 : Cond.selects RX0 yX0_record yX0_record ∈ mgood := mgood_in (w := Cond.selects RX0 yX0_record yX0_record) (List.mem_of_getElem? (i := 273) (by decide +kernel)) rfl
theorem cv_X8_251 : mcV RX8 251 yX0_record 3 := ⟨wg_271, wg_272, wg_273, wg_55, by decide +kernel⟩
theorem wg_857 : Cond.methodLink RX9 59 yX9_in ∈ mgood := mgood_in (w := Cond.methodLink RX9 59 yX9_in) (List.mem_of_getElem? (i := 857) (by decide +kernel)) rfl
theorem wg_858 : Cond.static yX9_in ∈ mgood := mgood_in (w := Cond.static yX9_in) (List.mem_of_getElem? (i := 858) (by decide +kernel)) rfl
theorem wg_62 : Cond.initialized RX9 ∈ mgood := mgood_in (w := Cond.initialized RX9) (List.mem_of_getElem? (i := 62) (by decide +kernel)) rfl
theorem cs_X9_59 : mcS RX9 59 yX9_in (3) := ⟨wg_857, wg_858, wg_62, by decide +kernel⟩
theorem wg_879 : Cond.methodLink RX9 63 yX9_placeOf ∈ mgood := mgood_in (w := Cond.methodLink RX9 63 yX9_placeOf) (List.mem_of_getElem? (i := 879) (by decide +kernel)) rfl
theorem wg_880 : Cond.static yX9_placeOf ∈ mgood := mgood_in (w := Cond.static yX9_placeOf) (List.mem_of_getElem? (i := 880) (by decide +kernel)) rfl
theorem cs_X9_63 : mcS RX9 63 yX9_placeOf (3) := ⟨wg_879, wg_880, wg_62, by decide +kernel⟩
theorem wg_868 : Cond.methodLink RX9 67 yX9_kindOf ∈ mgood := mgood_in (w := Cond.methodLink RX9 67 yX9_kindOf) (List.mem_of_getElem? (i := 868) (by decide +kernel)) rfl
theorem wg_870 : Cond.instanceMethod yX9_kindOf ∈ mgood := mgood_in (w := Cond.instanceMethod yX9_kindOf) (List.mem_of_getElem? (i := 870) (by decide +kernel)) rfl
theorem wg_14 : Cond.selects RX9 yX9_kindOf yX9_kindOf ∈ mgood := mgood_in (w := Cond.selects RX9 yX9_kindOf yX9_kindOf) (List.mem_of_getElem? (i := 14) (by decide +kernel)) rfl
theorem cv_X9_67 : mcV RX9 67 yX9_kindOf 2 := ⟨wg_868, wg_870, wg_14, wg_62, by decide +kernel⟩
theorem wg_886 : Cond.methodLink RX9 71 yX9_led ∈ mgood := mgood_in (w := Cond.methodLink RX9 71 yX9_led) (List.mem_of_getElem? (i := 886) (by decide +kernel)) rfl
theorem wg_888 : Cond.instanceMethod yX9_led ∈ mgood := mgood_in (w := Cond.instanceMethod yX9_led) (List.mem_of_getElem? (i := 888) (by decide +kernel)) rfl
theorem wg_16 : Cond.selects RX9 yX9_led yX9_led ∈ mgood := mgood_in (w := Cond.selects RX9 yX9_led yX9_led) (List.mem_of_getElem? (i := 16) (by decide +kernel)) rfl
theorem cv_X9_71 : mcV RX9 71 yX9_led 3 := ⟨wg_886, wg_888, wg_16, wg_62, by decide +kernel⟩
theorem wg_854 : Cond.methodLink RX9 74 yX9_isPlan ∈ mgood := mgood_in (w := Cond.methodLink RX9 74 yX9_isPlan) (List.mem_of_getElem? (i := 854) (by decide +kernel)) rfl
theorem wg_855 : Cond.static yX9_isPlan ∈ mgood := mgood_in (w := Cond.static yX9_isPlan) (List.mem_of_getElem? (i := 855) (by decide +kernel)) rfl
theorem cs_X9_74 : mcS RX9 74 yX9_isPlan (1) := ⟨wg_854, wg_855, wg_62, by decide +kernel⟩
theorem wg_860 : Cond.methodLink RX9 78 yX9_isState ∈ mgood := mgood_in (w := Cond.methodLink RX9 78 yX9_isState) (List.mem_of_getElem? (i := 860) (by decide +kernel)) rfl
theorem wg_861 : Cond.static yX9_isState ∈ mgood := mgood_in (w := Cond.static yX9_isState) (List.mem_of_getElem? (i := 861) (by decide +kernel)) rfl
theorem cs_X9_78 : mcS RX9 78 yX9_isState (1) := ⟨wg_860, wg_861, wg_62, by decide +kernel⟩
theorem wg_864 : Cond.methodLink RX9 82 yX9_records ∈ mgood := mgood_in (w := Cond.methodLink RX9 82 yX9_records) (List.mem_of_getElem? (i := 864) (by decide +kernel)) rfl
theorem wg_866 : Cond.instanceMethod yX9_records ∈ mgood := mgood_in (w := Cond.instanceMethod yX9_records) (List.mem_of_getElem? (i := 866) (by decide +kernel)) rfl
theorem wg_13 : Cond.selects RX9 yX9_records yX9_records ∈ mgood := mgood_in (w := Cond.selects RX9 yX9_records yX9_records) (List.mem_of_getElem? (i := 13) (by decide +kernel)) rfl
theorem cv_X9_82 : mcV RX9 82 yX9_records 0 := ⟨wg_864, wg_866, wg_13, wg_62, by decide +kernel⟩
theorem wg_876 : Cond.methodLink RX9 85 yX9_isWord ∈ mgood := mgood_in (w := Cond.methodLink RX9 85 yX9_isWord) (List.mem_of_getElem? (i := 876) (by decide +kernel)) rfl
theorem wg_877 : Cond.static yX9_isWord ∈ mgood := mgood_in (w := Cond.static yX9_isWord) (List.mem_of_getElem? (i := 877) (by decide +kernel)) rfl
theorem cs_X9_85 : mcS RX9 85 yX9_isWord (1) := ⟨wg_876, wg_877, wg_62, by decide +kernel⟩
theorem wg_882 : Cond.methodLink RX9 88 yX9_words ∈ mgood := mgood_in (w := Cond.methodLink RX9 88 yX9_words) (List.mem_of_getElem? (i := 882) (by decide +kernel)) rfl
theorem wg_884 : Cond.instanceMethod yX9_words ∈ mgood := mgood_in (w := Cond.instanceMethod yX9_words) (List.mem_of_getElem? (i := 884) (by decide +kernel)) rfl
theorem wg_15 : Cond.selects RX9 yX9_words yX9_words ∈ mgood := mgood_in (w := Cond.selects RX9 yX9_words yX9_words) (List.mem_of_getElem? (i := 15) (by decide +kernel)) rfl
theorem cv_X9_88 : mcV RX9 88 yX9_words 2 := ⟨wg_882, wg_884, wg_15, wg_62, by decide +kernel⟩
theorem wg_890 : Cond.methodLink RX9 91 yX9_bits ∈ mgood := mgood_in (w := Cond.methodLink RX9 91 yX9_bits) (List.mem_of_getElem? (i := 890) (by decide +kernel)) rfl
theorem wg_891 : Cond.static yX9_bits ∈ mgood := mgood_in (w := Cond.static yX9_bits) (List.mem_of_getElem? (i := 891) (by decide +kernel)) rfl
theorem cs_X9_91 : mcS RX9 91 yX9_bits (1) := ⟨wg_890, wg_891, wg_62, by decide +kernel⟩
theorem wg_902 : Cond.methodLink RX9 96 yX9_going ∈ mgood := mgood_in (w := Cond.methodLink RX9 96 yX9_going) (List.mem_of_getElem? (i := 902) (by decide +kernel)) rfl
theorem wg_904 : Cond.instanceMethod yX9_going ∈ mgood := mgood_in (w := Cond.instanceMethod yX9_going) (List.mem_of_getElem? (i := 904) (by decide +kernel)) rfl
theorem wg_17 : Cond.selects RX9 yX9_going yX9_going ∈ mgood := mgood_in (w := Cond.selects RX9 yX9_going yX9_going) (List.mem_of_getElem? (i := 17) (by decide +kernel)) rfl
theorem cv_X9_96 : mcV RX9 96 yX9_going 1 := ⟨wg_902, wg_904, wg_17, wg_62, by decide +kernel⟩
theorem wg_930 : Cond.methodLink RX9 99 yX9_leads ∈ mgood := mgood_in (w := Cond.methodLink RX9 99 yX9_leads) (List.mem_of_getElem? (i := 930) (by decide +kernel)) rfl
theorem wg_932 : Cond.instanceMethod yX9_leads ∈ mgood := mgood_in (w := Cond.instanceMethod yX9_leads) (List.mem_of_getElem? (i := 932) (by decide +kernel)) rfl
theorem wg_22 : Cond.selects RX9 yX9_leads yX9_leads ∈ mgood := mgood_in (w := Cond.selects RX9 yX9_leads yX9_leads) (List.mem_of_getElem? (i := 22) (by decide +kernel)) rfl
theorem cv_X9_99 : mcV RX9 99 yX9_leads 3 := ⟨wg_930, wg_932, wg_22, wg_62, by decide +kernel⟩
theorem wg_922 : Cond.methodLink RX9 102 yX9_haveSame ∈ mgood := mgood_in (w := Cond.methodLink RX9 102 yX9_haveSame) (List.mem_of_getElem? (i := 922) (by decide +kernel)) rfl
theorem wg_924 : Cond.instanceMethod yX9_haveSame ∈ mgood := mgood_in (w := Cond.instanceMethod yX9_haveSame) (List.mem_of_getElem? (i := 924) (by decide +kernel)) rfl
theorem wg_20 : Cond.selects RX9 yX9_haveSame yX9_haveSame ∈ mgood := mgood_in (w := Cond.selects RX9 yX9_haveSame yX9_haveSame) (List.mem_of_getElem? (i := 20) (by decide +kernel)) rfl
theorem cv_X9_102 : mcV RX9 102 yX9_haveSame 3 := ⟨wg_922, wg_924, wg_20, wg_62, by decide +kernel⟩
theorem wg_926 : Cond.methodLink RX9 105 yX9_leadAlike ∈ mgood := mgood_in (w := Cond.methodLink RX9 105 yX9_leadAlike) (List.mem_of_getElem? (i := 926) (by decide +kernel)) rfl
theorem wg_928 : Cond.instanceMethod yX9_leadAlike ∈ mgood := mgood_in (w := Cond.instanceMethod yX9_leadAlike) (List.mem_of_getElem? (i := 928) (by decide +kernel)) rfl
theorem wg_21 : Cond.selects RX9 yX9_leadAlike yX9_leadAlike ∈ mgood := mgood_in (w := Cond.selects RX9 yX9_leadAlike yX9_leadAlike) (List.mem_of_getElem? (i := 21) (by decide +kernel)) rfl
theorem cv_X9_105 : mcV RX9 105 yX9_leadAlike 3 := ⟨wg_926, wg_928, wg_21, wg_62, by decide +kernel⟩
theorem wg_918 : Cond.methodLink RX9 108 yX9_findAlike ∈ mgood := mgood_in (w := Cond.methodLink RX9 108 yX9_findAlike) (List.mem_of_getElem? (i := 918) (by decide +kernel)) rfl
theorem wg_920 : Cond.instanceMethod yX9_findAlike ∈ mgood := mgood_in (w := Cond.instanceMethod yX9_findAlike) (List.mem_of_getElem? (i := 920) (by decide +kernel)) rfl
theorem wg_19 : Cond.selects RX9 yX9_findAlike yX9_findAlike ∈ mgood := mgood_in (w := Cond.selects RX9 yX9_findAlike yX9_findAlike) (List.mem_of_getElem? (i := 19) (by decide +kernel)) rfl
theorem cv_X9_108 : mcV RX9 108 yX9_findAlike 1 := ⟨wg_918, wg_920, wg_19, wg_62, by decide +kernel⟩
theorem wg_934 : Cond.methodLink RX9 112 yX9_lowest ∈ mgood := mgood_in (w := Cond.methodLink RX9 112 yX9_lowest) (List.mem_of_getElem? (i := 934) (by decide +kernel)) rfl
theorem wg_935 : Cond.static yX9_lowest ∈ mgood := mgood_in (w := Cond.static yX9_lowest) (List.mem_of_getElem? (i := 935) (by decide +kernel)) rfl
theorem cs_X9_112 : mcS RX9 112 yX9_lowest (1) := ⟨wg_934, wg_935, wg_62, by decide +kernel⟩
theorem wg_914 : Cond.methodLink RX9 115 yX9_alikeTo ∈ mgood := mgood_in (w := Cond.methodLink RX9 115 yX9_alikeTo) (List.mem_of_getElem? (i := 914) (by decide +kernel)) rfl
theorem wg_916 : Cond.instanceMethod yX9_alikeTo ∈ mgood := mgood_in (w := Cond.instanceMethod yX9_alikeTo) (List.mem_of_getElem? (i := 916) (by decide +kernel)) rfl
theorem wg_18 : Cond.selects RX9 yX9_alikeTo yX9_alikeTo ∈ mgood := mgood_in (w := Cond.selects RX9 yX9_alikeTo yX9_alikeTo) (List.mem_of_getElem? (i := 18) (by decide +kernel)) rfl
theorem cv_X9_115 : mcV RX9 115 yX9_alikeTo 2 := ⟨wg_914, wg_916, wg_18, wg_62, by decide +kernel⟩
theorem wg_937 : Cond.methodLink RX9 118 yX9_reached ∈ mgood := mgood_in (w := Cond.methodLink RX9 118 yX9_reached) (List.mem_of_getElem? (i := 937) (by decide +kernel)) rfl
theorem wg_939 : Cond.instanceMethod yX9_reached ∈ mgood := mgood_in (w := Cond.instanceMethod yX9_reached) (List.mem_of_getElem? (i := 939) (by decide +kernel)) rfl
theorem wg_23 : Cond.selects RX9 yX9_reached yX9_reached ∈ mgood := mgood_in (w := Cond.selects RX9 yX9_reached yX9_reached) (List.mem_of_getElem? (i := 23) (by decide +kernel)) rfl
theorem cv_X9_118 : mcV RX9 118 yX9_reached 2 := ⟨wg_937, wg_939, wg_23, wg_62, by decide +kernel⟩
theorem wg_965 : Cond.methodLink RX9 125 yX9_together ∈ mgood := mgood_in (w := Cond.methodLink RX9 125 yX9_together) (List.mem_of_getElem? (i := 965) (by decide +kernel)) rfl
theorem wg_966 : Cond.static yX9_together ∈ mgood := mgood_in (w := Cond.static yX9_together) (List.mem_of_getElem? (i := 966) (by decide +kernel)) rfl
theorem cs_X9_125 : mcS RX9 125 yX9_together (3) := ⟨wg_965, wg_966, wg_62, by decide +kernel⟩
theorem wg_968 : Cond.methodLink RX9 129 yX9_behind ∈ mgood := mgood_in (w := Cond.methodLink RX9 129 yX9_behind) (List.mem_of_getElem? (i := 968) (by decide +kernel)) rfl
theorem wg_970 : Cond.instanceMethod yX9_behind ∈ mgood := mgood_in (w := Cond.instanceMethod yX9_behind) (List.mem_of_getElem? (i := 970) (by decide +kernel)) rfl
theorem wg_27 : Cond.selects RX9 yX9_behind yX9_behind ∈ mgood := mgood_in (w := Cond.selects RX9 yX9_behind yX9_behind) (List.mem_of_getElem? (i := 27) (by decide +kernel)) rfl
theorem cv_X9_129 : mcV RX9 129 yX9_behind 4 := ⟨wg_968, wg_970, wg_27, wg_62, by decide +kernel⟩
theorem wg_957 : Cond.methodLink RX9 133 yX9_finds ∈ mgood := mgood_in (w := Cond.methodLink RX9 133 yX9_finds) (List.mem_of_getElem? (i := 957) (by decide +kernel)) rfl
theorem wg_959 : Cond.instanceMethod yX9_finds ∈ mgood := mgood_in (w := Cond.instanceMethod yX9_finds) (List.mem_of_getElem? (i := 959) (by decide +kernel)) rfl
theorem wg_25 : Cond.selects RX9 yX9_finds yX9_finds ∈ mgood := mgood_in (w := Cond.selects RX9 yX9_finds yX9_finds) (List.mem_of_getElem? (i := 25) (by decide +kernel)) rfl
theorem cv_X9_133 : mcV RX9 133 yX9_finds 3 := ⟨wg_957, wg_959, wg_25, wg_62, by decide +kernel⟩
theorem wg_961 : Cond.methodLink RX9 137 yX9_follows ∈ mgood := mgood_in (w := Cond.methodLink RX9 137 yX9_follows) (List.mem_of_getElem? (i := 961) (by decide +kernel)) rfl
theorem wg_963 : Cond.instanceMethod yX9_follows ∈ mgood := mgood_in (w := Cond.instanceMethod yX9_follows) (List.mem_of_getElem? (i := 963) (by decide +kernel)) rfl
theorem wg_26 : Cond.selects RX9 yX9_follows yX9_follows ∈ mgood := mgood_in (w := Cond.selects RX9 yX9_follows yX9_follows) (List.mem_of_getElem? (i := 26) (by decide +kernel)) rfl
theorem cv_X9_137 : mcV RX9 137 yX9_follows 5 := ⟨wg_961, wg_963, wg_26, wg_62, by decide +kernel⟩
theorem wg_984 : Cond.methodLink RX9 141 yX9_lacking ∈ mgood := mgood_in (w := Cond.methodLink RX9 141 yX9_lacking) (List.mem_of_getElem? (i := 984) (by decide +kernel)) rfl
theorem wg_985 : Cond.static yX9_lacking ∈ mgood := mgood_in (w := Cond.static yX9_lacking) (List.mem_of_getElem? (i := 985) (by decide +kernel)) rfl
theorem cs_X9_141 : mcS RX9 141 yX9_lacking (2) := ⟨wg_984, wg_985, wg_62, by decide +kernel⟩
theorem wg_980 : Cond.methodLink RX9 144 yX9_missing ∈ mgood := mgood_in (w := Cond.methodLink RX9 144 yX9_missing) (List.mem_of_getElem? (i := 980) (by decide +kernel)) rfl
theorem wg_982 : Cond.instanceMethod yX9_missing ∈ mgood := mgood_in (w := Cond.instanceMethod yX9_missing) (List.mem_of_getElem? (i := 982) (by decide +kernel)) rfl
theorem wg_30 : Cond.selects RX9 yX9_missing yX9_missing ∈ mgood := mgood_in (w := Cond.selects RX9 yX9_missing yX9_missing) (List.mem_of_getElem? (i := 30) (by decide +kernel)) rfl
theorem cv_X9_144 : mcV RX9 144 yX9_missing 3 := ⟨wg_980, wg_982, wg_30, wg_62, by decide +kernel⟩
theorem wg_976 : Cond.methodLink RX9 147 yX9_why ∈ mgood := mgood_in (w := Cond.methodLink RX9 147 yX9_why) (List.mem_of_getElem? (i := 976) (by decide +kernel)) rfl
theorem wg_978 : Cond.instanceMethod yX9_why ∈ mgood := mgood_in (w := Cond.instanceMethod yX9_why) (List.mem_of_getElem? (i := 978) (by decide +kernel)) rfl
theorem wg_29 : Cond.selects RX9 yX9_why yX9_why ∈ mgood := mgood_in (w := Cond.selects RX9 yX9_why yX9_why) (List.mem_of_getElem? (i := 29) (by decide +kernel)) rfl
theorem cv_X9_147 : mcV RX9 147 yX9_why 3 := ⟨wg_976, wg_978, wg_29, wg_62, by decide +kernel⟩
theorem wg_950 : Cond.methodLink RX9 150 yX9_isRowAsked ∈ mgood := mgood_in (w := Cond.methodLink RX9 150 yX9_isRowAsked) (List.mem_of_getElem? (i := 950) (by decide +kernel)) rfl
theorem wg_951 : Cond.static yX9_isRowAsked ∈ mgood := mgood_in (w := Cond.static yX9_isRowAsked) (List.mem_of_getElem? (i := 951) (by decide +kernel)) rfl
theorem cs_X9_150 : mcS RX9 150 yX9_isRowAsked (2) := ⟨wg_950, wg_951, wg_62, by decide +kernel⟩
theorem wg_953 : Cond.methodLink RX9 154 yX9_goThrough ∈ mgood := mgood_in (w := Cond.methodLink RX9 154 yX9_goThrough) (List.mem_of_getElem? (i := 953) (by decide +kernel)) rfl
theorem wg_955 : Cond.instanceMethod yX9_goThrough ∈ mgood := mgood_in (w := Cond.instanceMethod yX9_goThrough) (List.mem_of_getElem? (i := 955) (by decide +kernel)) rfl
theorem wg_24 : Cond.selects RX9 yX9_goThrough yX9_goThrough ∈ mgood := mgood_in (w := Cond.selects RX9 yX9_goThrough yX9_goThrough) (List.mem_of_getElem? (i := 24) (by decide +kernel)) rfl
theorem cv_X9_154 : mcV RX9 154 yX9_goThrough 3 := ⟨wg_953, wg_955, wg_24, wg_62, by decide +kernel⟩
theorem wg_972 : Cond.methodLink RX9 158 yX9_firstStuck ∈ mgood := mgood_in (w := Cond.methodLink RX9 158 yX9_firstStuck) (List.mem_of_getElem? (i := 972) (by decide +kernel)) rfl
theorem wg_974 : Cond.instanceMethod yX9_firstStuck ∈ mgood := mgood_in (w := Cond.instanceMethod yX9_firstStuck) (List.mem_of_getElem? (i := 974) (by decide +kernel)) rfl
theorem wg_28 : Cond.selects RX9 yX9_firstStuck yX9_firstStuck ∈ mgood := mgood_in (w := Cond.selects RX9 yX9_firstStuck yX9_firstStuck) (List.mem_of_getElem? (i := 28) (by decide +kernel)) rfl
theorem cv_X9_158 : mcV RX9 158 yX9_firstStuck 2 := ⟨wg_972, wg_974, wg_28, wg_62, by decide +kernel⟩
theorem wg_987 : Cond.methodLink RX9 161 yX9_wordOf ∈ mgood := mgood_in (w := Cond.methodLink RX9 161 yX9_wordOf) (List.mem_of_getElem? (i := 987) (by decide +kernel)) rfl
theorem wg_989 : Cond.instanceMethod yX9_wordOf ∈ mgood := mgood_in (w := Cond.instanceMethod yX9_wordOf) (List.mem_of_getElem? (i := 989) (by decide +kernel)) rfl
theorem wg_31 : Cond.selects RX9 yX9_wordOf yX9_wordOf ∈ mgood := mgood_in (w := Cond.selects RX9 yX9_wordOf yX9_wordOf) (List.mem_of_getElem? (i := 31) (by decide +kernel)) rfl
theorem cv_X9_161 : mcV RX9 161 yX9_wordOf 2 := ⟨wg_987, wg_989, wg_31, wg_62, by decide +kernel⟩
theorem wg_1003 : Cond.methodLink RX9 164 yX9_isEnd ∈ mgood := mgood_in (w := Cond.methodLink RX9 164 yX9_isEnd) (List.mem_of_getElem? (i := 1003) (by decide +kernel)) rfl
theorem wg_1005 : Cond.instanceMethod yX9_isEnd ∈ mgood := mgood_in (w := Cond.instanceMethod yX9_isEnd) (List.mem_of_getElem? (i := 1005) (by decide +kernel)) rfl
theorem wg_34 : Cond.selects RX9 yX9_isEnd yX9_isEnd ∈ mgood := mgood_in (w := Cond.selects RX9 yX9_isEnd yX9_isEnd) (List.mem_of_getElem? (i := 34) (by decide +kernel)) rfl
theorem cv_X9_164 : mcV RX9 164 yX9_isEnd 3 := ⟨wg_1003, wg_1005, wg_34, wg_62, by decide +kernel⟩
theorem wg_1011 : Cond.methodLink RX9 171 yX9_counts ∈ mgood := mgood_in (w := Cond.methodLink RX9 171 yX9_counts) (List.mem_of_getElem? (i := 1011) (by decide +kernel)) rfl
theorem wg_1013 : Cond.instanceMethod yX9_counts ∈ mgood := mgood_in (w := Cond.instanceMethod yX9_counts) (List.mem_of_getElem? (i := 1013) (by decide +kernel)) rfl
theorem wg_36 : Cond.selects RX9 yX9_counts yX9_counts ∈ mgood := mgood_in (w := Cond.selects RX9 yX9_counts yX9_counts) (List.mem_of_getElem? (i := 36) (by decide +kernel)) rfl
theorem cv_X9_171 : mcV RX9 171 yX9_counts 3 := ⟨wg_1011, wg_1013, wg_36, wg_62, by decide +kernel⟩
theorem wg_995 : Cond.methodLink RX9 174 yX9_stuckOnes ∈ mgood := mgood_in (w := Cond.methodLink RX9 174 yX9_stuckOnes) (List.mem_of_getElem? (i := 995) (by decide +kernel)) rfl
theorem wg_997 : Cond.instanceMethod yX9_stuckOnes ∈ mgood := mgood_in (w := Cond.instanceMethod yX9_stuckOnes) (List.mem_of_getElem? (i := 997) (by decide +kernel)) rfl
theorem wg_32 : Cond.selects RX9 yX9_stuckOnes yX9_stuckOnes ∈ mgood := mgood_in (w := Cond.selects RX9 yX9_stuckOnes yX9_stuckOnes) (List.mem_of_getElem? (i := 32) (by decide +kernel)) rfl
theorem cv_X9_174 : mcV RX9 174 yX9_stuckOnes 2 := ⟨wg_995, wg_997, wg_32, wg_62, by decide +kernel⟩
theorem wg_999 : Cond.methodLink RX9 177 yX9_ends ∈ mgood := mgood_in (w := Cond.methodLink RX9 177 yX9_ends) (List.mem_of_getElem? (i := 999) (by decide +kernel)) rfl
theorem wg_1001 : Cond.instanceMethod yX9_ends ∈ mgood := mgood_in (w := Cond.instanceMethod yX9_ends) (List.mem_of_getElem? (i := 1001) (by decide +kernel)) rfl
theorem wg_33 : Cond.selects RX9 yX9_ends yX9_ends ∈ mgood := mgood_in (w := Cond.selects RX9 yX9_ends yX9_ends) (List.mem_of_getElem? (i := 33) (by decide +kernel)) rfl
theorem cv_X9_177 : mcV RX9 177 yX9_ends 2 := ⟨wg_999, wg_1001, wg_33, wg_62, by decide +kernel⟩
theorem wg_1007 : Cond.methodLink RX9 180 yX9_countsAll ∈ mgood := mgood_in (w := Cond.methodLink RX9 180 yX9_countsAll) (List.mem_of_getElem? (i := 1007) (by decide +kernel)) rfl
theorem wg_1009 : Cond.instanceMethod yX9_countsAll ∈ mgood := mgood_in (w := Cond.instanceMethod yX9_countsAll) (List.mem_of_getElem? (i := 1009) (by decide +kernel)) rfl
theorem wg_35 : Cond.selects RX9 yX9_countsAll yX9_countsAll ∈ mgood := mgood_in (w := Cond.selects RX9 yX9_countsAll yX9_countsAll) (List.mem_of_getElem? (i := 35) (by decide +kernel)) rfl
theorem cv_X9_180 : mcV RX9 180 yX9_countsAll 2 := ⟨wg_1007, wg_1009, wg_35, wg_62, by decide +kernel⟩
theorem wg_1017 : Cond.methodLink RX9 183 yX9_fewest ∈ mgood := mgood_in (w := Cond.methodLink RX9 183 yX9_fewest) (List.mem_of_getElem? (i := 1017) (by decide +kernel)) rfl
theorem wg_1019 : Cond.instanceMethod yX9_fewest ∈ mgood := mgood_in (w := Cond.instanceMethod yX9_fewest) (List.mem_of_getElem? (i := 1019) (by decide +kernel)) rfl
theorem wg_37 : Cond.selects RX9 yX9_fewest yX9_fewest ∈ mgood := mgood_in (w := Cond.selects RX9 yX9_fewest yX9_fewest) (List.mem_of_getElem? (i := 37) (by decide +kernel)) rfl
theorem cv_X9_183 : mcV RX9 183 yX9_fewest 2 := ⟨wg_1017, wg_1019, wg_37, wg_62, by decide +kernel⟩
theorem wg_1021 : Cond.methodLink RX9 186 yX9_comeTo ∈ mgood := mgood_in (w := Cond.methodLink RX9 186 yX9_comeTo) (List.mem_of_getElem? (i := 1021) (by decide +kernel)) rfl
theorem wg_1023 : Cond.instanceMethod yX9_comeTo ∈ mgood := mgood_in (w := Cond.instanceMethod yX9_comeTo) (List.mem_of_getElem? (i := 1023) (by decide +kernel)) rfl
theorem wg_38 : Cond.selects RX9 yX9_comeTo yX9_comeTo ∈ mgood := mgood_in (w := Cond.selects RX9 yX9_comeTo yX9_comeTo) (List.mem_of_getElem? (i := 38) (by decide +kernel)) rfl
theorem cv_X9_186 : mcV RX9 186 yX9_comeTo 1 := ⟨wg_1021, wg_1023, wg_38, wg_62, by decide +kernel⟩
theorem wg_1048 : Cond.methodLink RX9 196 yX9_wanted ∈ mgood := mgood_in (w := Cond.methodLink RX9 196 yX9_wanted) (List.mem_of_getElem? (i := 1048) (by decide +kernel)) rfl
theorem wg_1050 : Cond.instanceMethod yX9_wanted ∈ mgood := mgood_in (w := Cond.instanceMethod yX9_wanted) (List.mem_of_getElem? (i := 1050) (by decide +kernel)) rfl
theorem wg_42 : Cond.selects RX9 yX9_wanted yX9_wanted ∈ mgood := mgood_in (w := Cond.selects RX9 yX9_wanted yX9_wanted) (List.mem_of_getElem? (i := 42) (by decide +kernel)) rfl
theorem cv_X9_196 : mcV RX9 196 yX9_wanted 3 := ⟨wg_1048, wg_1050, wg_42, wg_62, by decide +kernel⟩
theorem wg_1044 : Cond.methodLink RX9 199 yX9_whyNot ∈ mgood := mgood_in (w := Cond.methodLink RX9 199 yX9_whyNot) (List.mem_of_getElem? (i := 1044) (by decide +kernel)) rfl
theorem wg_1046 : Cond.instanceMethod yX9_whyNot ∈ mgood := mgood_in (w := Cond.instanceMethod yX9_whyNot) (List.mem_of_getElem? (i := 1046) (by decide +kernel)) rfl
theorem wg_41 : Cond.selects RX9 yX9_whyNot yX9_whyNot ∈ mgood := mgood_in (w := Cond.selects RX9 yX9_whyNot yX9_whyNot) (List.mem_of_getElem? (i := 41) (by decide +kernel)) rfl
theorem cv_X9_199 : mcV RX9 199 yX9_whyNot 3 := ⟨wg_1044, wg_1046, wg_41, wg_62, by decide +kernel⟩
theorem wg_1040 : Cond.methodLink RX9 202 yX9_firstAgainst ∈ mgood := mgood_in (w := Cond.methodLink RX9 202 yX9_firstAgainst) (List.mem_of_getElem? (i := 1040) (by decide +kernel)) rfl
theorem wg_1042 : Cond.instanceMethod yX9_firstAgainst ∈ mgood := mgood_in (w := Cond.instanceMethod yX9_firstAgainst) (List.mem_of_getElem? (i := 1042) (by decide +kernel)) rfl
theorem wg_40 : Cond.selects RX9 yX9_firstAgainst yX9_firstAgainst ∈ mgood := mgood_in (w := Cond.selects RX9 yX9_firstAgainst yX9_firstAgainst) (List.mem_of_getElem? (i := 40) (by decide +kernel)) rfl
theorem cv_X9_202 : mcV RX9 202 yX9_firstAgainst 2 := ⟨wg_1040, wg_1042, wg_40, wg_62, by decide +kernel⟩
theorem wg_1036 : Cond.methodLink RX9 205 yX9_canStand ∈ mgood := mgood_in (w := Cond.methodLink RX9 205 yX9_canStand) (List.mem_of_getElem? (i := 1036) (by decide +kernel)) rfl
theorem wg_1038 : Cond.instanceMethod yX9_canStand ∈ mgood := mgood_in (w := Cond.instanceMethod yX9_canStand) (List.mem_of_getElem? (i := 1038) (by decide +kernel)) rfl
theorem wg_39 : Cond.selects RX9 yX9_canStand yX9_canStand ∈ mgood := mgood_in (w := Cond.selects RX9 yX9_canStand yX9_canStand) (List.mem_of_getElem? (i := 39) (by decide +kernel)) rfl
theorem cv_X9_205 : mcV RX9 205 yX9_canStand 2 := ⟨wg_1036, wg_1038, wg_39, wg_62, by decide +kernel⟩
theorem wg_1056 : Cond.methodLink RX9 208 yX9_wantedThen ∈ mgood := mgood_in (w := Cond.methodLink RX9 208 yX9_wantedThen) (List.mem_of_getElem? (i := 1056) (by decide +kernel)) rfl
theorem wg_1058 : Cond.instanceMethod yX9_wantedThen ∈ mgood := mgood_in (w := Cond.instanceMethod yX9_wantedThen) (List.mem_of_getElem? (i := 1058) (by decide +kernel)) rfl
theorem wg_43 : Cond.selects RX9 yX9_wantedThen yX9_wantedThen ∈ mgood := mgood_in (w := Cond.selects RX9 yX9_wantedThen yX9_wantedThen) (List.mem_of_getElem? (i := 43) (by decide +kernel)) rfl
theorem cv_X9_208 : mcV RX9 208 yX9_wantedThen 3 := ⟨wg_1056, wg_1058, wg_43, wg_62, by decide +kernel⟩
theorem wg_1064 : Cond.methodLink RX9 211 yX9_arrows ∈ mgood := mgood_in (w := Cond.methodLink RX9 211 yX9_arrows) (List.mem_of_getElem? (i := 1064) (by decide +kernel)) rfl
theorem wg_1066 : Cond.instanceMethod yX9_arrows ∈ mgood := mgood_in (w := Cond.instanceMethod yX9_arrows) (List.mem_of_getElem? (i := 1066) (by decide +kernel)) rfl
theorem wg_44 : Cond.selects RX9 yX9_arrows yX9_arrows ∈ mgood := mgood_in (w := Cond.selects RX9 yX9_arrows yX9_arrows) (List.mem_of_getElem? (i := 44) (by decide +kernel)) rfl
theorem cv_X9_211 : mcV RX9 211 yX9_arrows 0 := ⟨wg_1064, wg_1066, wg_44, wg_62, by decide +kernel⟩
theorem wg_1093 : Cond.methodLink RX9 225 yX9_takes ∈ mgood := mgood_in (w := Cond.methodLink RX9 225 yX9_takes) (List.mem_of_getElem? (i := 1093) (by decide +kernel)) rfl
theorem wg_1095 : Cond.instanceMethod yX9_takes ∈ mgood := mgood_in (w := Cond.instanceMethod yX9_takes) (List.mem_of_getElem? (i := 1095) (by decide +kernel)) rfl
theorem wg_47 : Cond.selects RX9 yX9_takes yX9_takes ∈ mgood := mgood_in (w := Cond.selects RX9 yX9_takes yX9_takes) (List.mem_of_getElem? (i := 47) (by decide +kernel)) rfl
theorem cv_X9_225 : mcV RX9 225 yX9_takes 2 := ⟨wg_1093, wg_1095, wg_47, wg_62, by decide +kernel⟩
theorem wg_1097 : Cond.methodLink RX9 237 yX9_breaksOff ∈ mgood := mgood_in (w := Cond.methodLink RX9 237 yX9_breaksOff) (List.mem_of_getElem? (i := 1097) (by decide +kernel)) rfl
theorem wg_1099 : Cond.instanceMethod yX9_breaksOff ∈ mgood := mgood_in (w := Cond.instanceMethod yX9_breaksOff) (List.mem_of_getElem? (i := 1099) (by decide +kernel)) rfl
theorem wg_48 : Cond.selects RX9 yX9_breaksOff yX9_breaksOff ∈ mgood := mgood_in (w := Cond.selects RX9 yX9_breaksOff yX9_breaksOff) (List.mem_of_getElem? (i := 48) (by decide +kernel)) rfl
theorem cv_X9_237 : mcV RX9 237 yX9_breaksOff 0 := ⟨wg_1097, wg_1099, wg_48, wg_62, by decide +kernel⟩
theorem wg_1101 : Cond.methodLink RX9 240 yX9_kindTaken ∈ mgood := mgood_in (w := Cond.methodLink RX9 240 yX9_kindTaken) (List.mem_of_getElem? (i := 1101) (by decide +kernel)) rfl
theorem wg_1103 : Cond.instanceMethod yX9_kindTaken ∈ mgood := mgood_in (w := Cond.instanceMethod yX9_kindTaken) (List.mem_of_getElem? (i := 1103) (by decide +kernel)) rfl
theorem wg_49 : Cond.selects RX9 yX9_kindTaken yX9_kindTaken ∈ mgood := mgood_in (w := Cond.selects RX9 yX9_kindTaken yX9_kindTaken) (List.mem_of_getElem? (i := 49) (by decide +kernel)) rfl
theorem cv_X9_240 : mcV RX9 240 yX9_kindTaken 0 := ⟨wg_1101, wg_1103, wg_49, wg_62, by decide +kernel⟩
theorem wg_1105 : Cond.methodLink RX9 243 yX9_takesArrows ∈ mgood := mgood_in (w := Cond.methodLink RX9 243 yX9_takesArrows) (List.mem_of_getElem? (i := 1105) (by decide +kernel)) rfl
theorem wg_1107 : Cond.instanceMethod yX9_takesArrows ∈ mgood := mgood_in (w := Cond.instanceMethod yX9_takesArrows) (List.mem_of_getElem? (i := 1107) (by decide +kernel)) rfl
theorem wg_50 : Cond.selects RX9 yX9_takesArrows yX9_takesArrows ∈ mgood := mgood_in (w := Cond.selects RX9 yX9_takesArrows yX9_takesArrows) (List.mem_of_getElem? (i := 50) (by decide +kernel)) rfl
theorem cv_X9_243 : mcV RX9 243 yX9_takesArrows 0 := ⟨wg_1105, wg_1107, wg_50, wg_62, by decide +kernel⟩
theorem wg_1109 : Cond.methodLink RX9 250 yX9_twice ∈ mgood := mgood_in (w := Cond.methodLink RX9 250 yX9_twice) (List.mem_of_getElem? (i := 1109) (by decide +kernel)) rfl
theorem wg_1111 : Cond.instanceMethod yX9_twice ∈ mgood := mgood_in (w := Cond.instanceMethod yX9_twice) (List.mem_of_getElem? (i := 1111) (by decide +kernel)) rfl
theorem wg_51 : Cond.selects RX9 yX9_twice yX9_twice ∈ mgood := mgood_in (w := Cond.selects RX9 yX9_twice yX9_twice) (List.mem_of_getElem? (i := 51) (by decide +kernel)) rfl
theorem cv_X9_250 : mcV RX9 250 yX9_twice 0 := ⟨wg_1109, wg_1111, wg_51, wg_62, by decide +kernel⟩
theorem wg_1089 : Cond.methodLink RX9 259 yX9_readState ∈ mgood := mgood_in (w := Cond.methodLink RX9 259 yX9_readState) (List.mem_of_getElem? (i := 1089) (by decide +kernel)) rfl
theorem wg_1091 : Cond.instanceMethod yX9_readState ∈ mgood := mgood_in (w := Cond.instanceMethod yX9_readState) (List.mem_of_getElem? (i := 1091) (by decide +kernel)) rfl
theorem wg_46 : Cond.selects RX9 yX9_readState yX9_readState ∈ mgood := mgood_in (w := Cond.selects RX9 yX9_readState yX9_readState) (List.mem_of_getElem? (i := 46) (by decide +kernel)) rfl
theorem cv_X9_259 : mcV RX9 259 yX9_readState 0 := ⟨wg_1089, wg_1091, wg_46, wg_62, by decide +kernel⟩
theorem wg_1085 : Cond.methodLink RX9 262 yX9_faulty ∈ mgood := mgood_in (w := Cond.methodLink RX9 262 yX9_faulty) (List.mem_of_getElem? (i := 1085) (by decide +kernel)) rfl
theorem wg_1087 : Cond.instanceMethod yX9_faulty ∈ mgood := mgood_in (w := Cond.instanceMethod yX9_faulty) (List.mem_of_getElem? (i := 1087) (by decide +kernel)) rfl
theorem wg_45 : Cond.selects RX9 yX9_faulty yX9_faulty ∈ mgood := mgood_in (w := Cond.selects RX9 yX9_faulty yX9_faulty) (List.mem_of_getElem? (i := 45) (by decide +kernel)) rfl
theorem cv_X9_262 : mcV RX9 262 yX9_faulty 0 := ⟨wg_1085, wg_1087, wg_45, wg_62, by decide +kernel⟩
theorem wg_278 : Cond.methodLink RX0 25 yX3_saveTo ∈ mgood := mgood_in (w := Cond.methodLink RX0 25 yX3_saveTo) (List.mem_of_getElem? (i := 278) (by decide +kernel)) rfl
theorem wg_279 : Cond.instanceMethod yX3_saveTo ∈ mgood := mgood_in (w := Cond.instanceMethod yX3_saveTo) (List.mem_of_getElem? (i := 279) (by decide +kernel)) rfl
theorem wg_280 : Cond.selects RX3 yX3_saveTo yX3_saveTo ∈ mgood := mgood_in (w := Cond.selects RX3 yX3_saveTo yX3_saveTo) (List.mem_of_getElem? (i := 280) (by decide +kernel)) rfl
theorem cv_X0_25 : mcV RX0 25 yX3_saveTo 2 := ⟨wg_278, wg_279, wg_280, wg_54, by decide +kernel⟩
theorem wg_681 : Cond.methodLink RX0 29 yX3_loadFrom ∈ mgood := mgood_in (w := Cond.methodLink RX0 29 yX3_loadFrom) (List.mem_of_getElem? (i := 681) (by decide +kernel)) rfl
theorem wg_682 : Cond.instanceMethod yX3_loadFrom ∈ mgood := mgood_in (w := Cond.instanceMethod yX3_loadFrom) (List.mem_of_getElem? (i := 682) (by decide +kernel)) rfl
theorem wg_683 : Cond.selects RX3 yX3_loadFrom yX3_loadFrom ∈ mgood := mgood_in (w := Cond.selects RX3 yX3_loadFrom yX3_loadFrom) (List.mem_of_getElem? (i := 683) (by decide +kernel)) rfl
theorem cv_X0_29 : mcV RX0 29 yX3_loadFrom 2 := ⟨wg_681, wg_682, wg_683, wg_54, by decide +kernel⟩
theorem wg_347 : Cond.methodLink RX1 15 yX1_looksAlike ∈ mgood := mgood_in (w := Cond.methodLink RX1 15 yX1_looksAlike) (List.mem_of_getElem? (i := 347) (by decide +kernel)) rfl
theorem wg_348 : Cond.static yX1_looksAlike ∈ mgood := mgood_in (w := Cond.static yX1_looksAlike) (List.mem_of_getElem? (i := 348) (by decide +kernel)) rfl
theorem cs_X1_15 : mcS RX1 15 yX1_looksAlike (3) := ⟨wg_347, wg_348, wg_57, by decide +kernel⟩
theorem wg_352 : Cond.methodLink RX1 19 yX1_part ∈ mgood := mgood_in (w := Cond.methodLink RX1 19 yX1_part) (List.mem_of_getElem? (i := 352) (by decide +kernel)) rfl
theorem wg_354 : Cond.instanceMethod yX1_part ∈ mgood := mgood_in (w := Cond.instanceMethod yX1_part) (List.mem_of_getElem? (i := 354) (by decide +kernel)) rfl
theorem wg_2 : Cond.selects RX1 yX1_part yX1_part ∈ mgood := mgood_in (w := Cond.selects RX1 yX1_part yX1_part) (List.mem_of_getElem? (i := 2) (by decide +kernel)) rfl
theorem cv_X1_19 : mcV RX1 19 yX1_part 1 := ⟨wg_352, wg_354, wg_2, wg_57, by decide +kernel⟩
theorem wg_356 : Cond.methodLink RX1 23 yX1_leadsAlike ∈ mgood := mgood_in (w := Cond.methodLink RX1 23 yX1_leadsAlike) (List.mem_of_getElem? (i := 356) (by decide +kernel)) rfl
theorem wg_358 : Cond.instanceMethod yX1_leadsAlike ∈ mgood := mgood_in (w := Cond.instanceMethod yX1_leadsAlike) (List.mem_of_getElem? (i := 358) (by decide +kernel)) rfl
theorem wg_3 : Cond.selects RX1 yX1_leadsAlike yX1_leadsAlike ∈ mgood := mgood_in (w := Cond.selects RX1 yX1_leadsAlike yX1_leadsAlike) (List.mem_of_getElem? (i := 3) (by decide +kernel)) rfl
theorem cv_X1_23 : mcV RX1 23 yX1_leadsAlike 3 := ⟨wg_356, wg_358, wg_3, wg_57, by decide +kernel⟩
theorem wg_350 : Cond.methodLink RX1 26 yX3_kindOf ∈ mgood := mgood_in (w := Cond.methodLink RX1 26 yX3_kindOf) (List.mem_of_getElem? (i := 350) (by decide +kernel)) rfl
theorem cv_X1_26 : mcV RX1 26 yX3_kindOf 1 := ⟨wg_350, wg_288, wg_289, wg_54, by decide +kernel⟩
theorem wg_351 : Cond.methodLink RX1 32 yX3_wordsOf ∈ mgood := mgood_in (w := Cond.methodLink RX1 32 yX3_wordsOf) (List.mem_of_getElem? (i := 351) (by decide +kernel)) rfl
theorem cv_X1_32 : mcV RX1 32 yX3_wordsOf 1 := ⟨wg_351, wg_299, wg_300, wg_54, by decide +kernel⟩
theorem wg_360 : Cond.methodLink RX1 35 yX3_targetOf ∈ mgood := mgood_in (w := Cond.methodLink RX1 35 yX3_targetOf) (List.mem_of_getElem? (i := 360) (by decide +kernel)) rfl
theorem cv_X1_35 : mcV RX1 35 yX3_targetOf 2 := ⟨wg_360, wg_303, wg_304, wg_54, by decide +kernel⟩
theorem wg_361 : Cond.methodLink RX1 39 yX1_areAlike ∈ mgood := mgood_in (w := Cond.methodLink RX1 39 yX1_areAlike) (List.mem_of_getElem? (i := 361) (by decide +kernel)) rfl
theorem wg_363 : Cond.instanceMethod yX1_areAlike ∈ mgood := mgood_in (w := Cond.instanceMethod yX1_areAlike) (List.mem_of_getElem? (i := 363) (by decide +kernel)) rfl
theorem wg_4 : Cond.selects RX1 yX1_areAlike yX1_areAlike ∈ mgood := mgood_in (w := Cond.selects RX1 yX1_areAlike yX1_areAlike) (List.mem_of_getElem? (i := 4) (by decide +kernel)) rfl
theorem cv_X1_39 : mcV RX1 39 yX1_areAlike 2 := ⟨wg_361, wg_363, wg_4, wg_57, by decide +kernel⟩
theorem wn_365 : Cond.methodLinkNest RX1 43 yX8_isState "MirroredTalks" ∈ mnest := mnest_in (w := Cond.methodLinkNest RX1 43 yX8_isState "MirroredTalks") (List.mem_of_getElem? (i := 365) (by decide +kernel)) rfl
theorem cn_X1_43 : mcN RX1 43 yX8_isState (1) := ⟨⟨_, wn_365⟩, wg_90, wg_53, by decide +kernel⟩
theorem wg_403 : Cond.methodLink RX2 34 yJ7_fill_53178 ∈ mgood := mgood_in (w := Cond.methodLink RX2 34 yJ7_fill_53178) (List.mem_of_getElem? (i := 403) (by decide +kernel)) rfl
theorem wg_404 : Cond.static yJ7_fill_53178 ∈ mgood := mgood_in (w := Cond.static yJ7_fill_53178) (List.mem_of_getElem? (i := 404) (by decide +kernel)) rfl
theorem wg_65 : Cond.initialized RJ7 ∈ mgood := mgood_in (w := Cond.initialized RJ7) (List.mem_of_getElem? (i := 65) (by decide +kernel)) rfl
theorem cs_X2_34 : mcS RX2 34 yJ7_fill_53178 (2) := ⟨wg_403, wg_404, wg_65, by decide +kernel⟩
theorem wx_0 : Cond.selects RX6 yX2_add yX2_add ∈ mgood := mgood_inx (List.mem_of_getElem? (i := 0) rfl) rfl
theorem wg_406 : Cond.methodLink RX2 44 ⟨"MirroredTalks$Pairs", "add", "(IIII)V"⟩ ∈ mgood := mgood_in (w := Cond.methodLink RX2 44 ⟨"MirroredTalks$Pairs", "add", "(IIII)V"⟩) (List.mem_of_getElem? (i := 406) (by decide +kernel)) rfl
theorem wg_1117 : Cond.sameMethod "MirroredTalks$Pairs" "MirroredTalks$Pairs" "add" "(IIII)V" ∈ mgood := mgood_in (w := Cond.sameMethod "MirroredTalks$Pairs" "MirroredTalks$Pairs" "add" "(IIII)V") (List.mem_of_getElem? (i := 1117) (by decide +kernel)) rfl
theorem wg_408 : Cond.instanceMethod yX2_add ∈ mgood := mgood_in (w := Cond.instanceMethod yX2_add) (List.mem_of_getElem? (i := 408) (by decide +kernel)) rfl
theorem cu_X2_44_X6 : mcU RX2 44 RX6 "MirroredTalks$Pairs" ⟨"MirroredTalks$Pairs", "add", "(IIII)V"⟩ yX2_add 4 := ⟨List.forall_mem_cons.mpr ⟨wg_406, List.forall_mem_cons.mpr ⟨wg_1117, List.forall_mem_cons.mpr ⟨wx_0, List.forall_mem_cons.mpr ⟨wg_408, List.forall_mem_cons.mpr ⟨wg_58, fun _ h => absurd h List.not_mem_nil⟩⟩⟩⟩⟩, Or.inl rfl, by decide +kernel⟩
theorem wx_1 : Cond.selects RX7 yX2_add yX2_add ∈ mgood := mgood_inx (List.mem_of_getElem? (i := 1) rfl) rfl
theorem cu_X2_44_X7 : mcU RX2 44 RX7 "MirroredTalks$Pairs" ⟨"MirroredTalks$Pairs", "add", "(IIII)V"⟩ yX2_add 4 := ⟨List.forall_mem_cons.mpr ⟨wg_406, List.forall_mem_cons.mpr ⟨wg_1117, List.forall_mem_cons.mpr ⟨wx_1, List.forall_mem_cons.mpr ⟨wg_408, List.forall_mem_cons.mpr ⟨wg_58, fun _ h => absurd h List.not_mem_nil⟩⟩⟩⟩⟩, Or.inl rfl, by decide +kernel⟩
theorem wx_2 : Cond.selects RX6 yX2_pairBehind yX2_pairBehind ∈ mgood := mgood_inx (List.mem_of_getElem? (i := 2) rfl) rfl
theorem wg_410 : Cond.methodLink RX2 48 ⟨"MirroredTalks$Pairs", "pairBehind", "(II)I"⟩ ∈ mgood := mgood_in (w := Cond.methodLink RX2 48 ⟨"MirroredTalks$Pairs", "pairBehind", "(II)I"⟩) (List.mem_of_getElem? (i := 410) (by decide +kernel)) rfl
theorem wg_1118 : Cond.sameMethod "MirroredTalks$Pairs" "MirroredTalks$Pairs" "pairBehind" "(II)I" ∈ mgood := mgood_in (w := Cond.sameMethod "MirroredTalks$Pairs" "MirroredTalks$Pairs" "pairBehind" "(II)I") (List.mem_of_getElem? (i := 1118) (by decide +kernel)) rfl
theorem wg_412 : Cond.instanceMethod yX2_pairBehind ∈ mgood := mgood_in (w := Cond.instanceMethod yX2_pairBehind) (List.mem_of_getElem? (i := 412) (by decide +kernel)) rfl
theorem cu_X2_48_X6 : mcU RX2 48 RX6 "MirroredTalks$Pairs" ⟨"MirroredTalks$Pairs", "pairBehind", "(II)I"⟩ yX2_pairBehind 2 := ⟨List.forall_mem_cons.mpr ⟨wg_410, List.forall_mem_cons.mpr ⟨wg_1118, List.forall_mem_cons.mpr ⟨wx_2, List.forall_mem_cons.mpr ⟨wg_412, List.forall_mem_cons.mpr ⟨wg_58, fun _ h => absurd h List.not_mem_nil⟩⟩⟩⟩⟩, Or.inl rfl, by decide +kernel⟩
theorem wx_3 : Cond.selects RX7 yX2_pairBehind yX2_pairBehind ∈ mgood := mgood_inx (List.mem_of_getElem? (i := 3) rfl) rfl
theorem cu_X2_48_X7 : mcU RX2 48 RX7 "MirroredTalks$Pairs" ⟨"MirroredTalks$Pairs", "pairBehind", "(II)I"⟩ yX2_pairBehind 2 := ⟨List.forall_mem_cons.mpr ⟨wg_410, List.forall_mem_cons.mpr ⟨wg_1118, List.forall_mem_cons.mpr ⟨wx_3, List.forall_mem_cons.mpr ⟨wg_412, List.forall_mem_cons.mpr ⟨wg_58, fun _ h => absurd h List.not_mem_nil⟩⟩⟩⟩⟩, Or.inl rfl, by decide +kernel⟩
theorem wn_420 : Cond.methodLinkNest RX2 52 yX8_cellOf "MirroredTalks" ∈ mnest := mnest_in (w := Cond.methodLinkNest RX2 52 yX8_cellOf "MirroredTalks") (List.mem_of_getElem? (i := 420) (by decide +kernel)) rfl
theorem wg_421 : Cond.static yX8_cellOf ∈ mgood := mgood_in (w := Cond.static yX8_cellOf) (List.mem_of_getElem? (i := 421) (by decide +kernel)) rfl
theorem cn_X2_52 : mcN RX2 52 yX8_cellOf (2) := ⟨⟨_, wn_420⟩, wg_421, wg_53, by decide +kernel⟩
theorem wg_440 : Cond.methodLink RX2 56 ⟨"MirroredTalks$Pairs", "lengthOf", "(I)I"⟩ ∈ mgood := mgood_in (w := Cond.methodLink RX2 56 ⟨"MirroredTalks$Pairs", "lengthOf", "(I)I"⟩) (List.mem_of_getElem? (i := 440) (by decide +kernel)) rfl
theorem wg_442 : Cond.sameMethod "MirroredTalks$Pairs" "MirroredTalks$Pairs" "lengthOf" "(I)I" ∈ mgood := mgood_in (w := Cond.sameMethod "MirroredTalks$Pairs" "MirroredTalks$Pairs" "lengthOf" "(I)I") (List.mem_of_getElem? (i := 442) (by decide +kernel)) rfl
theorem wg_443 : Cond.selects RX6 ⟨"MirroredTalks$Pairs", "lengthOf", "(I)I"⟩ yX2_lengthOf ∈ mgood := mgood_in (w := Cond.selects RX6 ⟨"MirroredTalks$Pairs", "lengthOf", "(I)I"⟩ yX2_lengthOf) (List.mem_of_getElem? (i := 443) (by decide +kernel)) rfl
theorem cu_X2_56_X6 : mcU RX2 56 RX6 "MirroredTalks$Pairs" ⟨"MirroredTalks$Pairs", "lengthOf", "(I)I"⟩ yX2_lengthOf 1 := ⟨List.forall_mem_cons.mpr ⟨wg_440, List.forall_mem_cons.mpr ⟨wg_442, List.forall_mem_cons.mpr ⟨wg_443, List.forall_mem_cons.mpr ⟨wg_441, List.forall_mem_cons.mpr ⟨wg_58, fun _ h => absurd h List.not_mem_nil⟩⟩⟩⟩⟩, Or.inl rfl, by decide +kernel⟩
theorem wg_444 : Cond.selects RX7 ⟨"MirroredTalks$Pairs", "lengthOf", "(I)I"⟩ yX2_lengthOf ∈ mgood := mgood_in (w := Cond.selects RX7 ⟨"MirroredTalks$Pairs", "lengthOf", "(I)I"⟩ yX2_lengthOf) (List.mem_of_getElem? (i := 444) (by decide +kernel)) rfl
theorem cu_X2_56_X7 : mcU RX2 56 RX7 "MirroredTalks$Pairs" ⟨"MirroredTalks$Pairs", "lengthOf", "(I)I"⟩ yX2_lengthOf 1 := ⟨List.forall_mem_cons.mpr ⟨wg_440, List.forall_mem_cons.mpr ⟨wg_442, List.forall_mem_cons.mpr ⟨wg_444, List.forall_mem_cons.mpr ⟨wg_441, List.forall_mem_cons.mpr ⟨wg_58, fun _ h => absurd h List.not_mem_nil⟩⟩⟩⟩⟩, Or.inl rfl, by decide +kernel⟩
theorem wg_414 : Cond.methodLink RX2 60 ⟨"MirroredTalks$Pairs", "stateOfOne", "(I)I"⟩ ∈ mgood := mgood_in (w := Cond.methodLink RX2 60 ⟨"MirroredTalks$Pairs", "stateOfOne", "(I)I"⟩) (List.mem_of_getElem? (i := 414) (by decide +kernel)) rfl
theorem wg_416 : Cond.sameMethod "MirroredTalks$Pairs" "MirroredTalks$Pairs" "stateOfOne" "(I)I" ∈ mgood := mgood_in (w := Cond.sameMethod "MirroredTalks$Pairs" "MirroredTalks$Pairs" "stateOfOne" "(I)I") (List.mem_of_getElem? (i := 416) (by decide +kernel)) rfl
theorem wg_417 : Cond.selects RX6 ⟨"MirroredTalks$Pairs", "stateOfOne", "(I)I"⟩ yX2_stateOfOne ∈ mgood := mgood_in (w := Cond.selects RX6 ⟨"MirroredTalks$Pairs", "stateOfOne", "(I)I"⟩ yX2_stateOfOne) (List.mem_of_getElem? (i := 417) (by decide +kernel)) rfl
theorem cu_X2_60_X6 : mcU RX2 60 RX6 "MirroredTalks$Pairs" ⟨"MirroredTalks$Pairs", "stateOfOne", "(I)I"⟩ yX2_stateOfOne 1 := ⟨List.forall_mem_cons.mpr ⟨wg_414, List.forall_mem_cons.mpr ⟨wg_416, List.forall_mem_cons.mpr ⟨wg_417, List.forall_mem_cons.mpr ⟨wg_415, List.forall_mem_cons.mpr ⟨wg_58, fun _ h => absurd h List.not_mem_nil⟩⟩⟩⟩⟩, Or.inl rfl, by decide +kernel⟩
theorem wg_418 : Cond.selects RX7 ⟨"MirroredTalks$Pairs", "stateOfOne", "(I)I"⟩ yX2_stateOfOne ∈ mgood := mgood_in (w := Cond.selects RX7 ⟨"MirroredTalks$Pairs", "stateOfOne", "(I)I"⟩ yX2_stateOfOne) (List.mem_of_getElem? (i := 418) (by decide +kernel)) rfl
theorem cu_X2_60_X7 : mcU RX2 60 RX7 "MirroredTalks$Pairs" ⟨"MirroredTalks$Pairs", "stateOfOne", "(I)I"⟩ yX2_stateOfOne 1 := ⟨List.forall_mem_cons.mpr ⟨wg_414, List.forall_mem_cons.mpr ⟨wg_416, List.forall_mem_cons.mpr ⟨wg_418, List.forall_mem_cons.mpr ⟨wg_415, List.forall_mem_cons.mpr ⟨wg_58, fun _ h => absurd h List.not_mem_nil⟩⟩⟩⟩⟩, Or.inl rfl, by decide +kernel⟩
theorem wg_423 : Cond.methodLink RX2 63 ⟨"MirroredTalks$Pairs", "stateOfOther", "(I)I"⟩ ∈ mgood := mgood_in (w := Cond.methodLink RX2 63 ⟨"MirroredTalks$Pairs", "stateOfOther", "(I)I"⟩) (List.mem_of_getElem? (i := 423) (by decide +kernel)) rfl
theorem wg_425 : Cond.sameMethod "MirroredTalks$Pairs" "MirroredTalks$Pairs" "stateOfOther" "(I)I" ∈ mgood := mgood_in (w := Cond.sameMethod "MirroredTalks$Pairs" "MirroredTalks$Pairs" "stateOfOther" "(I)I") (List.mem_of_getElem? (i := 425) (by decide +kernel)) rfl
theorem wg_426 : Cond.selects RX6 ⟨"MirroredTalks$Pairs", "stateOfOther", "(I)I"⟩ yX2_stateOfOther ∈ mgood := mgood_in (w := Cond.selects RX6 ⟨"MirroredTalks$Pairs", "stateOfOther", "(I)I"⟩ yX2_stateOfOther) (List.mem_of_getElem? (i := 426) (by decide +kernel)) rfl
theorem cu_X2_63_X6 : mcU RX2 63 RX6 "MirroredTalks$Pairs" ⟨"MirroredTalks$Pairs", "stateOfOther", "(I)I"⟩ yX2_stateOfOther 1 := ⟨List.forall_mem_cons.mpr ⟨wg_423, List.forall_mem_cons.mpr ⟨wg_425, List.forall_mem_cons.mpr ⟨wg_426, List.forall_mem_cons.mpr ⟨wg_424, List.forall_mem_cons.mpr ⟨wg_58, fun _ h => absurd h List.not_mem_nil⟩⟩⟩⟩⟩, Or.inl rfl, by decide +kernel⟩
theorem wg_427 : Cond.selects RX7 ⟨"MirroredTalks$Pairs", "stateOfOther", "(I)I"⟩ yX2_stateOfOther ∈ mgood := mgood_in (w := Cond.selects RX7 ⟨"MirroredTalks$Pairs", "stateOfOther", "(I)I"⟩ yX2_stateOfOther) (List.mem_of_getElem? (i := 427) (by decide +kernel)) rfl
theorem cu_X2_63_X7 : mcU RX2 63 RX7 "MirroredTalks$Pairs" ⟨"MirroredTalks$Pairs", "stateOfOther", "(I)I"⟩ yX2_stateOfOther 1 := ⟨List.forall_mem_cons.mpr ⟨wg_423, List.forall_mem_cons.mpr ⟨wg_425, List.forall_mem_cons.mpr ⟨wg_427, List.forall_mem_cons.mpr ⟨wg_424, List.forall_mem_cons.mpr ⟨wg_58, fun _ h => absurd h List.not_mem_nil⟩⟩⟩⟩⟩, Or.inl rfl, by decide +kernel⟩
theorem wg_429 : Cond.methodLink RX2 66 yX3_targetOf ∈ mgood := mgood_in (w := Cond.methodLink RX2 66 yX3_targetOf) (List.mem_of_getElem? (i := 429) (by decide +kernel)) rfl
theorem cv_X2_66 : mcV RX2 66 yX3_targetOf 2 := ⟨wg_429, wg_303, wg_304, wg_54, by decide +kernel⟩
theorem wg_430 : Cond.methodLink RX2 71 yX3_kindOf ∈ mgood := mgood_in (w := Cond.methodLink RX2 71 yX3_kindOf) (List.mem_of_getElem? (i := 430) (by decide +kernel)) rfl
theorem cv_X2_71 : mcV RX2 71 yX3_kindOf 1 := ⟨wg_430, wg_288, wg_289, wg_54, by decide +kernel⟩
theorem wg_431 : Cond.methodLink RX2 74 ⟨"MirroredTalks$Pairs", "goTogether", "(II)Z"⟩ ∈ mgood := mgood_in (w := Cond.methodLink RX2 74 ⟨"MirroredTalks$Pairs", "goTogether", "(II)Z"⟩) (List.mem_of_getElem? (i := 431) (by decide +kernel)) rfl
theorem wg_433 : Cond.sameMethod "MirroredTalks$Pairs" "MirroredTalks$Pairs" "goTogether" "(II)Z" ∈ mgood := mgood_in (w := Cond.sameMethod "MirroredTalks$Pairs" "MirroredTalks$Pairs" "goTogether" "(II)Z") (List.mem_of_getElem? (i := 433) (by decide +kernel)) rfl
theorem wg_434 : Cond.selects RX6 ⟨"MirroredTalks$Pairs", "goTogether", "(II)Z"⟩ yX6_goTogether ∈ mgood := mgood_in (w := Cond.selects RX6 ⟨"MirroredTalks$Pairs", "goTogether", "(II)Z"⟩ yX6_goTogether) (List.mem_of_getElem? (i := 434) (by decide +kernel)) rfl
theorem wg_435 : Cond.instanceMethod yX6_goTogether ∈ mgood := mgood_in (w := Cond.instanceMethod yX6_goTogether) (List.mem_of_getElem? (i := 435) (by decide +kernel)) rfl
theorem wg_61 : Cond.initialized RX6 ∈ mgood := mgood_in (w := Cond.initialized RX6) (List.mem_of_getElem? (i := 61) (by decide +kernel)) rfl
theorem wn_432 : Cond.declares ⟨"MirroredTalks$Pairs", "goTogether", "(II)Z"⟩ ∈ mnest := mnest_in (w := Cond.declares ⟨"MirroredTalks$Pairs", "goTogether", "(II)Z"⟩) (List.mem_of_getElem? (i := 432) (by decide +kernel)) rfl
theorem cu_X2_74_X6 : mcU RX2 74 RX6 "MirroredTalks$Pairs" ⟨"MirroredTalks$Pairs", "goTogether", "(II)Z"⟩ yX6_goTogether 2 := ⟨List.forall_mem_cons.mpr ⟨wg_431, List.forall_mem_cons.mpr ⟨wg_433, List.forall_mem_cons.mpr ⟨wg_434, List.forall_mem_cons.mpr ⟨wg_435, List.forall_mem_cons.mpr ⟨wg_61, fun _ h => absurd h List.not_mem_nil⟩⟩⟩⟩⟩, Or.inr wn_432, by decide +kernel⟩
theorem wg_437 : Cond.selects RX7 ⟨"MirroredTalks$Pairs", "goTogether", "(II)Z"⟩ yX7_goTogether ∈ mgood := mgood_in (w := Cond.selects RX7 ⟨"MirroredTalks$Pairs", "goTogether", "(II)Z"⟩ yX7_goTogether) (List.mem_of_getElem? (i := 437) (by decide +kernel)) rfl
theorem wg_438 : Cond.instanceMethod yX7_goTogether ∈ mgood := mgood_in (w := Cond.instanceMethod yX7_goTogether) (List.mem_of_getElem? (i := 438) (by decide +kernel)) rfl
theorem cu_X2_74_X7 : mcU RX2 74 RX7 "MirroredTalks$Pairs" ⟨"MirroredTalks$Pairs", "goTogether", "(II)Z"⟩ yX7_goTogether 2 := ⟨List.forall_mem_cons.mpr ⟨wg_431, List.forall_mem_cons.mpr ⟨wg_433, List.forall_mem_cons.mpr ⟨wg_437, List.forall_mem_cons.mpr ⟨wg_438, List.forall_mem_cons.mpr ⟨wg_59, fun _ h => absurd h List.not_mem_nil⟩⟩⟩⟩⟩, Or.inr wn_432, by decide +kernel⟩
theorem wg_458 : Cond.methodLink RX2 78 yX3_wordsOf ∈ mgood := mgood_in (w := Cond.methodLink RX2 78 yX3_wordsOf) (List.mem_of_getElem? (i := 458) (by decide +kernel)) rfl
theorem cv_X2_78 : mcV RX2 78 yX3_wordsOf 1 := ⟨wg_458, wg_299, wg_300, wg_54, by decide +kernel⟩
theorem wg_459 : Cond.methodLink RX2 81 ⟨"MirroredTalks$Pairs", "reasonFor", "(IIII)I"⟩ ∈ mgood := mgood_in (w := Cond.methodLink RX2 81 ⟨"MirroredTalks$Pairs", "reasonFor", "(IIII)I"⟩) (List.mem_of_getElem? (i := 459) (by decide +kernel)) rfl
theorem wg_461 : Cond.sameMethod "MirroredTalks$Pairs" "MirroredTalks$Pairs" "reasonFor" "(IIII)I" ∈ mgood := mgood_in (w := Cond.sameMethod "MirroredTalks$Pairs" "MirroredTalks$Pairs" "reasonFor" "(IIII)I") (List.mem_of_getElem? (i := 461) (by decide +kernel)) rfl
theorem wg_462 : Cond.selects RX6 ⟨"MirroredTalks$Pairs", "reasonFor", "(IIII)I"⟩ yX6_reasonFor ∈ mgood := mgood_in (w := Cond.selects RX6 ⟨"MirroredTalks$Pairs", "reasonFor", "(IIII)I"⟩ yX6_reasonFor) (List.mem_of_getElem? (i := 462) (by decide +kernel)) rfl
theorem wg_463 : Cond.instanceMethod yX6_reasonFor ∈ mgood := mgood_in (w := Cond.instanceMethod yX6_reasonFor) (List.mem_of_getElem? (i := 463) (by decide +kernel)) rfl
theorem wn_460 : Cond.declares ⟨"MirroredTalks$Pairs", "reasonFor", "(IIII)I"⟩ ∈ mnest := mnest_in (w := Cond.declares ⟨"MirroredTalks$Pairs", "reasonFor", "(IIII)I"⟩) (List.mem_of_getElem? (i := 460) (by decide +kernel)) rfl
theorem cu_X2_81_X6 : mcU RX2 81 RX6 "MirroredTalks$Pairs" ⟨"MirroredTalks$Pairs", "reasonFor", "(IIII)I"⟩ yX6_reasonFor 4 := ⟨List.forall_mem_cons.mpr ⟨wg_459, List.forall_mem_cons.mpr ⟨wg_461, List.forall_mem_cons.mpr ⟨wg_462, List.forall_mem_cons.mpr ⟨wg_463, List.forall_mem_cons.mpr ⟨wg_61, fun _ h => absurd h List.not_mem_nil⟩⟩⟩⟩⟩, Or.inr wn_460, by decide +kernel⟩
theorem wg_469 : Cond.selects RX7 ⟨"MirroredTalks$Pairs", "reasonFor", "(IIII)I"⟩ yX7_reasonFor ∈ mgood := mgood_in (w := Cond.selects RX7 ⟨"MirroredTalks$Pairs", "reasonFor", "(IIII)I"⟩ yX7_reasonFor) (List.mem_of_getElem? (i := 469) (by decide +kernel)) rfl
theorem wg_470 : Cond.instanceMethod yX7_reasonFor ∈ mgood := mgood_in (w := Cond.instanceMethod yX7_reasonFor) (List.mem_of_getElem? (i := 470) (by decide +kernel)) rfl
theorem cu_X2_81_X7 : mcU RX2 81 RX7 "MirroredTalks$Pairs" ⟨"MirroredTalks$Pairs", "reasonFor", "(IIII)I"⟩ yX7_reasonFor 4 := ⟨List.forall_mem_cons.mpr ⟨wg_459, List.forall_mem_cons.mpr ⟨wg_461, List.forall_mem_cons.mpr ⟨wg_469, List.forall_mem_cons.mpr ⟨wg_470, List.forall_mem_cons.mpr ⟨wg_59, fun _ h => absurd h List.not_mem_nil⟩⟩⟩⟩⟩, Or.inr wn_460, by decide +kernel⟩
theorem wg_502 : Cond.methodLink RX2 85 ⟨"MirroredTalks$Pairs", "kindOfOne", "(I)I"⟩ ∈ mgood := mgood_in (w := Cond.methodLink RX2 85 ⟨"MirroredTalks$Pairs", "kindOfOne", "(I)I"⟩) (List.mem_of_getElem? (i := 502) (by decide +kernel)) rfl
theorem wg_504 : Cond.sameMethod "MirroredTalks$Pairs" "MirroredTalks$Pairs" "kindOfOne" "(I)I" ∈ mgood := mgood_in (w := Cond.sameMethod "MirroredTalks$Pairs" "MirroredTalks$Pairs" "kindOfOne" "(I)I") (List.mem_of_getElem? (i := 504) (by decide +kernel)) rfl
theorem wg_505 : Cond.selects RX6 ⟨"MirroredTalks$Pairs", "kindOfOne", "(I)I"⟩ yX2_kindOfOne ∈ mgood := mgood_in (w := Cond.selects RX6 ⟨"MirroredTalks$Pairs", "kindOfOne", "(I)I"⟩ yX2_kindOfOne) (List.mem_of_getElem? (i := 505) (by decide +kernel)) rfl
theorem wg_503 : Cond.instanceMethod yX2_kindOfOne ∈ mgood := mgood_in (w := Cond.instanceMethod yX2_kindOfOne) (List.mem_of_getElem? (i := 503) (by decide +kernel)) rfl
theorem cu_X2_85_X6 : mcU RX2 85 RX6 "MirroredTalks$Pairs" ⟨"MirroredTalks$Pairs", "kindOfOne", "(I)I"⟩ yX2_kindOfOne 1 := ⟨List.forall_mem_cons.mpr ⟨wg_502, List.forall_mem_cons.mpr ⟨wg_504, List.forall_mem_cons.mpr ⟨wg_505, List.forall_mem_cons.mpr ⟨wg_503, List.forall_mem_cons.mpr ⟨wg_58, fun _ h => absurd h List.not_mem_nil⟩⟩⟩⟩⟩, Or.inl rfl, by decide +kernel⟩
theorem wg_506 : Cond.selects RX7 ⟨"MirroredTalks$Pairs", "kindOfOne", "(I)I"⟩ yX2_kindOfOne ∈ mgood := mgood_in (w := Cond.selects RX7 ⟨"MirroredTalks$Pairs", "kindOfOne", "(I)I"⟩ yX2_kindOfOne) (List.mem_of_getElem? (i := 506) (by decide +kernel)) rfl
theorem cu_X2_85_X7 : mcU RX2 85 RX7 "MirroredTalks$Pairs" ⟨"MirroredTalks$Pairs", "kindOfOne", "(I)I"⟩ yX2_kindOfOne 1 := ⟨List.forall_mem_cons.mpr ⟨wg_502, List.forall_mem_cons.mpr ⟨wg_504, List.forall_mem_cons.mpr ⟨wg_506, List.forall_mem_cons.mpr ⟨wg_503, List.forall_mem_cons.mpr ⟨wg_58, fun _ h => absurd h List.not_mem_nil⟩⟩⟩⟩⟩, Or.inl rfl, by decide +kernel⟩
theorem wg_508 : Cond.methodLink RX2 88 ⟨"MirroredTalks$Pairs", "kindOfOther", "(I)I"⟩ ∈ mgood := mgood_in (w := Cond.methodLink RX2 88 ⟨"MirroredTalks$Pairs", "kindOfOther", "(I)I"⟩) (List.mem_of_getElem? (i := 508) (by decide +kernel)) rfl
theorem wg_510 : Cond.sameMethod "MirroredTalks$Pairs" "MirroredTalks$Pairs" "kindOfOther" "(I)I" ∈ mgood := mgood_in (w := Cond.sameMethod "MirroredTalks$Pairs" "MirroredTalks$Pairs" "kindOfOther" "(I)I") (List.mem_of_getElem? (i := 510) (by decide +kernel)) rfl
theorem wg_511 : Cond.selects RX6 ⟨"MirroredTalks$Pairs", "kindOfOther", "(I)I"⟩ yX2_kindOfOther ∈ mgood := mgood_in (w := Cond.selects RX6 ⟨"MirroredTalks$Pairs", "kindOfOther", "(I)I"⟩ yX2_kindOfOther) (List.mem_of_getElem? (i := 511) (by decide +kernel)) rfl
theorem wg_509 : Cond.instanceMethod yX2_kindOfOther ∈ mgood := mgood_in (w := Cond.instanceMethod yX2_kindOfOther) (List.mem_of_getElem? (i := 509) (by decide +kernel)) rfl
theorem cu_X2_88_X6 : mcU RX2 88 RX6 "MirroredTalks$Pairs" ⟨"MirroredTalks$Pairs", "kindOfOther", "(I)I"⟩ yX2_kindOfOther 1 := ⟨List.forall_mem_cons.mpr ⟨wg_508, List.forall_mem_cons.mpr ⟨wg_510, List.forall_mem_cons.mpr ⟨wg_511, List.forall_mem_cons.mpr ⟨wg_509, List.forall_mem_cons.mpr ⟨wg_58, fun _ h => absurd h List.not_mem_nil⟩⟩⟩⟩⟩, Or.inl rfl, by decide +kernel⟩
theorem wg_512 : Cond.selects RX7 ⟨"MirroredTalks$Pairs", "kindOfOther", "(I)I"⟩ yX2_kindOfOther ∈ mgood := mgood_in (w := Cond.selects RX7 ⟨"MirroredTalks$Pairs", "kindOfOther", "(I)I"⟩ yX2_kindOfOther) (List.mem_of_getElem? (i := 512) (by decide +kernel)) rfl
theorem cu_X2_88_X7 : mcU RX2 88 RX7 "MirroredTalks$Pairs" ⟨"MirroredTalks$Pairs", "kindOfOther", "(I)I"⟩ yX2_kindOfOther 1 := ⟨List.forall_mem_cons.mpr ⟨wg_508, List.forall_mem_cons.mpr ⟨wg_510, List.forall_mem_cons.mpr ⟨wg_512, List.forall_mem_cons.mpr ⟨wg_509, List.forall_mem_cons.mpr ⟨wg_58, fun _ h => absurd h List.not_mem_nil⟩⟩⟩⟩⟩, Or.inl rfl, by decide +kernel⟩
theorem wg_514 : Cond.methodLink RX2 91 yX2_lackedWords ∈ mgood := mgood_in (w := Cond.methodLink RX2 91 yX2_lackedWords) (List.mem_of_getElem? (i := 514) (by decide +kernel)) rfl
theorem wg_467 : Cond.static yX2_lackedWords ∈ mgood := mgood_in (w := Cond.static yX2_lackedWords) (List.mem_of_getElem? (i := 467) (by decide +kernel)) rfl
theorem cs_X2_91 : mcS RX2 91 yX2_lackedWords (3) := ⟨wg_514, wg_467, wg_58, by decide +kernel⟩
theorem wn_515 : Cond.methodLinkNest RX2 95 yX8_firstWordIn "MirroredTalks" ∈ mnest := mnest_in (w := Cond.methodLinkNest RX2 95 yX8_firstWordIn "MirroredTalks") (List.mem_of_getElem? (i := 515) (by decide +kernel)) rfl
theorem wg_516 : Cond.static yX8_firstWordIn ∈ mgood := mgood_in (w := Cond.static yX8_firstWordIn) (List.mem_of_getElem? (i := 516) (by decide +kernel)) rfl
theorem cn_X2_95 : mcN RX2 95 yX8_firstWordIn (1) := ⟨⟨_, wn_515⟩, wg_516, wg_53, by decide +kernel⟩
theorem wg_452 : Cond.methodLink RX2 98 ⟨"MirroredTalks$Pairs", "reasonOf", "(I)I"⟩ ∈ mgood := mgood_in (w := Cond.methodLink RX2 98 ⟨"MirroredTalks$Pairs", "reasonOf", "(I)I"⟩) (List.mem_of_getElem? (i := 452) (by decide +kernel)) rfl
theorem wg_454 : Cond.sameMethod "MirroredTalks$Pairs" "MirroredTalks$Pairs" "reasonOf" "(I)I" ∈ mgood := mgood_in (w := Cond.sameMethod "MirroredTalks$Pairs" "MirroredTalks$Pairs" "reasonOf" "(I)I") (List.mem_of_getElem? (i := 454) (by decide +kernel)) rfl
theorem wg_455 : Cond.selects RX6 ⟨"MirroredTalks$Pairs", "reasonOf", "(I)I"⟩ yX2_reasonOf ∈ mgood := mgood_in (w := Cond.selects RX6 ⟨"MirroredTalks$Pairs", "reasonOf", "(I)I"⟩ yX2_reasonOf) (List.mem_of_getElem? (i := 455) (by decide +kernel)) rfl
theorem wg_453 : Cond.instanceMethod yX2_reasonOf ∈ mgood := mgood_in (w := Cond.instanceMethod yX2_reasonOf) (List.mem_of_getElem? (i := 453) (by decide +kernel)) rfl
theorem cu_X2_98_X6 : mcU RX2 98 RX6 "MirroredTalks$Pairs" ⟨"MirroredTalks$Pairs", "reasonOf", "(I)I"⟩ yX2_reasonOf 1 := ⟨List.forall_mem_cons.mpr ⟨wg_452, List.forall_mem_cons.mpr ⟨wg_454, List.forall_mem_cons.mpr ⟨wg_455, List.forall_mem_cons.mpr ⟨wg_453, List.forall_mem_cons.mpr ⟨wg_58, fun _ h => absurd h List.not_mem_nil⟩⟩⟩⟩⟩, Or.inl rfl, by decide +kernel⟩
theorem wg_456 : Cond.selects RX7 ⟨"MirroredTalks$Pairs", "reasonOf", "(I)I"⟩ yX2_reasonOf ∈ mgood := mgood_in (w := Cond.selects RX7 ⟨"MirroredTalks$Pairs", "reasonOf", "(I)I"⟩ yX2_reasonOf) (List.mem_of_getElem? (i := 456) (by decide +kernel)) rfl
theorem cu_X2_98_X7 : mcU RX2 98 RX7 "MirroredTalks$Pairs" ⟨"MirroredTalks$Pairs", "reasonOf", "(I)I"⟩ yX2_reasonOf 1 := ⟨List.forall_mem_cons.mpr ⟨wg_452, List.forall_mem_cons.mpr ⟨wg_454, List.forall_mem_cons.mpr ⟨wg_456, List.forall_mem_cons.mpr ⟨wg_453, List.forall_mem_cons.mpr ⟨wg_58, fun _ h => absurd h List.not_mem_nil⟩⟩⟩⟩⟩, Or.inl rfl, by decide +kernel⟩
theorem wx_4 : Cond.selects RX6 yX2_firstLackedWord yX2_firstLackedWord ∈ mgood := mgood_inx (List.mem_of_getElem? (i := 4) rfl) rfl
theorem wg_498 : Cond.methodLink RX2 101 ⟨"MirroredTalks$Pairs", "firstLackedWord", "(I)I"⟩ ∈ mgood := mgood_in (w := Cond.methodLink RX2 101 ⟨"MirroredTalks$Pairs", "firstLackedWord", "(I)I"⟩) (List.mem_of_getElem? (i := 498) (by decide +kernel)) rfl
theorem wg_1119 : Cond.sameMethod "MirroredTalks$Pairs" "MirroredTalks$Pairs" "firstLackedWord" "(I)I" ∈ mgood := mgood_in (w := Cond.sameMethod "MirroredTalks$Pairs" "MirroredTalks$Pairs" "firstLackedWord" "(I)I") (List.mem_of_getElem? (i := 1119) (by decide +kernel)) rfl
theorem wg_500 : Cond.instanceMethod yX2_firstLackedWord ∈ mgood := mgood_in (w := Cond.instanceMethod yX2_firstLackedWord) (List.mem_of_getElem? (i := 500) (by decide +kernel)) rfl
theorem cu_X2_101_X6 : mcU RX2 101 RX6 "MirroredTalks$Pairs" ⟨"MirroredTalks$Pairs", "firstLackedWord", "(I)I"⟩ yX2_firstLackedWord 1 := ⟨List.forall_mem_cons.mpr ⟨wg_498, List.forall_mem_cons.mpr ⟨wg_1119, List.forall_mem_cons.mpr ⟨wx_4, List.forall_mem_cons.mpr ⟨wg_500, List.forall_mem_cons.mpr ⟨wg_58, fun _ h => absurd h List.not_mem_nil⟩⟩⟩⟩⟩, Or.inl rfl, by decide +kernel⟩
theorem wx_5 : Cond.selects RX7 yX2_firstLackedWord yX2_firstLackedWord ∈ mgood := mgood_inx (List.mem_of_getElem? (i := 5) rfl) rfl
theorem cu_X2_101_X7 : mcU RX2 101 RX7 "MirroredTalks$Pairs" ⟨"MirroredTalks$Pairs", "firstLackedWord", "(I)I"⟩ yX2_firstLackedWord 1 := ⟨List.forall_mem_cons.mpr ⟨wg_498, List.forall_mem_cons.mpr ⟨wg_1119, List.forall_mem_cons.mpr ⟨wx_5, List.forall_mem_cons.mpr ⟨wg_500, List.forall_mem_cons.mpr ⟨wg_58, fun _ h => absurd h List.not_mem_nil⟩⟩⟩⟩⟩, Or.inl rfl, by decide +kernel⟩
theorem wn_518 : Cond.methodLinkNest RX2 104 yX8_foundOr "MirroredTalks" ∈ mnest := mnest_in (w := Cond.methodLinkNest RX2 104 yX8_foundOr "MirroredTalks") (List.mem_of_getElem? (i := 518) (by decide +kernel)) rfl
theorem cn_X2_104 : mcN RX2 104 yX8_foundOr (1) := ⟨⟨_, wn_518⟩, wg_382, wg_53, by decide +kernel⟩
theorem wx_6 : Cond.selects RX6 yX2_wordOfRow yX2_wordOfRow ∈ mgood := mgood_inx (List.mem_of_getElem? (i := 6) rfl) rfl
theorem wg_519 : Cond.methodLink RX2 107 ⟨"MirroredTalks$Pairs", "wordOfRow", "(II)I"⟩ ∈ mgood := mgood_in (w := Cond.methodLink RX2 107 ⟨"MirroredTalks$Pairs", "wordOfRow", "(II)I"⟩) (List.mem_of_getElem? (i := 519) (by decide +kernel)) rfl
theorem wg_1120 : Cond.sameMethod "MirroredTalks$Pairs" "MirroredTalks$Pairs" "wordOfRow" "(II)I" ∈ mgood := mgood_in (w := Cond.sameMethod "MirroredTalks$Pairs" "MirroredTalks$Pairs" "wordOfRow" "(II)I") (List.mem_of_getElem? (i := 1120) (by decide +kernel)) rfl
theorem wg_521 : Cond.instanceMethod yX2_wordOfRow ∈ mgood := mgood_in (w := Cond.instanceMethod yX2_wordOfRow) (List.mem_of_getElem? (i := 521) (by decide +kernel)) rfl
theorem cu_X2_107_X6 : mcU RX2 107 RX6 "MirroredTalks$Pairs" ⟨"MirroredTalks$Pairs", "wordOfRow", "(II)I"⟩ yX2_wordOfRow 2 := ⟨List.forall_mem_cons.mpr ⟨wg_519, List.forall_mem_cons.mpr ⟨wg_1120, List.forall_mem_cons.mpr ⟨wx_6, List.forall_mem_cons.mpr ⟨wg_521, List.forall_mem_cons.mpr ⟨wg_58, fun _ h => absurd h List.not_mem_nil⟩⟩⟩⟩⟩, Or.inl rfl, by decide +kernel⟩
theorem wx_7 : Cond.selects RX7 yX2_wordOfRow yX2_wordOfRow ∈ mgood := mgood_inx (List.mem_of_getElem? (i := 7) rfl) rfl
theorem cu_X2_107_X7 : mcU RX2 107 RX7 "MirroredTalks$Pairs" ⟨"MirroredTalks$Pairs", "wordOfRow", "(II)I"⟩ yX2_wordOfRow 2 := ⟨List.forall_mem_cons.mpr ⟨wg_519, List.forall_mem_cons.mpr ⟨wg_1120, List.forall_mem_cons.mpr ⟨wx_7, List.forall_mem_cons.mpr ⟨wg_521, List.forall_mem_cons.mpr ⟨wg_58, fun _ h => absurd h List.not_mem_nil⟩⟩⟩⟩⟩, Or.inl rfl, by decide +kernel⟩
theorem wg_81 : Cond.methodLink RX3 15 yX3_clear ∈ mgood := mgood_in (w := Cond.methodLink RX3 15 yX3_clear) (List.mem_of_getElem? (i := 81) (by decide +kernel)) rfl
theorem wg_82 : Cond.instanceMethod yX3_clear ∈ mgood := mgood_in (w := Cond.instanceMethod yX3_clear) (List.mem_of_getElem? (i := 82) (by decide +kernel)) rfl
theorem wg_83 : Cond.selects RX3 yX3_clear yX3_clear ∈ mgood := mgood_in (w := Cond.selects RX3 yX3_clear yX3_clear) (List.mem_of_getElem? (i := 83) (by decide +kernel)) rfl
theorem cv_X3_15 : mcV RX3 15 yX3_clear 0 := ⟨wg_81, wg_82, wg_83, wg_54, by decide +kernel⟩
theorem wg_85 : Cond.methodLink RX3 18 yX3_setKind ∈ mgood := mgood_in (w := Cond.methodLink RX3 18 yX3_setKind) (List.mem_of_getElem? (i := 85) (by decide +kernel)) rfl
theorem cv_X3_18 : mcV RX3 18 yX3_setKind 2 := ⟨wg_85, wg_86, wg_87, wg_54, by decide +kernel⟩
theorem wg_92 : Cond.methodLink RX3 22 yX3_setTarget ∈ mgood := mgood_in (w := Cond.methodLink RX3 22 yX3_setTarget) (List.mem_of_getElem? (i := 92) (by decide +kernel)) rfl
theorem cv_X3_22 : mcV RX3 22 yX3_setTarget 3 := ⟨wg_92, wg_93, wg_94, wg_54, by decide +kernel⟩
theorem wn_89 : Cond.methodLinkNest RX3 26 yX8_isState "MirroredTalks" ∈ mnest := mnest_in (w := Cond.methodLinkNest RX3 26 yX8_isState "MirroredTalks") (List.mem_of_getElem? (i := 89) (by decide +kernel)) rfl
theorem cn_X3_26 : mcN RX3 26 yX8_isState (1) := ⟨⟨_, wn_89⟩, wg_90, wg_53, by decide +kernel⟩
theorem wn_96 : Cond.methodLinkNest RX3 30 yX8_isWord "MirroredTalks" ∈ mnest := mnest_in (w := Cond.methodLinkNest RX3 30 yX8_isWord "MirroredTalks") (List.mem_of_getElem? (i := 96) (by decide +kernel)) rfl
theorem cn_X3_30 : mcN RX3 30 yX8_isWord (1) := ⟨⟨_, wn_96⟩, wg_97, wg_53, by decide +kernel⟩
theorem wg_302 : Cond.methodLink RX3 33 yX3_targetOf ∈ mgood := mgood_in (w := Cond.methodLink RX3 33 yX3_targetOf) (List.mem_of_getElem? (i := 302) (by decide +kernel)) rfl
theorem cv_X3_33 : mcV RX3 33 yX3_targetOf 2 := ⟨wg_302, wg_303, wg_304, wg_54, by decide +kernel⟩
theorem wg_663 : Cond.methodLink RX3 37 yX3_wordsOf ∈ mgood := mgood_in (w := Cond.methodLink RX3 37 yX3_wordsOf) (List.mem_of_getElem? (i := 663) (by decide +kernel)) rfl
theorem cv_X3_37 : mcV RX3 37 yX3_wordsOf 1 := ⟨wg_663, wg_299, wg_300, wg_54, by decide +kernel⟩
theorem wg_664 : Cond.methodLink RX3 41 yJ6_bitCount_0f7a4 ∈ mgood := mgood_in (w := Cond.methodLink RX3 41 yJ6_bitCount_0f7a4) (List.mem_of_getElem? (i := 664) (by decide +kernel)) rfl
theorem cs_X3_41 : mcS RX3 41 yJ6_bitCount_0f7a4 (1) := ⟨wg_664, wg_307, wg_64, by decide +kernel⟩
theorem wg_330 : Cond.methodLink RX3 46 yX3_kindOf ∈ mgood := mgood_in (w := Cond.methodLink RX3 46 yX3_kindOf) (List.mem_of_getElem? (i := 330) (by decide +kernel)) rfl
theorem cv_X3_46 : mcV RX3 46 yX3_kindOf 1 := ⟨wg_330, wg_288, wg_289, wg_54, by decide +kernel⟩
theorem wn_374 : Cond.methodLinkNest RX3 49 yX8_holds "MirroredTalks" ∈ mnest := mnest_in (w := Cond.methodLinkNest RX3 49 yX8_holds "MirroredTalks") (List.mem_of_getElem? (i := 374) (by decide +kernel)) rfl
theorem cn_X3_49 : mcN RX3 49 yX8_holds (2) := ⟨⟨_, wn_374⟩, wg_375, wg_53, by decide +kernel⟩
theorem wg_377 : Cond.methodLink RX3 53 yX3_statesBehind ∈ mgood := mgood_in (w := Cond.methodLink RX3 53 yX3_statesBehind) (List.mem_of_getElem? (i := 377) (by decide +kernel)) rfl
theorem wg_379 : Cond.instanceMethod yX3_statesBehind ∈ mgood := mgood_in (w := Cond.instanceMethod yX3_statesBehind) (List.mem_of_getElem? (i := 379) (by decide +kernel)) rfl
theorem wg_5 : Cond.selects RX3 yX3_statesBehind yX3_statesBehind ∈ mgood := mgood_in (w := Cond.selects RX3 yX3_statesBehind yX3_statesBehind) (List.mem_of_getElem? (i := 5) (by decide +kernel)) rfl
theorem cv_X3_53 : mcV RX3 53 yX3_statesBehind 1 := ⟨wg_377, wg_379, wg_5, wg_54, by decide +kernel⟩
theorem wg_766 : Cond.methodLink RX4 29 yJ6_bitCount_0f7a4 ∈ mgood := mgood_in (w := Cond.methodLink RX4 29 yJ6_bitCount_0f7a4) (List.mem_of_getElem? (i := 766) (by decide +kernel)) rfl
theorem cs_X4_29 : mcS RX4 29 yJ6_bitCount_0f7a4 (1) := ⟨wg_766, wg_307, wg_64, by decide +kernel⟩
theorem wg_714 : Cond.methodLink RX4 44 yX3_clear ∈ mgood := mgood_in (w := Cond.methodLink RX4 44 yX3_clear) (List.mem_of_getElem? (i := 714) (by decide +kernel)) rfl
theorem cv_X4_44 : mcV RX4 44 yX3_clear 0 := ⟨wg_714, wg_82, wg_83, wg_54, by decide +kernel⟩
theorem wg_715 : Cond.methodLink RX4 47 yX4_setFault ∈ mgood := mgood_in (w := Cond.methodLink RX4 47 yX4_setFault) (List.mem_of_getElem? (i := 715) (by decide +kernel)) rfl
theorem wg_717 : Cond.instanceMethod yX4_setFault ∈ mgood := mgood_in (w := Cond.instanceMethod yX4_setFault) (List.mem_of_getElem? (i := 717) (by decide +kernel)) rfl
theorem wg_10 : Cond.selects RX4 yX4_setFault yX4_setFault ∈ mgood := mgood_in (w := Cond.selects RX4 yX4_setFault yX4_setFault) (List.mem_of_getElem? (i := 10) (by decide +kernel)) rfl
theorem cv_X4_47 : mcV RX4 47 yX4_setFault 3 := ⟨wg_715, wg_717, wg_10, wg_56, by decide +kernel⟩
theorem wg_719 : Cond.methodLink RX4 51 yX4_isFaulty ∈ mgood := mgood_in (w := Cond.methodLink RX4 51 yX4_isFaulty) (List.mem_of_getElem? (i := 719) (by decide +kernel)) rfl
theorem cv_X4_51 : mcV RX4 51 yX4_isFaulty 0 := ⟨wg_719, wg_720, wg_721, wg_56, by decide +kernel⟩
theorem wg_723 : Cond.methodLink RX4 55 yX4_characterAt ∈ mgood := mgood_in (w := Cond.methodLink RX4 55 yX4_characterAt) (List.mem_of_getElem? (i := 723) (by decide +kernel)) rfl
theorem wg_725 : Cond.instanceMethod yX4_characterAt ∈ mgood := mgood_in (w := Cond.instanceMethod yX4_characterAt) (List.mem_of_getElem? (i := 725) (by decide +kernel)) rfl
theorem wg_11 : Cond.selects RX4 yX4_characterAt yX4_characterAt ∈ mgood := mgood_in (w := Cond.selects RX4 yX4_characterAt yX4_characterAt) (List.mem_of_getElem? (i := 11) (by decide +kernel)) rfl
theorem cv_X4_55 : mcV RX4 55 yX4_characterAt 1 := ⟨wg_723, wg_725, wg_11, wg_56, by decide +kernel⟩
theorem wg_728 : Cond.methodLink RX4 58 yX4_after ∈ mgood := mgood_in (w := Cond.methodLink RX4 58 yX4_after) (List.mem_of_getElem? (i := 728) (by decide +kernel)) rfl
theorem wg_729 : Cond.static yX4_after ∈ mgood := mgood_in (w := Cond.static yX4_after) (List.mem_of_getElem? (i := 729) (by decide +kernel)) rfl
theorem cs_X4_58 : mcS RX4 58 yX4_after (2) := ⟨wg_728, wg_729, wg_56, by decide +kernel⟩
theorem wg_733 : Cond.methodLink RX4 62 yX4_takeState ∈ mgood := mgood_in (w := Cond.methodLink RX4 62 yX4_takeState) (List.mem_of_getElem? (i := 733) (by decide +kernel)) rfl
theorem wg_735 : Cond.instanceMethod yX4_takeState ∈ mgood := mgood_in (w := Cond.instanceMethod yX4_takeState) (List.mem_of_getElem? (i := 735) (by decide +kernel)) rfl
theorem wg_12 : Cond.selects RX4 yX4_takeState yX4_takeState ∈ mgood := mgood_in (w := Cond.selects RX4 yX4_takeState yX4_takeState) (List.mem_of_getElem? (i := 12) (by decide +kernel)) rfl
theorem cv_X4_62 : mcV RX4 62 yX4_takeState 2 := ⟨wg_733, wg_735, wg_12, wg_56, by decide +kernel⟩
theorem wn_731 : Cond.methodLinkNest RX4 66 yX8_isState "MirroredTalks" ∈ mnest := mnest_in (w := Cond.methodLinkNest RX4 66 yX8_isState "MirroredTalks") (List.mem_of_getElem? (i := 731) (by decide +kernel)) rfl
theorem cn_X4_66 : mcN RX4 66 yX8_isState (1) := ⟨⟨_, wn_731⟩, wg_90, wg_53, by decide +kernel⟩
theorem wn_732 : Cond.methodLinkNest RX4 70 yX8_isWord "MirroredTalks" ∈ mnest := mnest_in (w := Cond.methodLinkNest RX4 70 yX8_isWord "MirroredTalks") (List.mem_of_getElem? (i := 732) (by decide +kernel)) rfl
theorem cn_X4_70 : mcN RX4 70 yX8_isWord (1) := ⟨⟨_, wn_732⟩, wg_97, wg_53, by decide +kernel⟩
theorem wn_737 : Cond.methodLinkNest RX4 73 yX8_holds "MirroredTalks" ∈ mnest := mnest_in (w := Cond.methodLinkNest RX4 73 yX8_holds "MirroredTalks") (List.mem_of_getElem? (i := 737) (by decide +kernel)) rfl
theorem cn_X4_73 : mcN RX4 73 yX8_holds (2) := ⟨⟨_, wn_737⟩, wg_375, wg_53, by decide +kernel⟩
theorem wg_738 : Cond.methodLink RX4 77 yX3_setKind ∈ mgood := mgood_in (w := Cond.methodLink RX4 77 yX3_setKind) (List.mem_of_getElem? (i := 738) (by decide +kernel)) rfl
theorem cv_X4_77 : mcV RX4 77 yX3_setKind 2 := ⟨wg_738, wg_86, wg_87, wg_54, by decide +kernel⟩
theorem wg_739 : Cond.methodLink RX4 80 yX3_targetOf ∈ mgood := mgood_in (w := Cond.methodLink RX4 80 yX3_targetOf) (List.mem_of_getElem? (i := 739) (by decide +kernel)) rfl
theorem cv_X4_80 : mcV RX4 80 yX3_targetOf 2 := ⟨wg_739, wg_303, wg_304, wg_54, by decide +kernel⟩
theorem wg_740 : Cond.methodLink RX4 83 yX3_setTarget ∈ mgood := mgood_in (w := Cond.methodLink RX4 83 yX3_setTarget) (List.mem_of_getElem? (i := 740) (by decide +kernel)) rfl
theorem cv_X4_83 : mcV RX4 83 yX3_setTarget 3 := ⟨wg_740, wg_93, wg_94, wg_54, by decide +kernel⟩
theorem wn_727 : Cond.methodLinkNest RX4 86 yX8_cellOf "MirroredTalks" ∈ mnest := mnest_in (w := Cond.methodLinkNest RX4 86 yX8_cellOf "MirroredTalks") (List.mem_of_getElem? (i := 727) (by decide +kernel)) rfl
theorem cn_X4_86 : mcN RX4 86 yX8_cellOf (2) := ⟨⟨_, wn_727⟩, wg_421, wg_53, by decide +kernel⟩
theorem wg_562 : Cond.methodLink RX5 22 yX5_countWays ∈ mgood := mgood_in (w := Cond.methodLink RX5 22 yX5_countWays) (List.mem_of_getElem? (i := 562) (by decide +kernel)) rfl
theorem wg_564 : Cond.instanceMethod yX5_countWays ∈ mgood := mgood_in (w := Cond.instanceMethod yX5_countWays) (List.mem_of_getElem? (i := 564) (by decide +kernel)) rfl
theorem wg_6 : Cond.selects RX5 yX5_countWays yX5_countWays ∈ mgood := mgood_in (w := Cond.selects RX5 yX5_countWays yX5_countWays) (List.mem_of_getElem? (i := 6) (by decide +kernel)) rfl
theorem cv_X5_22 : mcV RX5 22 yX5_countWays 1 := ⟨wg_562, wg_564, wg_6, wg_60, by decide +kernel⟩
theorem wg_580 : Cond.methodLink RX5 26 yX5_setReady ∈ mgood := mgood_in (w := Cond.methodLink RX5 26 yX5_setReady) (List.mem_of_getElem? (i := 580) (by decide +kernel)) rfl
theorem wg_582 : Cond.instanceMethod yX5_setReady ∈ mgood := mgood_in (w := Cond.instanceMethod yX5_setReady) (List.mem_of_getElem? (i := 582) (by decide +kernel)) rfl
theorem wg_7 : Cond.selects RX5 yX5_setReady yX5_setReady ∈ mgood := mgood_in (w := Cond.selects RX5 yX5_setReady yX5_setReady) (List.mem_of_getElem? (i := 7) (by decide +kernel)) rfl
theorem cv_X5_26 : mcV RX5 26 yX5_setReady 1 := ⟨wg_580, wg_582, wg_7, wg_60, by decide +kernel⟩
theorem wg_584 : Cond.methodLink RX5 34 yX7_isEnd ∈ mgood := mgood_in (w := Cond.methodLink RX5 34 yX7_isEnd) (List.mem_of_getElem? (i := 584) (by decide +kernel)) rfl
theorem wg_547 : Cond.instanceMethod yX7_isEnd ∈ mgood := mgood_in (w := Cond.instanceMethod yX7_isEnd) (List.mem_of_getElem? (i := 547) (by decide +kernel)) rfl
theorem wg_548 : Cond.selects RX7 yX7_isEnd yX7_isEnd ∈ mgood := mgood_in (w := Cond.selects RX7 yX7_isEnd yX7_isEnd) (List.mem_of_getElem? (i := 548) (by decide +kernel)) rfl
theorem cv_X5_34 : mcV RX5 34 yX7_isEnd 1 := ⟨wg_584, wg_547, wg_548, wg_59, by decide +kernel⟩
theorem wg_585 : Cond.methodLink RX5 40 yX5_rowsTo ∈ mgood := mgood_in (w := Cond.methodLink RX5 40 yX5_rowsTo) (List.mem_of_getElem? (i := 585) (by decide +kernel)) rfl
theorem wg_587 : Cond.instanceMethod yX5_rowsTo ∈ mgood := mgood_in (w := Cond.instanceMethod yX5_rowsTo) (List.mem_of_getElem? (i := 587) (by decide +kernel)) rfl
theorem wg_8 : Cond.selects RX5 yX5_rowsTo yX5_rowsTo ∈ mgood := mgood_in (w := Cond.selects RX5 yX5_rowsTo yX5_rowsTo) (List.mem_of_getElem? (i := 8) (by decide +kernel)) rfl
theorem cv_X5_40 : mcV RX5 40 yX5_rowsTo 1 := ⟨wg_585, wg_587, wg_8, wg_60, by decide +kernel⟩
theorem wg_589 : Cond.methodLink RX5 44 yX5_capped ∈ mgood := mgood_in (w := Cond.methodLink RX5 44 yX5_capped) (List.mem_of_getElem? (i := 589) (by decide +kernel)) rfl
theorem wg_590 : Cond.static yX5_capped ∈ mgood := mgood_in (w := Cond.static yX5_capped) (List.mem_of_getElem? (i := 590) (by decide +kernel)) rfl
theorem cs_X5_44 : mcS RX5 44 yX5_capped (1) := ⟨wg_589, wg_590, wg_60, by decide +kernel⟩
theorem wg_571 : Cond.methodLink RX5 48 ⟨"MirroredTalks$TalkPairs", "positionBehind", "(II)I"⟩ ∈ mgood := mgood_in (w := Cond.methodLink RX5 48 ⟨"MirroredTalks$TalkPairs", "positionBehind", "(II)I"⟩) (List.mem_of_getElem? (i := 571) (by decide +kernel)) rfl
theorem wg_572 : Cond.sameMethod "MirroredTalks$TalkPairs" "MirroredTalks$Pairs" "positionBehind" "(II)I" ∈ mgood := mgood_in (w := Cond.sameMethod "MirroredTalks$TalkPairs" "MirroredTalks$Pairs" "positionBehind" "(II)I") (List.mem_of_getElem? (i := 572) (by decide +kernel)) rfl
theorem wg_574 : Cond.selects RX7 ⟨"MirroredTalks$TalkPairs", "positionBehind", "(II)I"⟩ yX2_positionBehind ∈ mgood := mgood_in (w := Cond.selects RX7 ⟨"MirroredTalks$TalkPairs", "positionBehind", "(II)I"⟩ yX2_positionBehind) (List.mem_of_getElem? (i := 574) (by decide +kernel)) rfl
theorem wg_575 : Cond.instanceMethod yX2_positionBehind ∈ mgood := mgood_in (w := Cond.instanceMethod yX2_positionBehind) (List.mem_of_getElem? (i := 575) (by decide +kernel)) rfl
theorem cu_X5_48_X7 : mcU RX5 48 RX7 "MirroredTalks$Pairs" ⟨"MirroredTalks$TalkPairs", "positionBehind", "(II)I"⟩ yX2_positionBehind 2 := ⟨List.forall_mem_cons.mpr ⟨wg_571, List.forall_mem_cons.mpr ⟨wg_572, List.forall_mem_cons.mpr ⟨wg_574, List.forall_mem_cons.mpr ⟨wg_575, List.forall_mem_cons.mpr ⟨wg_58, fun _ h => absurd h List.not_mem_nil⟩⟩⟩⟩⟩, Or.inl rfl, by decide +kernel⟩
theorem wg_596 : Cond.methodLink RX5 52 yX5_goAlong ∈ mgood := mgood_in (w := Cond.methodLink RX5 52 yX5_goAlong) (List.mem_of_getElem? (i := 596) (by decide +kernel)) rfl
theorem wg_598 : Cond.instanceMethod yX5_goAlong ∈ mgood := mgood_in (w := Cond.instanceMethod yX5_goAlong) (List.mem_of_getElem? (i := 598) (by decide +kernel)) rfl
theorem wg_9 : Cond.selects RX5 yX5_goAlong yX5_goAlong ∈ mgood := mgood_in (w := Cond.selects RX5 yX5_goAlong yX5_goAlong) (List.mem_of_getElem? (i := 9) (by decide +kernel)) rfl
theorem cv_X5_52 : mcV RX5 52 yX5_goAlong 2 := ⟨wg_596, wg_598, wg_9, wg_60, by decide +kernel⟩
theorem wg_570 : Cond.methodLink RX5 56 ⟨"MirroredTalks$TalkPairs", "size", "()I"⟩ ∈ mgood := mgood_in (w := Cond.methodLink RX5 56 ⟨"MirroredTalks$TalkPairs", "size", "()I"⟩) (List.mem_of_getElem? (i := 570) (by decide +kernel)) rfl
theorem cu_X5_56_X7 : mcU RX5 56 RX7 "MirroredTalks$Pairs" ⟨"MirroredTalks$TalkPairs", "size", "()I"⟩ yX2_size 0 := ⟨List.forall_mem_cons.mpr ⟨wg_570, List.forall_mem_cons.mpr ⟨wg_528, List.forall_mem_cons.mpr ⟨wg_530, List.forall_mem_cons.mpr ⟨wg_531, List.forall_mem_cons.mpr ⟨wg_58, fun _ h => absurd h List.not_mem_nil⟩⟩⟩⟩⟩, Or.inl rfl, by decide +kernel⟩
theorem wg_566 : Cond.methodLink RX5 62 yJ7_fill_53178 ∈ mgood := mgood_in (w := Cond.methodLink RX5 62 yJ7_fill_53178) (List.mem_of_getElem? (i := 566) (by decide +kernel)) rfl
theorem cs_X5_62 : mcS RX5 62 yJ7_fill_53178 (2) := ⟨wg_566, wg_404, wg_65, by decide +kernel⟩
theorem wg_567 : Cond.methodLink RX5 68 yJ7_fill_d0a16 ∈ mgood := mgood_in (w := Cond.methodLink RX5 68 yJ7_fill_d0a16) (List.mem_of_getElem? (i := 567) (by decide +kernel)) rfl
theorem wg_568 : Cond.static yJ7_fill_d0a16 ∈ mgood := mgood_in (w := Cond.static yJ7_fill_d0a16) (List.mem_of_getElem? (i := 568) (by decide +kernel)) rfl
theorem cs_X5_68 : mcS RX5 68 yJ7_fill_d0a16 (2) := ⟨wg_567, wg_568, wg_65, by decide +kernel⟩
theorem wg_577 : Cond.methodLink RX5 71 yX5_isPosition ∈ mgood := mgood_in (w := Cond.methodLink RX5 71 yX5_isPosition) (List.mem_of_getElem? (i := 577) (by decide +kernel)) rfl
theorem wg_578 : Cond.static yX5_isPosition ∈ mgood := mgood_in (w := Cond.static yX5_isPosition) (List.mem_of_getElem? (i := 578) (by decide +kernel)) rfl
theorem cs_X5_71 : mcS RX5 71 yX5_isPosition (1) := ⟨wg_577, wg_578, wg_60, by decide +kernel⟩
theorem wg_593 : Cond.methodLink RX5 76 yJ9_min_f86c9 ∈ mgood := mgood_in (w := Cond.methodLink RX5 76 yJ9_min_f86c9) (List.mem_of_getElem? (i := 593) (by decide +kernel)) rfl
theorem wg_594 : Cond.static yJ9_min_f86c9 ∈ mgood := mgood_in (w := Cond.static yJ9_min_f86c9) (List.mem_of_getElem? (i := 594) (by decide +kernel)) rfl
theorem wg_66 : Cond.initialized RJ9 ∈ mgood := mgood_in (w := Cond.initialized RJ9) (List.mem_of_getElem? (i := 66) (by decide +kernel)) rfl
theorem cs_X5_76 : mcS RX5 76 yJ9_min_f86c9 (2) := ⟨wg_593, wg_594, wg_66, by decide +kernel⟩
theorem wg_465 : Cond.methodLink RX6 11 ⟨"MirroredTalks$StandInPairs", "lackedWords", "(III)I"⟩ ∈ mgood := mgood_in (w := Cond.methodLink RX6 11 ⟨"MirroredTalks$StandInPairs", "lackedWords", "(III)I"⟩) (List.mem_of_getElem? (i := 465) (by decide +kernel)) rfl
theorem wg_466 : Cond.sameMethod "MirroredTalks$StandInPairs" RX2 "lackedWords" "(III)I" ∈ mgood := mgood_in (w := Cond.sameMethod "MirroredTalks$StandInPairs" RX2 "lackedWords" "(III)I") (List.mem_of_getElem? (i := 466) (by decide +kernel)) rfl
theorem ct_X6_11 : mcT RX6 11 ⟨"MirroredTalks$StandInPairs", "lackedWords", "(III)I"⟩ yX2_lackedWords 3 := ⟨wg_465, wg_466, rfl, wg_467, wg_58, by decide +kernel⟩
theorem wg_472 : Cond.methodLink RX7 11 ⟨"MirroredTalks$TalkPairs", "lackedWords", "(III)I"⟩ ∈ mgood := mgood_in (w := Cond.methodLink RX7 11 ⟨"MirroredTalks$TalkPairs", "lackedWords", "(III)I"⟩) (List.mem_of_getElem? (i := 472) (by decide +kernel)) rfl
theorem wg_473 : Cond.sameMethod "MirroredTalks$TalkPairs" RX2 "lackedWords" "(III)I" ∈ mgood := mgood_in (w := Cond.sameMethod "MirroredTalks$TalkPairs" RX2 "lackedWords" "(III)I") (List.mem_of_getElem? (i := 473) (by decide +kernel)) rfl
theorem ct_X7_11 : mcT RX7 11 ⟨"MirroredTalks$TalkPairs", "lackedWords", "(III)I"⟩ yX2_lackedWords 3 := ⟨wg_472, wg_473, rfl, wg_467, wg_58, by decide +kernel⟩
theorem wg_550 : Cond.methodLink RX7 15 ⟨"MirroredTalks$TalkPairs", "kindOfOne", "(I)I"⟩ ∈ mgood := mgood_in (w := Cond.methodLink RX7 15 ⟨"MirroredTalks$TalkPairs", "kindOfOne", "(I)I"⟩) (List.mem_of_getElem? (i := 550) (by decide +kernel)) rfl
theorem wg_551 : Cond.sameMethod "MirroredTalks$TalkPairs" "MirroredTalks$Pairs" "kindOfOne" "(I)I" ∈ mgood := mgood_in (w := Cond.sameMethod "MirroredTalks$TalkPairs" "MirroredTalks$Pairs" "kindOfOne" "(I)I") (List.mem_of_getElem? (i := 551) (by decide +kernel)) rfl
theorem wg_553 : Cond.selects RX7 ⟨"MirroredTalks$TalkPairs", "kindOfOne", "(I)I"⟩ yX2_kindOfOne ∈ mgood := mgood_in (w := Cond.selects RX7 ⟨"MirroredTalks$TalkPairs", "kindOfOne", "(I)I"⟩ yX2_kindOfOne) (List.mem_of_getElem? (i := 553) (by decide +kernel)) rfl
theorem cu_X7_15_X7 : mcU RX7 15 RX7 "MirroredTalks$Pairs" ⟨"MirroredTalks$TalkPairs", "kindOfOne", "(I)I"⟩ yX2_kindOfOne 1 := ⟨List.forall_mem_cons.mpr ⟨wg_550, List.forall_mem_cons.mpr ⟨wg_551, List.forall_mem_cons.mpr ⟨wg_553, List.forall_mem_cons.mpr ⟨wg_503, List.forall_mem_cons.mpr ⟨wg_58, fun _ h => absurd h List.not_mem_nil⟩⟩⟩⟩⟩, Or.inl rfl, by decide +kernel⟩
theorem wg_554 : Cond.methodLink RX7 19 ⟨"MirroredTalks$TalkPairs", "kindOfOther", "(I)I"⟩ ∈ mgood := mgood_in (w := Cond.methodLink RX7 19 ⟨"MirroredTalks$TalkPairs", "kindOfOther", "(I)I"⟩) (List.mem_of_getElem? (i := 554) (by decide +kernel)) rfl
theorem wg_555 : Cond.sameMethod "MirroredTalks$TalkPairs" "MirroredTalks$Pairs" "kindOfOther" "(I)I" ∈ mgood := mgood_in (w := Cond.sameMethod "MirroredTalks$TalkPairs" "MirroredTalks$Pairs" "kindOfOther" "(I)I") (List.mem_of_getElem? (i := 555) (by decide +kernel)) rfl
theorem wg_557 : Cond.selects RX7 ⟨"MirroredTalks$TalkPairs", "kindOfOther", "(I)I"⟩ yX2_kindOfOther ∈ mgood := mgood_in (w := Cond.selects RX7 ⟨"MirroredTalks$TalkPairs", "kindOfOther", "(I)I"⟩ yX2_kindOfOther) (List.mem_of_getElem? (i := 557) (by decide +kernel)) rfl
theorem cu_X7_19_X7 : mcU RX7 19 RX7 "MirroredTalks$Pairs" ⟨"MirroredTalks$TalkPairs", "kindOfOther", "(I)I"⟩ yX2_kindOfOther 1 := ⟨List.forall_mem_cons.mpr ⟨wg_554, List.forall_mem_cons.mpr ⟨wg_555, List.forall_mem_cons.mpr ⟨wg_557, List.forall_mem_cons.mpr ⟨wg_509, List.forall_mem_cons.mpr ⟨wg_58, fun _ h => absurd h List.not_mem_nil⟩⟩⟩⟩⟩, Or.inl rfl, by decide +kernel⟩
theorem wg_537 : Cond.methodLink RX7 22 ⟨"MirroredTalks$TalkPairs", "size", "()I"⟩ ∈ mgood := mgood_in (w := Cond.methodLink RX7 22 ⟨"MirroredTalks$TalkPairs", "size", "()I"⟩) (List.mem_of_getElem? (i := 537) (by decide +kernel)) rfl
theorem cu_X7_22_X7 : mcU RX7 22 RX7 "MirroredTalks$Pairs" ⟨"MirroredTalks$TalkPairs", "size", "()I"⟩ yX2_size 0 := ⟨List.forall_mem_cons.mpr ⟨wg_537, List.forall_mem_cons.mpr ⟨wg_528, List.forall_mem_cons.mpr ⟨wg_530, List.forall_mem_cons.mpr ⟨wg_531, List.forall_mem_cons.mpr ⟨wg_58, fun _ h => absurd h List.not_mem_nil⟩⟩⟩⟩⟩, Or.inl rfl, by decide +kernel⟩
theorem wg_538 : Cond.methodLink RX7 26 ⟨"MirroredTalks$TalkPairs", "reasonOf", "(I)I"⟩ ∈ mgood := mgood_in (w := Cond.methodLink RX7 26 ⟨"MirroredTalks$TalkPairs", "reasonOf", "(I)I"⟩) (List.mem_of_getElem? (i := 538) (by decide +kernel)) rfl
theorem wg_539 : Cond.sameMethod "MirroredTalks$TalkPairs" "MirroredTalks$Pairs" "reasonOf" "(I)I" ∈ mgood := mgood_in (w := Cond.sameMethod "MirroredTalks$TalkPairs" "MirroredTalks$Pairs" "reasonOf" "(I)I") (List.mem_of_getElem? (i := 539) (by decide +kernel)) rfl
theorem wg_541 : Cond.selects RX7 ⟨"MirroredTalks$TalkPairs", "reasonOf", "(I)I"⟩ yX2_reasonOf ∈ mgood := mgood_in (w := Cond.selects RX7 ⟨"MirroredTalks$TalkPairs", "reasonOf", "(I)I"⟩ yX2_reasonOf) (List.mem_of_getElem? (i := 541) (by decide +kernel)) rfl
theorem cu_X7_26_X7 : mcU RX7 26 RX7 "MirroredTalks$Pairs" ⟨"MirroredTalks$TalkPairs", "reasonOf", "(I)I"⟩ yX2_reasonOf 1 := ⟨List.forall_mem_cons.mpr ⟨wg_538, List.forall_mem_cons.mpr ⟨wg_539, List.forall_mem_cons.mpr ⟨wg_541, List.forall_mem_cons.mpr ⟨wg_453, List.forall_mem_cons.mpr ⟨wg_58, fun _ h => absurd h List.not_mem_nil⟩⟩⟩⟩⟩, Or.inl rfl, by decide +kernel⟩
theorem wg_546 : Cond.methodLink RX7 29 yX7_isEnd ∈ mgood := mgood_in (w := Cond.methodLink RX7 29 yX7_isEnd) (List.mem_of_getElem? (i := 546) (by decide +kernel)) rfl
theorem cv_X7_29 : mcV RX7 29 yX7_isEnd 1 := ⟨wg_546, wg_547, wg_548, wg_59, by decide +kernel⟩
theorem wg_606 : Cond.methodLink RX7 33 ⟨"MirroredTalks$TalkPairs", "lengthOf", "(I)I"⟩ ∈ mgood := mgood_in (w := Cond.methodLink RX7 33 ⟨"MirroredTalks$TalkPairs", "lengthOf", "(I)I"⟩) (List.mem_of_getElem? (i := 606) (by decide +kernel)) rfl
theorem cu_X7_33_X7 : mcU RX7 33 RX7 "MirroredTalks$Pairs" ⟨"MirroredTalks$TalkPairs", "lengthOf", "(I)I"⟩ yX2_lengthOf 1 := ⟨List.forall_mem_cons.mpr ⟨wg_606, List.forall_mem_cons.mpr ⟨wg_489, List.forall_mem_cons.mpr ⟨wg_491, List.forall_mem_cons.mpr ⟨wg_441, List.forall_mem_cons.mpr ⟨wg_58, fun _ h => absurd h List.not_mem_nil⟩⟩⟩⟩⟩, Or.inl rfl, by decide +kernel⟩
theorem wg_611 : Cond.methodLink RX7 36 ⟨"MirroredTalks$TalkPairs", "stateOfOne", "(I)I"⟩ ∈ mgood := mgood_in (w := Cond.methodLink RX7 36 ⟨"MirroredTalks$TalkPairs", "stateOfOne", "(I)I"⟩) (List.mem_of_getElem? (i := 611) (by decide +kernel)) rfl
theorem cu_X7_36_X7 : mcU RX7 36 RX7 "MirroredTalks$Pairs" ⟨"MirroredTalks$TalkPairs", "stateOfOne", "(I)I"⟩ yX2_stateOfOne 1 := ⟨List.forall_mem_cons.mpr ⟨wg_611, List.forall_mem_cons.mpr ⟨wg_481, List.forall_mem_cons.mpr ⟨wg_483, List.forall_mem_cons.mpr ⟨wg_415, List.forall_mem_cons.mpr ⟨wg_58, fun _ h => absurd h List.not_mem_nil⟩⟩⟩⟩⟩, Or.inl rfl, by decide +kernel⟩
theorem wg_616 : Cond.methodLink RX7 39 ⟨"MirroredTalks$TalkPairs", "stateOfOther", "(I)I"⟩ ∈ mgood := mgood_in (w := Cond.methodLink RX7 39 ⟨"MirroredTalks$TalkPairs", "stateOfOther", "(I)I"⟩) (List.mem_of_getElem? (i := 616) (by decide +kernel)) rfl
theorem cu_X7_39_X7 : mcU RX7 39 RX7 "MirroredTalks$Pairs" ⟨"MirroredTalks$TalkPairs", "stateOfOther", "(I)I"⟩ yX2_stateOfOther 1 := ⟨List.forall_mem_cons.mpr ⟨wg_616, List.forall_mem_cons.mpr ⟨wg_485, List.forall_mem_cons.mpr ⟨wg_487, List.forall_mem_cons.mpr ⟨wg_424, List.forall_mem_cons.mpr ⟨wg_58, fun _ h => absurd h List.not_mem_nil⟩⟩⟩⟩⟩, Or.inl rfl, by decide +kernel⟩
theorem wg_255 : Cond.methodLink RL 13 yX8_kind ∈ mgood := mgood_in (w := Cond.methodLink RL 13 yX8_kind) (List.mem_of_getElem? (i := 255) (by decide +kernel)) rfl
theorem wg_256 : Cond.instanceMethod yX8_kind ∈ mgood := mgood_in (w := Cond.instanceMethod yX8_kind) (List.mem_of_getElem? (i := 256) (by decide +kernel)) rfl
theorem wg_257 : Cond.selects RX8 yX8_kind yX8_kind ∈ mgood := mgood_in (w := Cond.selects RX8 yX8_kind yX8_kind) (List.mem_of_getElem? (i := 257) (by decide +kernel)) rfl
theorem cv_L_13 : mcV RL 13 yX8_kind 3 := ⟨wg_255, wg_256, wg_257, wg_53, by decide +kernel⟩
theorem wg_850 : Cond.methodLink RL 17 yX9_kind ∈ mgood := mgood_in (w := Cond.methodLink RL 17 yX9_kind) (List.mem_of_getElem? (i := 850) (by decide +kernel)) rfl
theorem wg_851 : Cond.instanceMethod yX9_kind ∈ mgood := mgood_in (w := Cond.instanceMethod yX9_kind) (List.mem_of_getElem? (i := 851) (by decide +kernel)) rfl
theorem wg_852 : Cond.selects RX9 yX9_kind yX9_kind ∈ mgood := mgood_in (w := Cond.selects RX9 yX9_kind yX9_kind) (List.mem_of_getElem? (i := 852) (by decide +kernel)) rfl
theorem cv_L_17 : mcV RL 17 yX9_kind 3 := ⟨wg_850, wg_851, wg_852, wg_62, by decide +kernel⟩
theorem wg_292 : Cond.methodLink RL 18 yX8_arrow ∈ mgood := mgood_in (w := Cond.methodLink RL 18 yX8_arrow) (List.mem_of_getElem? (i := 292) (by decide +kernel)) rfl
theorem wg_293 : Cond.instanceMethod yX8_arrow ∈ mgood := mgood_in (w := Cond.instanceMethod yX8_arrow) (List.mem_of_getElem? (i := 293) (by decide +kernel)) rfl
theorem wg_294 : Cond.selects RX8 yX8_arrow yX8_arrow ∈ mgood := mgood_in (w := Cond.selects RX8 yX8_arrow yX8_arrow) (List.mem_of_getElem? (i := 294) (by decide +kernel)) rfl
theorem cv_L_18 : mcV RL 18 yX8_arrow 4 := ⟨wg_292, wg_293, wg_294, wg_53, by decide +kernel⟩
theorem wg_872 : Cond.methodLink RL 22 yX9_arrow ∈ mgood := mgood_in (w := Cond.methodLink RL 22 yX9_arrow) (List.mem_of_getElem? (i := 872) (by decide +kernel)) rfl
theorem wg_873 : Cond.instanceMethod yX9_arrow ∈ mgood := mgood_in (w := Cond.instanceMethod yX9_arrow) (List.mem_of_getElem? (i := 873) (by decide +kernel)) rfl
theorem wg_874 : Cond.selects RX9 yX9_arrow yX9_arrow ∈ mgood := mgood_in (w := Cond.selects RX9 yX9_arrow yX9_arrow) (List.mem_of_getElem? (i := 874) (by decide +kernel)) rfl
theorem cv_L_22 : mcV RL 22 yX9_arrow 4 := ⟨wg_872, wg_873, wg_874, wg_62, by decide +kernel⟩
theorem wg_312 : Cond.methodLink RL 23 yX8_erase ∈ mgood := mgood_in (w := Cond.methodLink RL 23 yX8_erase) (List.mem_of_getElem? (i := 312) (by decide +kernel)) rfl
theorem wg_313 : Cond.instanceMethod yX8_erase ∈ mgood := mgood_in (w := Cond.instanceMethod yX8_erase) (List.mem_of_getElem? (i := 313) (by decide +kernel)) rfl
theorem wg_314 : Cond.selects RX8 yX8_erase yX8_erase ∈ mgood := mgood_in (w := Cond.selects RX8 yX8_erase yX8_erase) (List.mem_of_getElem? (i := 314) (by decide +kernel)) rfl
theorem cv_L_23 : mcV RL 23 yX8_erase 3 := ⟨wg_312, wg_313, wg_314, wg_53, by decide +kernel⟩
theorem wg_893 : Cond.methodLink RL 26 yX9_erase ∈ mgood := mgood_in (w := Cond.methodLink RL 26 yX9_erase) (List.mem_of_getElem? (i := 893) (by decide +kernel)) rfl
theorem wg_894 : Cond.instanceMethod yX9_erase ∈ mgood := mgood_in (w := Cond.instanceMethod yX9_erase) (List.mem_of_getElem? (i := 894) (by decide +kernel)) rfl
theorem wg_895 : Cond.selects RX9 yX9_erase yX9_erase ∈ mgood := mgood_in (w := Cond.selects RX9 yX9_erase yX9_erase) (List.mem_of_getElem? (i := 895) (by decide +kernel)) rfl
theorem cv_L_26 : mcV RL 26 yX9_erase 3 := ⟨wg_893, wg_894, wg_895, wg_62, by decide +kernel⟩
theorem wg_318 : Cond.methodLink RL 27 yX8_copy ∈ mgood := mgood_in (w := Cond.methodLink RL 27 yX8_copy) (List.mem_of_getElem? (i := 318) (by decide +kernel)) rfl
theorem wg_319 : Cond.instanceMethod yX8_copy ∈ mgood := mgood_in (w := Cond.instanceMethod yX8_copy) (List.mem_of_getElem? (i := 319) (by decide +kernel)) rfl
theorem wg_320 : Cond.selects RX8 yX8_copy yX8_copy ∈ mgood := mgood_in (w := Cond.selects RX8 yX8_copy yX8_copy) (List.mem_of_getElem? (i := 320) (by decide +kernel)) rfl
theorem cv_L_27 : mcV RL 27 yX8_copy 2 := ⟨wg_318, wg_319, wg_320, wg_53, by decide +kernel⟩
theorem wg_898 : Cond.methodLink RL 31 yX9_copy ∈ mgood := mgood_in (w := Cond.methodLink RL 31 yX9_copy) (List.mem_of_getElem? (i := 898) (by decide +kernel)) rfl
theorem wg_899 : Cond.instanceMethod yX9_copy ∈ mgood := mgood_in (w := Cond.instanceMethod yX9_copy) (List.mem_of_getElem? (i := 899) (by decide +kernel)) rfl
theorem wg_900 : Cond.selects RX9 yX9_copy yX9_copy ∈ mgood := mgood_in (w := Cond.selects RX9 yX9_copy yX9_copy) (List.mem_of_getElem? (i := 900) (by decide +kernel)) rfl
theorem cv_L_31 : mcV RL 31 yX9_copy 2 := ⟨wg_898, wg_899, wg_900, wg_62, by decide +kernel⟩
theorem wg_331 : Cond.methodLink RL 32 yX8_mirror ∈ mgood := mgood_in (w := Cond.methodLink RL 32 yX8_mirror) (List.mem_of_getElem? (i := 331) (by decide +kernel)) rfl
theorem wg_332 : Cond.instanceMethod yX8_mirror ∈ mgood := mgood_in (w := Cond.instanceMethod yX8_mirror) (List.mem_of_getElem? (i := 332) (by decide +kernel)) rfl
theorem wg_333 : Cond.selects RX8 yX8_mirror yX8_mirror ∈ mgood := mgood_in (w := Cond.selects RX8 yX8_mirror yX8_mirror) (List.mem_of_getElem? (i := 333) (by decide +kernel)) rfl
theorem cv_L_32 : mcV RL 32 yX8_mirror 1 := ⟨wg_331, wg_332, wg_333, wg_53, by decide +kernel⟩
theorem wg_906 : Cond.methodLink RL 36 yX9_mirror ∈ mgood := mgood_in (w := Cond.methodLink RL 36 yX9_mirror) (List.mem_of_getElem? (i := 906) (by decide +kernel)) rfl
theorem wg_907 : Cond.instanceMethod yX9_mirror ∈ mgood := mgood_in (w := Cond.instanceMethod yX9_mirror) (List.mem_of_getElem? (i := 907) (by decide +kernel)) rfl
theorem wg_908 : Cond.selects RX9 yX9_mirror yX9_mirror ∈ mgood := mgood_in (w := Cond.selects RX9 yX9_mirror yX9_mirror) (List.mem_of_getElem? (i := 908) (by decide +kernel)) rfl
theorem cv_L_36 : mcV RL 36 yX9_mirror 1 := ⟨wg_906, wg_907, wg_908, wg_62, by decide +kernel⟩
theorem wg_339 : Cond.methodLink RL 37 yX8_stateOf ∈ mgood := mgood_in (w := Cond.methodLink RL 37 yX8_stateOf) (List.mem_of_getElem? (i := 339) (by decide +kernel)) rfl
theorem wg_340 : Cond.instanceMethod yX8_stateOf ∈ mgood := mgood_in (w := Cond.instanceMethod yX8_stateOf) (List.mem_of_getElem? (i := 340) (by decide +kernel)) rfl
theorem wg_341 : Cond.selects RX8 yX8_stateOf yX8_stateOf ∈ mgood := mgood_in (w := Cond.selects RX8 yX8_stateOf yX8_stateOf) (List.mem_of_getElem? (i := 341) (by decide +kernel)) rfl
theorem cv_L_37 : mcV RL 37 yX8_stateOf 3 := ⟨wg_339, wg_340, wg_341, wg_53, by decide +kernel⟩
theorem wg_910 : Cond.methodLink RL 40 yX9_stateOf ∈ mgood := mgood_in (w := Cond.methodLink RL 40 yX9_stateOf) (List.mem_of_getElem? (i := 910) (by decide +kernel)) rfl
theorem wg_911 : Cond.instanceMethod yX9_stateOf ∈ mgood := mgood_in (w := Cond.instanceMethod yX9_stateOf) (List.mem_of_getElem? (i := 911) (by decide +kernel)) rfl
theorem wg_912 : Cond.selects RX9 yX9_stateOf yX9_stateOf ∈ mgood := mgood_in (w := Cond.selects RX9 yX9_stateOf yX9_stateOf) (List.mem_of_getElem? (i := 912) (by decide +kernel)) rfl
theorem cv_L_40 : mcV RL 40 yX9_stateOf 3 := ⟨wg_910, wg_911, wg_912, wg_62, by decide +kernel⟩
theorem wg_385 : Cond.methodLink RL 41 yX8_unlike ∈ mgood := mgood_in (w := Cond.methodLink RL 41 yX8_unlike) (List.mem_of_getElem? (i := 385) (by decide +kernel)) rfl
theorem wg_386 : Cond.instanceMethod yX8_unlike ∈ mgood := mgood_in (w := Cond.instanceMethod yX8_unlike) (List.mem_of_getElem? (i := 386) (by decide +kernel)) rfl
theorem wg_387 : Cond.selects RX8 yX8_unlike yX8_unlike ∈ mgood := mgood_in (w := Cond.selects RX8 yX8_unlike yX8_unlike) (List.mem_of_getElem? (i := 387) (by decide +kernel)) rfl
theorem cv_L_41 : mcV RL 41 yX8_unlike 1 := ⟨wg_385, wg_386, wg_387, wg_53, by decide +kernel⟩
theorem wg_942 : Cond.methodLink RL 44 yX9_unlike ∈ mgood := mgood_in (w := Cond.methodLink RL 44 yX9_unlike) (List.mem_of_getElem? (i := 942) (by decide +kernel)) rfl
theorem wg_943 : Cond.instanceMethod yX9_unlike ∈ mgood := mgood_in (w := Cond.instanceMethod yX9_unlike) (List.mem_of_getElem? (i := 943) (by decide +kernel)) rfl
theorem wg_944 : Cond.selects RX9 yX9_unlike yX9_unlike ∈ mgood := mgood_in (w := Cond.selects RX9 yX9_unlike yX9_unlike) (List.mem_of_getElem? (i := 944) (by decide +kernel)) rfl
theorem cv_L_44 : mcV RL 44 yX9_unlike 1 := ⟨wg_942, wg_943, wg_944, wg_62, by decide +kernel⟩
theorem wg_390 : Cond.methodLink RL 45 yX8_pairOf ∈ mgood := mgood_in (w := Cond.methodLink RL 45 yX8_pairOf) (List.mem_of_getElem? (i := 390) (by decide +kernel)) rfl
theorem wg_391 : Cond.instanceMethod yX8_pairOf ∈ mgood := mgood_in (w := Cond.instanceMethod yX8_pairOf) (List.mem_of_getElem? (i := 391) (by decide +kernel)) rfl
theorem wg_392 : Cond.selects RX8 yX8_pairOf yX8_pairOf ∈ mgood := mgood_in (w := Cond.selects RX8 yX8_pairOf yX8_pairOf) (List.mem_of_getElem? (i := 392) (by decide +kernel)) rfl
theorem cv_L_45 : mcV RL 45 yX8_pairOf 4 := ⟨wg_390, wg_391, wg_392, wg_53, by decide +kernel⟩
theorem wg_946 : Cond.methodLink RL 48 yX9_pairOf ∈ mgood := mgood_in (w := Cond.methodLink RL 48 yX9_pairOf) (List.mem_of_getElem? (i := 946) (by decide +kernel)) rfl
theorem wg_947 : Cond.instanceMethod yX9_pairOf ∈ mgood := mgood_in (w := Cond.instanceMethod yX9_pairOf) (List.mem_of_getElem? (i := 947) (by decide +kernel)) rfl
theorem wg_948 : Cond.selects RX9 yX9_pairOf yX9_pairOf ∈ mgood := mgood_in (w := Cond.selects RX9 yX9_pairOf yX9_pairOf) (List.mem_of_getElem? (i := 948) (by decide +kernel)) rfl
theorem cv_L_48 : mcV RL 48 yX9_pairOf 4 := ⟨wg_946, wg_947, wg_948, wg_62, by decide +kernel⟩
theorem wg_523 : Cond.methodLink RL 49 yX8_talk ∈ mgood := mgood_in (w := Cond.methodLink RL 49 yX8_talk) (List.mem_of_getElem? (i := 523) (by decide +kernel)) rfl
theorem wg_524 : Cond.instanceMethod yX8_talk ∈ mgood := mgood_in (w := Cond.instanceMethod yX8_talk) (List.mem_of_getElem? (i := 524) (by decide +kernel)) rfl
theorem wg_525 : Cond.selects RX8 yX8_talk yX8_talk ∈ mgood := mgood_in (w := Cond.selects RX8 yX8_talk yX8_talk) (List.mem_of_getElem? (i := 525) (by decide +kernel)) rfl
theorem cv_L_49 : mcV RL 49 yX8_talk 3 := ⟨wg_523, wg_524, wg_525, wg_53, by decide +kernel⟩
theorem wg_991 : Cond.methodLink RL 52 yX9_talk ∈ mgood := mgood_in (w := Cond.methodLink RL 52 yX9_talk) (List.mem_of_getElem? (i := 991) (by decide +kernel)) rfl
theorem wg_992 : Cond.instanceMethod yX9_talk ∈ mgood := mgood_in (w := Cond.instanceMethod yX9_talk) (List.mem_of_getElem? (i := 992) (by decide +kernel)) rfl
theorem wg_993 : Cond.selects RX9 yX9_talk yX9_talk ∈ mgood := mgood_in (w := Cond.selects RX9 yX9_talk yX9_talk) (List.mem_of_getElem? (i := 993) (by decide +kernel)) rfl
theorem cv_L_52 : mcV RL 52 yX9_talk 3 := ⟨wg_991, wg_992, wg_993, wg_62, by decide +kernel⟩
theorem wg_617 : Cond.methodLink RL 53 yX8_talks ∈ mgood := mgood_in (w := Cond.methodLink RL 53 yX8_talks) (List.mem_of_getElem? (i := 617) (by decide +kernel)) rfl
theorem wg_618 : Cond.instanceMethod yX8_talks ∈ mgood := mgood_in (w := Cond.instanceMethod yX8_talks) (List.mem_of_getElem? (i := 618) (by decide +kernel)) rfl
theorem wg_619 : Cond.selects RX8 yX8_talks yX8_talks ∈ mgood := mgood_in (w := Cond.selects RX8 yX8_talks yX8_talks) (List.mem_of_getElem? (i := 619) (by decide +kernel)) rfl
theorem cv_L_53 : mcV RL 53 yX8_talks 2 := ⟨wg_617, wg_618, wg_619, wg_53, by decide +kernel⟩
theorem wg_1025 : Cond.methodLink RL 57 yX9_talks ∈ mgood := mgood_in (w := Cond.methodLink RL 57 yX9_talks) (List.mem_of_getElem? (i := 1025) (by decide +kernel)) rfl
theorem wg_1026 : Cond.instanceMethod yX9_talks ∈ mgood := mgood_in (w := Cond.instanceMethod yX9_talks) (List.mem_of_getElem? (i := 1026) (by decide +kernel)) rfl
theorem wg_1027 : Cond.selects RX9 yX9_talks yX9_talks ∈ mgood := mgood_in (w := Cond.selects RX9 yX9_talks yX9_talks) (List.mem_of_getElem? (i := 1027) (by decide +kernel)) rfl
theorem cv_L_57 : mcV RL 57 yX9_talks 2 := ⟨wg_1025, wg_1026, wg_1027, wg_62, by decide +kernel⟩
theorem wg_625 : Cond.methodLink RL 58 yX8_standsIn ∈ mgood := mgood_in (w := Cond.methodLink RL 58 yX8_standsIn) (List.mem_of_getElem? (i := 625) (by decide +kernel)) rfl
theorem cv_L_58 : mcV RL 58 yX8_standsIn 2 := ⟨wg_625, wg_626, wg_627, wg_53, by decide +kernel⟩
theorem wg_1032 : Cond.methodLink RL 61 yX9_standsIn ∈ mgood := mgood_in (w := Cond.methodLink RL 61 yX9_standsIn) (List.mem_of_getElem? (i := 1032) (by decide +kernel)) rfl
theorem wg_1033 : Cond.instanceMethod yX9_standsIn ∈ mgood := mgood_in (w := Cond.instanceMethod yX9_standsIn) (List.mem_of_getElem? (i := 1033) (by decide +kernel)) rfl
theorem wg_1034 : Cond.selects RX9 yX9_standsIn yX9_standsIn ∈ mgood := mgood_in (w := Cond.selects RX9 yX9_standsIn yX9_standsIn) (List.mem_of_getElem? (i := 1034) (by decide +kernel)) rfl
theorem cv_L_61 : mcV RL 61 yX9_standsIn 2 := ⟨wg_1032, wg_1033, wg_1034, wg_62, by decide +kernel⟩
theorem wg_635 : Cond.methodLink RL 62 yX8_against ∈ mgood := mgood_in (w := Cond.methodLink RL 62 yX8_against) (List.mem_of_getElem? (i := 635) (by decide +kernel)) rfl
theorem wg_636 : Cond.instanceMethod yX8_against ∈ mgood := mgood_in (w := Cond.instanceMethod yX8_against) (List.mem_of_getElem? (i := 636) (by decide +kernel)) rfl
theorem wg_637 : Cond.selects RX8 yX8_against yX8_against ∈ mgood := mgood_in (w := Cond.selects RX8 yX8_against yX8_against) (List.mem_of_getElem? (i := 637) (by decide +kernel)) rfl
theorem cv_L_62 : mcV RL 62 yX8_against 3 := ⟨wg_635, wg_636, wg_637, wg_53, by decide +kernel⟩
theorem wg_1052 : Cond.methodLink RL 65 yX9_against ∈ mgood := mgood_in (w := Cond.methodLink RL 65 yX9_against) (List.mem_of_getElem? (i := 1052) (by decide +kernel)) rfl
theorem wg_1053 : Cond.instanceMethod yX9_against ∈ mgood := mgood_in (w := Cond.instanceMethod yX9_against) (List.mem_of_getElem? (i := 1053) (by decide +kernel)) rfl
theorem wg_1054 : Cond.selects RX9 yX9_against yX9_against ∈ mgood := mgood_in (w := Cond.selects RX9 yX9_against yX9_against) (List.mem_of_getElem? (i := 1054) (by decide +kernel)) rfl
theorem cv_L_65 : mcV RL 65 yX9_against 3 := ⟨wg_1052, wg_1053, wg_1054, wg_62, by decide +kernel⟩
theorem wg_654 : Cond.methodLink RL 66 yX8_count ∈ mgood := mgood_in (w := Cond.methodLink RL 66 yX8_count) (List.mem_of_getElem? (i := 654) (by decide +kernel)) rfl
theorem wg_655 : Cond.instanceMethod yX8_count ∈ mgood := mgood_in (w := Cond.instanceMethod yX8_count) (List.mem_of_getElem? (i := 655) (by decide +kernel)) rfl
theorem wg_656 : Cond.selects RX8 yX8_count yX8_count ∈ mgood := mgood_in (w := Cond.selects RX8 yX8_count yX8_count) (List.mem_of_getElem? (i := 656) (by decide +kernel)) rfl
theorem cv_L_66 : mcV RL 66 yX8_count 1 := ⟨wg_654, wg_655, wg_656, wg_53, by decide +kernel⟩
theorem wg_1060 : Cond.methodLink RL 69 yX9_count ∈ mgood := mgood_in (w := Cond.methodLink RL 69 yX9_count) (List.mem_of_getElem? (i := 1060) (by decide +kernel)) rfl
theorem wg_1061 : Cond.instanceMethod yX9_count ∈ mgood := mgood_in (w := Cond.instanceMethod yX9_count) (List.mem_of_getElem? (i := 1061) (by decide +kernel)) rfl
theorem wg_1062 : Cond.selects RX9 yX9_count yX9_count ∈ mgood := mgood_in (w := Cond.selects RX9 yX9_count yX9_count) (List.mem_of_getElem? (i := 1062) (by decide +kernel)) rfl
theorem cv_L_69 : mcV RL 69 yX9_count 1 := ⟨wg_1060, wg_1061, wg_1062, wg_62, by decide +kernel⟩
theorem wg_673 : Cond.methodLink RL 70 yX8_undo ∈ mgood := mgood_in (w := Cond.methodLink RL 70 yX8_undo) (List.mem_of_getElem? (i := 673) (by decide +kernel)) rfl
theorem wg_674 : Cond.instanceMethod yX8_undo ∈ mgood := mgood_in (w := Cond.instanceMethod yX8_undo) (List.mem_of_getElem? (i := 674) (by decide +kernel)) rfl
theorem wg_675 : Cond.selects RX8 yX8_undo yX8_undo ∈ mgood := mgood_in (w := Cond.selects RX8 yX8_undo yX8_undo) (List.mem_of_getElem? (i := 675) (by decide +kernel)) rfl
theorem cv_L_70 : mcV RL 70 yX8_undo 0 := ⟨wg_673, wg_674, wg_675, wg_53, by decide +kernel⟩
theorem wg_1068 : Cond.methodLink RL 74 yX9_undo ∈ mgood := mgood_in (w := Cond.methodLink RL 74 yX9_undo) (List.mem_of_getElem? (i := 1068) (by decide +kernel)) rfl
theorem wg_1069 : Cond.instanceMethod yX9_undo ∈ mgood := mgood_in (w := Cond.instanceMethod yX9_undo) (List.mem_of_getElem? (i := 1069) (by decide +kernel)) rfl
theorem wg_1070 : Cond.selects RX9 yX9_undo yX9_undo ∈ mgood := mgood_in (w := Cond.selects RX9 yX9_undo yX9_undo) (List.mem_of_getElem? (i := 1070) (by decide +kernel)) rfl
theorem cv_L_74 : mcV RL 74 yX9_undo 0 := ⟨wg_1068, wg_1069, wg_1070, wg_62, by decide +kernel⟩
theorem wg_685 : Cond.methodLink RL 75 yX8_type ∈ mgood := mgood_in (w := Cond.methodLink RL 75 yX8_type) (List.mem_of_getElem? (i := 685) (by decide +kernel)) rfl
theorem wg_686 : Cond.instanceMethod yX8_type ∈ mgood := mgood_in (w := Cond.instanceMethod yX8_type) (List.mem_of_getElem? (i := 686) (by decide +kernel)) rfl
theorem wg_687 : Cond.selects RX8 yX8_type yX8_type ∈ mgood := mgood_in (w := Cond.selects RX8 yX8_type yX8_type) (List.mem_of_getElem? (i := 687) (by decide +kernel)) rfl
theorem cv_L_75 : mcV RL 75 yX8_type 1 := ⟨wg_685, wg_686, wg_687, wg_53, by decide +kernel⟩
theorem wg_1072 : Cond.methodLink RL 78 yX9_type ∈ mgood := mgood_in (w := Cond.methodLink RL 78 yX9_type) (List.mem_of_getElem? (i := 1072) (by decide +kernel)) rfl
theorem wg_1073 : Cond.instanceMethod yX9_type ∈ mgood := mgood_in (w := Cond.instanceMethod yX9_type) (List.mem_of_getElem? (i := 1073) (by decide +kernel)) rfl
theorem wg_1074 : Cond.selects RX9 yX9_type yX9_type ∈ mgood := mgood_in (w := Cond.selects RX9 yX9_type yX9_type) (List.mem_of_getElem? (i := 1074) (by decide +kernel)) rfl
theorem cv_L_78 : mcV RL 78 yX9_type 1 := ⟨wg_1072, wg_1073, wg_1074, wg_62, by decide +kernel⟩
theorem wg_698 : Cond.methodLink RL 79 yX8_clearText ∈ mgood := mgood_in (w := Cond.methodLink RL 79 yX8_clearText) (List.mem_of_getElem? (i := 698) (by decide +kernel)) rfl
theorem wg_699 : Cond.instanceMethod yX8_clearText ∈ mgood := mgood_in (w := Cond.instanceMethod yX8_clearText) (List.mem_of_getElem? (i := 699) (by decide +kernel)) rfl
theorem wg_700 : Cond.selects RX8 yX8_clearText yX8_clearText ∈ mgood := mgood_in (w := Cond.selects RX8 yX8_clearText yX8_clearText) (List.mem_of_getElem? (i := 700) (by decide +kernel)) rfl
theorem cv_L_79 : mcV RL 79 yX8_clearText 0 := ⟨wg_698, wg_699, wg_700, wg_53, by decide +kernel⟩
theorem wg_1077 : Cond.methodLink RL 82 yX9_clearText ∈ mgood := mgood_in (w := Cond.methodLink RL 82 yX9_clearText) (List.mem_of_getElem? (i := 1077) (by decide +kernel)) rfl
theorem wg_1078 : Cond.instanceMethod yX9_clearText ∈ mgood := mgood_in (w := Cond.instanceMethod yX9_clearText) (List.mem_of_getElem? (i := 1078) (by decide +kernel)) rfl
theorem wg_1079 : Cond.selects RX9 yX9_clearText yX9_clearText ∈ mgood := mgood_in (w := Cond.selects RX9 yX9_clearText yX9_clearText) (List.mem_of_getElem? (i := 1079) (by decide +kernel)) rfl
theorem cv_L_82 : mcV RL 82 yX9_clearText 0 := ⟨wg_1077, wg_1078, wg_1079, wg_62, by decide +kernel⟩
theorem wg_706 : Cond.methodLink RL 83 yX8_fault ∈ mgood := mgood_in (w := Cond.methodLink RL 83 yX8_fault) (List.mem_of_getElem? (i := 706) (by decide +kernel)) rfl
theorem wg_707 : Cond.instanceMethod yX8_fault ∈ mgood := mgood_in (w := Cond.instanceMethod yX8_fault) (List.mem_of_getElem? (i := 707) (by decide +kernel)) rfl
theorem wg_708 : Cond.selects RX8 yX8_fault yX8_fault ∈ mgood := mgood_in (w := Cond.selects RX8 yX8_fault yX8_fault) (List.mem_of_getElem? (i := 708) (by decide +kernel)) rfl
theorem cv_L_83 : mcV RL 83 yX8_fault 1 := ⟨wg_706, wg_707, wg_708, wg_53, by decide +kernel⟩
theorem wg_1081 : Cond.methodLink RL 86 yX9_fault ∈ mgood := mgood_in (w := Cond.methodLink RL 86 yX9_fault) (List.mem_of_getElem? (i := 1081) (by decide +kernel)) rfl
theorem wg_1082 : Cond.instanceMethod yX9_fault ∈ mgood := mgood_in (w := Cond.instanceMethod yX9_fault) (List.mem_of_getElem? (i := 1082) (by decide +kernel)) rfl
theorem wg_1083 : Cond.selects RX9 yX9_fault yX9_fault ∈ mgood := mgood_in (w := Cond.selects RX9 yX9_fault yX9_fault) (List.mem_of_getElem? (i := 1083) (by decide +kernel)) rfl
theorem cv_L_86 : mcV RL 86 yX9_fault 1 := ⟨wg_1081, wg_1082, wg_1083, wg_62, by decide +kernel⟩
theorem wg_754 : Cond.methodLink RL 87 yX8_read ∈ mgood := mgood_in (w := Cond.methodLink RL 87 yX8_read) (List.mem_of_getElem? (i := 754) (by decide +kernel)) rfl
theorem wg_755 : Cond.instanceMethod yX8_read ∈ mgood := mgood_in (w := Cond.instanceMethod yX8_read) (List.mem_of_getElem? (i := 755) (by decide +kernel)) rfl
theorem wg_756 : Cond.selects RX8 yX8_read yX8_read ∈ mgood := mgood_in (w := Cond.selects RX8 yX8_read yX8_read) (List.mem_of_getElem? (i := 756) (by decide +kernel)) rfl
theorem cv_L_87 : mcV RL 87 yX8_read 1 := ⟨wg_754, wg_755, wg_756, wg_53, by decide +kernel⟩
theorem wg_1113 : Cond.methodLink RL 90 yX9_read ∈ mgood := mgood_in (w := Cond.methodLink RL 90 yX9_read) (List.mem_of_getElem? (i := 1113) (by decide +kernel)) rfl
theorem wg_1114 : Cond.instanceMethod yX9_read ∈ mgood := mgood_in (w := Cond.instanceMethod yX9_read) (List.mem_of_getElem? (i := 1114) (by decide +kernel)) rfl
theorem wg_1115 : Cond.selects RX9 yX9_read yX9_read ∈ mgood := mgood_in (w := Cond.selects RX9 yX9_read yX9_read) (List.mem_of_getElem? (i := 1115) (by decide +kernel)) rfl
theorem cv_L_90 : mcV RL 90 yX9_read 1 := ⟨wg_1113, wg_1114, wg_1115, wg_62, by decide +kernel⟩
theorem wg_227 : Cond.fieldLink RX8 10 "MirroredTalks" "first" "LMirroredTalks$Plan;" ∈ mgood := mgood_in (w := Cond.fieldLink RX8 10 "MirroredTalks" "first" "LMirroredTalks$Plan;") (List.mem_of_getElem? (i := 227) (by decide +kernel)) rfl
theorem fl_X8_10_7 : mFl RX8 10 7 0 := ⟨RX8, TX8, 9, rfl, by decide, wg_227, fun w h => mgood_in (inX8 w h) (List.all_eq_true.mp (show (u_ws RX8 TX8 9).all goodWord = true by decide +kernel) w h)⟩
theorem wg_228 : Cond.fieldLink RX8 16 "MirroredTalks" "second" "LMirroredTalks$Plan;" ∈ mgood := mgood_in (w := Cond.fieldLink RX8 16 "MirroredTalks" "second" "LMirroredTalks$Plan;") (List.mem_of_getElem? (i := 228) (by decide +kernel)) rfl
theorem fl_X8_16_7 : mFl RX8 16 7 1 := ⟨RX8, TX8, 9, rfl, by decide, wg_228, fun w h => mgood_in (inX8 w h) (List.all_eq_true.mp (show (u_ws RX8 TX8 9).all goodWord = true by decide +kernel) w h)⟩
theorem wg_229 : Cond.fieldLink RX8 19 "MirroredTalks" "third" "LMirroredTalks$Plan;" ∈ mgood := mgood_in (w := Cond.fieldLink RX8 19 "MirroredTalks" "third" "LMirroredTalks$Plan;") (List.mem_of_getElem? (i := 229) (by decide +kernel)) rfl
theorem fl_X8_19_7 : mFl RX8 19 7 2 := ⟨RX8, TX8, 9, rfl, by decide, wg_229, fun w h => mgood_in (inX8 w h) (List.all_eq_true.mp (show (u_ws RX8 TX8 9).all goodWord = true by decide +kernel) w h)⟩
theorem wg_230 : Cond.fieldLink RX8 25 "MirroredTalks" "history" "LMirroredTalks$History;" ∈ mgood := mgood_in (w := Cond.fieldLink RX8 25 "MirroredTalks" "history" "LMirroredTalks$History;") (List.mem_of_getElem? (i := 230) (by decide +kernel)) rfl
theorem fl_X8_25_7 : mFl RX8 25 7 3 := ⟨RX8, TX8, 9, rfl, by decide, wg_230, fun w h => mgood_in (inX8 w h) (List.all_eq_true.mp (show (u_ws RX8 TX8 9).all goodWord = true by decide +kernel) w h)⟩
theorem wg_231 : Cond.fieldLink RX8 32 "MirroredTalks" "text" "LMirroredTalks$PlanText;" ∈ mgood := mgood_in (w := Cond.fieldLink RX8 32 "MirroredTalks" "text" "LMirroredTalks$PlanText;") (List.mem_of_getElem? (i := 231) (by decide +kernel)) rfl
theorem fl_X8_32_7 : mFl RX8 32 7 4 := ⟨RX8, TX8, 9, rfl, by decide, wg_231, fun w h => mgood_in (inX8 w h) (List.all_eq_true.mp (show (u_ws RX8 TX8 9).all goodWord = true by decide +kernel) w h)⟩
theorem wg_232 : Cond.fieldLink RX8 39 "MirroredTalks" "likeness" "LMirroredTalks$Likeness;" ∈ mgood := mgood_in (w := Cond.fieldLink RX8 39 "MirroredTalks" "likeness" "LMirroredTalks$Likeness;") (List.mem_of_getElem? (i := 232) (by decide +kernel)) rfl
theorem fl_X8_39_7 : mFl RX8 39 7 5 := ⟨RX8, TX8, 9, rfl, by decide, wg_232, fun w h => mgood_in (inX8 w h) (List.all_eq_true.mp (show (u_ws RX8 TX8 9).all goodWord = true by decide +kernel) w h)⟩
theorem wg_233 : Cond.fieldLink RX8 48 "MirroredTalks" "talkPairs" "LMirroredTalks$TalkPairs;" ∈ mgood := mgood_in (w := Cond.fieldLink RX8 48 "MirroredTalks" "talkPairs" "LMirroredTalks$TalkPairs;") (List.mem_of_getElem? (i := 233) (by decide +kernel)) rfl
theorem fl_X8_48_7 : mFl RX8 48 7 6 := ⟨RX8, TX8, 9, rfl, by decide, wg_233, fun w h => mgood_in (inX8 w h) (List.all_eq_true.mp (show (u_ws RX8 TX8 9).all goodWord = true by decide +kernel) w h)⟩
theorem wg_234 : Cond.fieldLink RX8 55 "MirroredTalks" "rowCount" "LMirroredTalks$RowCount;" ∈ mgood := mgood_in (w := Cond.fieldLink RX8 55 "MirroredTalks" "rowCount" "LMirroredTalks$RowCount;") (List.mem_of_getElem? (i := 234) (by decide +kernel)) rfl
theorem fl_X8_55_7 : mFl RX8 55 7 7 := ⟨RX8, TX8, 9, rfl, by decide, wg_234, fun w h => mgood_in (inX8 w h) (List.all_eq_true.mp (show (u_ws RX8 TX8 9).all goodWord = true by decide +kernel) w h)⟩
theorem wg_235 : Cond.fieldLink RX8 62 "MirroredTalks" "standInPairs" "LMirroredTalks$StandInPairs;" ∈ mgood := mgood_in (w := Cond.fieldLink RX8 62 "MirroredTalks" "standInPairs" "LMirroredTalks$StandInPairs;") (List.mem_of_getElem? (i := 235) (by decide +kernel)) rfl
theorem fl_X8_62_7 : mFl RX8 62 7 8 := ⟨RX8, TX8, 9, rfl, by decide, wg_235, fun w h => mgood_in (inX8 w h) (List.all_eq_true.mp (show (u_ws RX8 TX8 9).all goodWord = true by decide +kernel) w h)⟩
theorem kI_X8_76 : Cond.constant RX8 76 (mI (-1000001)) ∈ mgood := mgood_in (List.mem_of_getElem? (i := 266) (by decide +kernel)) rfl
theorem kI_X8_111 : Cond.constant RX8 111 (mI (-1000002)) ∈ mgood := mgood_in (List.mem_of_getElem? (i := 317) (by decide +kernel)) rfl
theorem kI_X8_151 : Cond.constant RX8 151 (mI (-1000004)) ∈ mgood := mgood_in (List.mem_of_getElem? (i := 384) (by decide +kernel)) rfl
theorem kJ_X8_177 : Cond.constantLong RX8 177 (mJ (-1)) ∈ mgood := mgood_in (List.mem_of_getElem? (i := 601) (by decide +kernel)) rfl
theorem kJ_X8_188 : Cond.constantLong RX8 188 (mJ (-1000001)) ∈ mgood := mgood_in (List.mem_of_getElem? (i := 621) (by decide +kernel)) rfl
theorem kJ_X8_190 : Cond.constantLong RX8 190 (mJ (-1000002)) ∈ mgood := mgood_in (List.mem_of_getElem? (i := 622) (by decide +kernel)) rfl
theorem kJ_X8_192 : Cond.constantLong RX8 192 (mJ (1000000000000000)) ∈ mgood := mgood_in (List.mem_of_getElem? (i := 623) (by decide +kernel)) rfl
theorem kJ_X8_194 : Cond.constantLong RX8 194 (mJ (-1000003)) ∈ mgood := mgood_in (List.mem_of_getElem? (i := 624) (by decide +kernel)) rfl
theorem kI_X8_221 : Cond.constant RX8 221 (mI (-1000003)) ∈ mgood := mgood_in (List.mem_of_getElem? (i := 693) (by decide +kernel)) rfl
theorem wg_773 : Cond.fieldLink RX9 7 "MirroredTalksModel" "s" "[I" ∈ mgood := mgood_in (w := Cond.fieldLink RX9 7 "MirroredTalksModel" "s" "[I") (List.mem_of_getElem? (i := 773) (by decide +kernel)) rfl
theorem fl_X9_7_8 : mFl RX9 7 8 0 := ⟨RX9, TX9, 25, rfl, by decide, wg_773, fun w h => mgood_in (inX9 w h) (List.all_eq_true.mp (show (u_ws RX9 TX9 25).all goodWord = true by decide +kernel) w h)⟩
theorem wg_774 : Cond.fieldLink RX9 13 "MirroredTalksModel" "was" "[I" ∈ mgood := mgood_in (w := Cond.fieldLink RX9 13 "MirroredTalksModel" "was" "[I") (List.mem_of_getElem? (i := 774) (by decide +kernel)) rfl
theorem fl_X9_13_8 : mFl RX9 13 8 1 := ⟨RX9, TX9, 25, rfl, by decide, wg_774, fun w h => mgood_in (inX9 w h) (List.all_eq_true.mp (show (u_ws RX9 TX9 25).all goodWord = true by decide +kernel) w h)⟩
theorem wg_776 : Cond.fieldLink RX9 16 "MirroredTalksModel" "text" "[C" ∈ mgood := mgood_in (w := Cond.fieldLink RX9 16 "MirroredTalksModel" "text" "[C") (List.mem_of_getElem? (i := 776) (by decide +kernel)) rfl
theorem fl_X9_16_8 : mFl RX9 16 8 3 := ⟨RX9, TX9, 25, rfl, by decide, wg_776, fun w h => mgood_in (inX9 w h) (List.all_eq_true.mp (show (u_ws RX9 TX9 25).all goodWord = true by decide +kernel) w h)⟩
theorem wg_778 : Cond.fieldLink RX9 20 "MirroredTalksModel" "like" "[I" ∈ mgood := mgood_in (w := Cond.fieldLink RX9 20 "MirroredTalksModel" "like" "[I") (List.mem_of_getElem? (i := 778) (by decide +kernel)) rfl
theorem fl_X9_20_8 : mFl RX9 20 8 5 := ⟨RX9, TX9, 25, rfl, by decide, wg_778, fun w h => mgood_in (inX9 w h) (List.all_eq_true.mp (show (u_ws RX9 TX9 25).all goodWord = true by decide +kernel) w h)⟩
theorem wg_779 : Cond.fieldLink RX9 23 "MirroredTalksModel" "pairs" "[I" ∈ mgood := mgood_in (w := Cond.fieldLink RX9 23 "MirroredTalksModel" "pairs" "[I") (List.mem_of_getElem? (i := 779) (by decide +kernel)) rfl
theorem fl_X9_23_8 : mFl RX9 23 8 6 := ⟨RX9, TX9, 25, rfl, by decide, wg_779, fun w h => mgood_in (inX9 w h) (List.all_eq_true.mp (show (u_ws RX9 TX9 25).all goodWord = true by decide +kernel) w h)⟩
theorem wg_780 : Cond.fieldLink RX9 26 "MirroredTalksModel" "from" "[I" ∈ mgood := mgood_in (w := Cond.fieldLink RX9 26 "MirroredTalksModel" "from" "[I") (List.mem_of_getElem? (i := 780) (by decide +kernel)) rfl
theorem fl_X9_26_8 : mFl RX9 26 8 7 := ⟨RX9, TX9, 25, rfl, by decide, wg_780, fun w h => mgood_in (inX9 w h) (List.all_eq_true.mp (show (u_ws RX9 TX9 25).all goodWord = true by decide +kernel) w h)⟩
theorem wg_781 : Cond.fieldLink RX9 29 "MirroredTalksModel" "by" "[I" ∈ mgood := mgood_in (w := Cond.fieldLink RX9 29 "MirroredTalksModel" "by" "[I") (List.mem_of_getElem? (i := 781) (by decide +kernel)) rfl
theorem fl_X9_29_8 : mFl RX9 29 8 8 := ⟨RX9, TX9, 25, rfl, by decide, wg_781, fun w h => mgood_in (inX9 w h) (List.all_eq_true.mp (show (u_ws RX9 TX9 25).all goodWord = true by decide +kernel) w h)⟩
theorem wg_782 : Cond.fieldLink RX9 32 "MirroredTalksModel" "far" "[I" ∈ mgood := mgood_in (w := Cond.fieldLink RX9 32 "MirroredTalksModel" "far" "[I") (List.mem_of_getElem? (i := 782) (by decide +kernel)) rfl
theorem fl_X9_32_8 : mFl RX9 32 8 9 := ⟨RX9, TX9, 25, rfl, by decide, wg_782, fun w h => mgood_in (inX9 w h) (List.all_eq_true.mp (show (u_ws RX9 TX9 25).all goodWord = true by decide +kernel) w h)⟩
theorem wg_783 : Cond.fieldLink RX9 35 "MirroredTalksModel" "place" "[I" ∈ mgood := mgood_in (w := Cond.fieldLink RX9 35 "MirroredTalksModel" "place" "[I") (List.mem_of_getElem? (i := 783) (by decide +kernel)) rfl
theorem fl_X9_35_8 : mFl RX9 35 8 10 := ⟨RX9, TX9, 25, rfl, by decide, wg_783, fun w h => mgood_in (inX9 w h) (List.all_eq_true.mp (show (u_ws RX9 TX9 25).all goodWord = true by decide +kernel) w h)⟩
theorem wg_785 : Cond.fieldLink RX9 38 "MirroredTalksModel" "ways" "[J" ∈ mgood := mgood_in (w := Cond.fieldLink RX9 38 "MirroredTalksModel" "ways" "[J") (List.mem_of_getElem? (i := 785) (by decide +kernel)) rfl
theorem fl_X9_38_8 : mFl RX9 38 8 12 := ⟨RX9, TX9, 25, rfl, by decide, wg_785, fun w h => mgood_in (inX9 w h) (List.all_eq_true.mp (show (u_ws RX9 TX9 25).all goodWord = true by decide +kernel) w h)⟩
theorem wg_786 : Cond.fieldLink RX9 42 "MirroredTalksModel" "known" "[Z" ∈ mgood := mgood_in (w := Cond.fieldLink RX9 42 "MirroredTalksModel" "known" "[Z") (List.mem_of_getElem? (i := 786) (by decide +kernel)) rfl
theorem fl_X9_42_8 : mFl RX9 42 8 13 := ⟨RX9, TX9, 25, rfl, by decide, wg_786, fun w h => mgood_in (inX9 w h) (List.all_eq_true.mp (show (u_ws RX9 TX9 25).all goodWord = true by decide +kernel) w h)⟩
theorem wg_794 : Cond.fieldLink RX9 46 "MirroredTalksModel" "read" "[I" ∈ mgood := mgood_in (w := Cond.fieldLink RX9 46 "MirroredTalksModel" "read" "[I") (List.mem_of_getElem? (i := 794) (by decide +kernel)) rfl
theorem fl_X9_46_8 : mFl RX9 46 8 21 := ⟨RX9, TX9, 25, rfl, by decide, wg_794, fun w h => mgood_in (inX9 w h) (List.all_eq_true.mp (show (u_ws RX9 TX9 25).all goodWord = true by decide +kernel) w h)⟩
theorem wg_795 : Cond.fieldLink RX9 49 "MirroredTalksModel" "arrowWords" "[I" ∈ mgood := mgood_in (w := Cond.fieldLink RX9 49 "MirroredTalksModel" "arrowWords" "[I") (List.mem_of_getElem? (i := 795) (by decide +kernel)) rfl
theorem fl_X9_49_8 : mFl RX9 49 8 22 := ⟨RX9, TX9, 25, rfl, by decide, wg_795, fun w h => mgood_in (inX9 w h) (List.all_eq_true.mp (show (u_ws RX9 TX9 25).all goodWord = true by decide +kernel) w h)⟩
theorem wg_796 : Cond.fieldLink RX9 52 "MirroredTalksModel" "arrowStates" "[I" ∈ mgood := mgood_in (w := Cond.fieldLink RX9 52 "MirroredTalksModel" "arrowStates" "[I") (List.mem_of_getElem? (i := 796) (by decide +kernel)) rfl
theorem fl_X9_52_8 : mFl RX9 52 8 23 := ⟨RX9, TX9, 25, rfl, by decide, wg_796, fun w h => mgood_in (inX9 w h) (List.all_eq_true.mp (show (u_ws RX9 TX9 25).all goodWord = true by decide +kernel) w h)⟩
theorem wg_775 : Cond.fieldLink RX9 55 "MirroredTalksModel" "states" "I" ∈ mgood := mgood_in (w := Cond.fieldLink RX9 55 "MirroredTalksModel" "states" "I") (List.mem_of_getElem? (i := 775) (by decide +kernel)) rfl
theorem fl_X9_55_8 : mFl RX9 55 8 2 := ⟨RX9, TX9, 25, rfl, by decide, wg_775, fun w h => mgood_in (inX9 w h) (List.all_eq_true.mp (show (u_ws RX9 TX9 25).all goodWord = true by decide +kernel) w h)⟩
theorem fp_X9_55_8 : mFp RX9 55 8 2 .int := ⟨RX9, TX9, 25, tyX9, rfl, by decide, wg_775, fun w h => mgood_in (inX9 w h) (List.all_eq_true.mp (show (u_ws RX9 TX9 25).all goodWord = true by decide +kernel) w h), tyX9_ok, nmX9, rfl, by decide +kernel⟩
theorem kI_X9_81 : Cond.constant RX9 81 (mI (-1000001)) ∈ mgood := mgood_in (List.mem_of_getElem? (i := 863) (by decide +kernel)) rfl
theorem kI_X9_95 : Cond.constant RX9 95 (mI (-1000002)) ∈ mgood := mgood_in (List.mem_of_getElem? (i := 897) (by decide +kernel)) rfl
theorem kI_X9_121 : Cond.constant RX9 121 (mI (-1000004)) ∈ mgood := mgood_in (List.mem_of_getElem? (i := 941) (by decide +kernel)) rfl
theorem wg_784 : Cond.fieldLink RX9 122 "MirroredTalksModel" "many" "I" ∈ mgood := mgood_in (w := Cond.fieldLink RX9 122 "MirroredTalksModel" "many" "I") (List.mem_of_getElem? (i := 784) (by decide +kernel)) rfl
theorem fl_X9_122_8 : mFl RX9 122 8 11 := ⟨RX9, TX9, 25, rfl, by decide, wg_784, fun w h => mgood_in (inX9 w h) (List.all_eq_true.mp (show (u_ws RX9 TX9 25).all goodWord = true by decide +kernel) w h)⟩
theorem fp_X9_122_8 : mFp RX9 122 8 11 .int := ⟨RX9, TX9, 25, tyX9, rfl, by decide, wg_784, fun w h => mgood_in (inX9 w h) (List.all_eq_true.mp (show (u_ws RX9 TX9 25).all goodWord = true by decide +kernel) w h), tyX9_ok, nmX9, rfl, by decide +kernel⟩
theorem kJ_X9_167 : Cond.constantLong RX9 167 (mJ (1000000000000000)) ∈ mgood := mgood_in (List.mem_of_getElem? (i := 1015) (by decide +kernel)) rfl
theorem kJ_X9_169 : Cond.constantLong RX9 169 (mJ (1000000000000001)) ∈ mgood := mgood_in (List.mem_of_getElem? (i := 1016) (by decide +kernel)) rfl
theorem kJ_X9_190 : Cond.constantLong RX9 190 (mJ (-1000001)) ∈ mgood := mgood_in (List.mem_of_getElem? (i := 1029) (by decide +kernel)) rfl
theorem kJ_X9_192 : Cond.constantLong RX9 192 (mJ (-1000002)) ∈ mgood := mgood_in (List.mem_of_getElem? (i := 1030) (by decide +kernel)) rfl
theorem kJ_X9_194 : Cond.constantLong RX9 194 (mJ (-1000003)) ∈ mgood := mgood_in (List.mem_of_getElem? (i := 1031) (by decide +kernel)) rfl
theorem wg_777 : Cond.fieldLink RX9 215 "MirroredTalksModel" "typed" "I" ∈ mgood := mgood_in (w := Cond.fieldLink RX9 215 "MirroredTalksModel" "typed" "I") (List.mem_of_getElem? (i := 777) (by decide +kernel)) rfl
theorem fl_X9_215_8 : mFl RX9 215 8 4 := ⟨RX9, TX9, 25, rfl, by decide, wg_777, fun w h => mgood_in (inX9 w h) (List.all_eq_true.mp (show (u_ws RX9 TX9 25).all goodWord = true by decide +kernel) w h)⟩
theorem fp_X9_215_8 : mFp RX9 215 8 4 .int := ⟨RX9, TX9, 25, tyX9, rfl, by decide, wg_777, fun w h => mgood_in (inX9 w h) (List.all_eq_true.mp (show (u_ws RX9 TX9 25).all goodWord = true by decide +kernel) w h), tyX9_ok, nmX9, rfl, by decide +kernel⟩
theorem kI_X9_218 : Cond.constant RX9 218 (mI (-1000003)) ∈ mgood := mgood_in (List.mem_of_getElem? (i := 1076) (by decide +kernel)) rfl
theorem wg_787 : Cond.fieldLink RX9 219 "MirroredTalksModel" "spot" "I" ∈ mgood := mgood_in (w := Cond.fieldLink RX9 219 "MirroredTalksModel" "spot" "I") (List.mem_of_getElem? (i := 787) (by decide +kernel)) rfl
theorem fl_X9_219_8 : mFl RX9 219 8 14 := ⟨RX9, TX9, 25, rfl, by decide, wg_787, fun w h => mgood_in (inX9 w h) (List.all_eq_true.mp (show (u_ws RX9 TX9 25).all goodWord = true by decide +kernel) w h)⟩
theorem fp_X9_219_8 : mFp RX9 219 8 14 .int := ⟨RX9, TX9, 25, tyX9, rfl, by decide, wg_787, fun w h => mgood_in (inX9 w h) (List.all_eq_true.mp (show (u_ws RX9 TX9 25).all goodWord = true by decide +kernel) w h), tyX9_ok, nmX9, rfl, by decide +kernel⟩
theorem wg_789 : Cond.fieldLink RX9 222 "MirroredTalksModel" "taken" "I" ∈ mgood := mgood_in (w := Cond.fieldLink RX9 222 "MirroredTalksModel" "taken" "I") (List.mem_of_getElem? (i := 789) (by decide +kernel)) rfl
theorem fl_X9_222_8 : mFl RX9 222 8 16 := ⟨RX9, TX9, 25, rfl, by decide, wg_789, fun w h => mgood_in (inX9 w h) (List.all_eq_true.mp (show (u_ws RX9 TX9 25).all goodWord = true by decide +kernel) w h)⟩
theorem fp_X9_222_8 : mFp RX9 222 8 16 .int := ⟨RX9, TX9, 25, tyX9, rfl, by decide, wg_789, fun w h => mgood_in (inX9 w h) (List.all_eq_true.mp (show (u_ws RX9 TX9 25).all goodWord = true by decide +kernel) w h), tyX9_ok, nmX9, rfl, by decide +kernel⟩
theorem wg_797 : Cond.fieldLink RX9 228 "MirroredTalksModel" "arrowMany" "I" ∈ mgood := mgood_in (w := Cond.fieldLink RX9 228 "MirroredTalksModel" "arrowMany" "I") (List.mem_of_getElem? (i := 797) (by decide +kernel)) rfl
theorem fl_X9_228_8 : mFl RX9 228 8 24 := ⟨RX9, TX9, 25, rfl, by decide, wg_797, fun w h => mgood_in (inX9 w h) (List.all_eq_true.mp (show (u_ws RX9 TX9 25).all goodWord = true by decide +kernel) w h)⟩
theorem fp_X9_228_8 : mFp RX9 228 8 24 .int := ⟨RX9, TX9, 25, tyX9, rfl, by decide, wg_797, fun w h => mgood_in (inX9 w h) (List.all_eq_true.mp (show (u_ws RX9 TX9 25).all goodWord = true by decide +kernel) w h), tyX9_ok, nmX9, rfl, by decide +kernel⟩
theorem wg_788 : Cond.fieldLink RX9 231 "MirroredTalksModel" "begun" "I" ∈ mgood := mgood_in (w := Cond.fieldLink RX9 231 "MirroredTalksModel" "begun" "I") (List.mem_of_getElem? (i := 788) (by decide +kernel)) rfl
theorem fl_X9_231_8 : mFl RX9 231 8 15 := ⟨RX9, TX9, 25, rfl, by decide, wg_788, fun w h => mgood_in (inX9 w h) (List.all_eq_true.mp (show (u_ws RX9 TX9 25).all goodWord = true by decide +kernel) w h)⟩
theorem fp_X9_231_8 : mFp RX9 231 8 15 .int := ⟨RX9, TX9, 25, tyX9, rfl, by decide, wg_788, fun w h => mgood_in (inX9 w h) (List.all_eq_true.mp (show (u_ws RX9 TX9 25).all goodWord = true by decide +kernel) w h), tyX9_ok, nmX9, rfl, by decide +kernel⟩
theorem wg_791 : Cond.fieldLink RX9 234 "MirroredTalksModel" "cause" "I" ∈ mgood := mgood_in (w := Cond.fieldLink RX9 234 "MirroredTalksModel" "cause" "I") (List.mem_of_getElem? (i := 791) (by decide +kernel)) rfl
theorem fl_X9_234_8 : mFl RX9 234 8 18 := ⟨RX9, TX9, 25, rfl, by decide, wg_791, fun w h => mgood_in (inX9 w h) (List.all_eq_true.mp (show (u_ws RX9 TX9 25).all goodWord = true by decide +kernel) w h)⟩
theorem fp_X9_234_8 : mFp RX9 234 8 18 .int := ⟨RX9, TX9, 25, tyX9, rfl, by decide, wg_791, fun w h => mgood_in (inX9 w h) (List.all_eq_true.mp (show (u_ws RX9 TX9 25).all goodWord = true by decide +kernel) w h), tyX9_ok, nmX9, rfl, by decide +kernel⟩
theorem wg_792 : Cond.fieldLink RX9 247 "MirroredTalksModel" "told" "I" ∈ mgood := mgood_in (w := Cond.fieldLink RX9 247 "MirroredTalksModel" "told" "I") (List.mem_of_getElem? (i := 792) (by decide +kernel)) rfl
theorem fl_X9_247_8 : mFl RX9 247 8 19 := ⟨RX9, TX9, 25, rfl, by decide, wg_792, fun w h => mgood_in (inX9 w h) (List.all_eq_true.mp (show (u_ws RX9 TX9 25).all goodWord = true by decide +kernel) w h)⟩
theorem fp_X9_247_8 : mFp RX9 247 8 19 .int := ⟨RX9, TX9, 25, tyX9, rfl, by decide, wg_792, fun w h => mgood_in (inX9 w h) (List.all_eq_true.mp (show (u_ws RX9 TX9 25).all goodWord = true by decide +kernel) w h), tyX9_ok, nmX9, rfl, by decide +kernel⟩
theorem wg_793 : Cond.fieldLink RX9 253 "MirroredTalksModel" "toldMany" "I" ∈ mgood := mgood_in (w := Cond.fieldLink RX9 253 "MirroredTalksModel" "toldMany" "I") (List.mem_of_getElem? (i := 793) (by decide +kernel)) rfl
theorem fl_X9_253_8 : mFl RX9 253 8 20 := ⟨RX9, TX9, 25, rfl, by decide, wg_793, fun w h => mgood_in (inX9 w h) (List.all_eq_true.mp (show (u_ws RX9 TX9 25).all goodWord = true by decide +kernel) w h)⟩
theorem fp_X9_253_8 : mFp RX9 253 8 20 .int := ⟨RX9, TX9, 25, tyX9, rfl, by decide, wg_793, fun w h => mgood_in (inX9 w h) (List.all_eq_true.mp (show (u_ws RX9 TX9 25).all goodWord = true by decide +kernel) w h), tyX9_ok, nmX9, rfl, by decide +kernel⟩
theorem wg_790 : Cond.fieldLink RX9 256 "MirroredTalksModel" "reason" "I" ∈ mgood := mgood_in (w := Cond.fieldLink RX9 256 "MirroredTalksModel" "reason" "I") (List.mem_of_getElem? (i := 790) (by decide +kernel)) rfl
theorem fl_X9_256_8 : mFl RX9 256 8 17 := ⟨RX9, TX9, 25, rfl, by decide, wg_790, fun w h => mgood_in (inX9 w h) (List.all_eq_true.mp (show (u_ws RX9 TX9 25).all goodWord = true by decide +kernel) w h)⟩
theorem fp_X9_256_8 : mFp RX9 256 8 17 .int := ⟨RX9, TX9, 25, tyX9, rfl, by decide, wg_790, fun w h => mgood_in (inX9 w h) (List.all_eq_true.mp (show (u_ws RX9 TX9 25).all goodWord = true by decide +kernel) w h), tyX9_ok, nmX9, rfl, by decide +kernel⟩
theorem wg_110 : Cond.fieldLink RX0 11 "MirroredTalks$History" "entries" "[I" ∈ mgood := mgood_in (w := Cond.fieldLink RX0 11 "MirroredTalks$History" "entries" "[I") (List.mem_of_getElem? (i := 110) (by decide +kernel)) rfl
theorem fl_X0_11_0 : mFl RX0 11 0 0 := ⟨RX0, TX0, 2, rfl, by decide, wg_110, fun w h => mgood_in (inX0 w h) (List.all_eq_true.mp (show (u_ws RX0 TX0 2).all goodWord = true by decide +kernel) w h)⟩
theorem wg_111 : Cond.fieldLink RX0 15 "MirroredTalks$History" "size" "I" ∈ mgood := mgood_in (w := Cond.fieldLink RX0 15 "MirroredTalks$History" "size" "I") (List.mem_of_getElem? (i := 111) (by decide +kernel)) rfl
theorem fl_X0_15_0 : mFl RX0 15 0 1 := ⟨RX0, TX0, 2, rfl, by decide, wg_111, fun w h => mgood_in (inX0 w h) (List.all_eq_true.mp (show (u_ws RX0 TX0 2).all goodWord = true by decide +kernel) w h)⟩
theorem fp_X0_15_0 : mFp RX0 15 0 1 .int := ⟨RX0, TX0, 2, tyX0, rfl, by decide, wg_111, fun w h => mgood_in (inX0 w h) (List.all_eq_true.mp (show (u_ws RX0 TX0 2).all goodWord = true by decide +kernel) w h), tyX0_ok, nmX0, rfl, by decide +kernel⟩
theorem wg_153 : Cond.fieldLink RX1 9 "MirroredTalks$Likeness" "alike" "[Z" ∈ mgood := mgood_in (w := Cond.fieldLink RX1 9 "MirroredTalks$Likeness" "alike" "[Z") (List.mem_of_getElem? (i := 153) (by decide +kernel)) rfl
theorem fl_X1_9_1 : mFl RX1 9 1 0 := ⟨RX1, TX1, 1, rfl, by decide, wg_153, fun w h => mgood_in (inX1 w h) (List.all_eq_true.mp (show (u_ws RX1 TX1 1).all goodWord = true by decide +kernel) w h)⟩
theorem wg_167 : Cond.fieldLink RX2 9 "MirroredTalks$Pairs" "pairs" "[I" ∈ mgood := mgood_in (w := Cond.fieldLink RX2 9 "MirroredTalks$Pairs" "pairs" "[I") (List.mem_of_getElem? (i := 167) (by decide +kernel)) rfl
theorem fl_X2_9_5 : mFl RX2 9 5 0 := ⟨RX6, TX6, 8, rfl, by decide, wg_167, fun w h => mgood_in (inX6 w h) (List.all_eq_true.mp (show (u_ws RX6 TX6 8).all goodWord = true by decide +kernel) w h)⟩
theorem fl_X2_9_6 : mFl RX2 9 6 0 := ⟨RX7, TX7, 8, rfl, by decide, wg_167, fun w h => mgood_in (inX7 w h) (List.all_eq_true.mp (show (u_ws RX7 TX7 8).all goodWord = true by decide +kernel) w h)⟩
theorem wg_168 : Cond.fieldLink RX2 15 "MirroredTalks$Pairs" "positions" "[I" ∈ mgood := mgood_in (w := Cond.fieldLink RX2 15 "MirroredTalks$Pairs" "positions" "[I") (List.mem_of_getElem? (i := 168) (by decide +kernel)) rfl
theorem fl_X2_15_5 : mFl RX2 15 5 1 := ⟨RX6, TX6, 8, rfl, by decide, wg_168, fun w h => mgood_in (inX6 w h) (List.all_eq_true.mp (show (u_ws RX6 TX6 8).all goodWord = true by decide +kernel) w h)⟩
theorem fl_X2_15_6 : mFl RX2 15 6 1 := ⟨RX7, TX7, 8, rfl, by decide, wg_168, fun w h => mgood_in (inX7 w h) (List.all_eq_true.mp (show (u_ws RX7 TX7 8).all goodWord = true by decide +kernel) w h)⟩
theorem wg_169 : Cond.fieldLink RX2 18 "MirroredTalks$Pairs" "lengths" "[I" ∈ mgood := mgood_in (w := Cond.fieldLink RX2 18 "MirroredTalks$Pairs" "lengths" "[I") (List.mem_of_getElem? (i := 169) (by decide +kernel)) rfl
theorem fl_X2_18_5 : mFl RX2 18 5 2 := ⟨RX6, TX6, 8, rfl, by decide, wg_169, fun w h => mgood_in (inX6 w h) (List.all_eq_true.mp (show (u_ws RX6 TX6 8).all goodWord = true by decide +kernel) w h)⟩
theorem fl_X2_18_6 : mFl RX2 18 6 2 := ⟨RX7, TX7, 8, rfl, by decide, wg_169, fun w h => mgood_in (inX7 w h) (List.all_eq_true.mp (show (u_ws RX7 TX7 8).all goodWord = true by decide +kernel) w h)⟩
theorem wg_170 : Cond.fieldLink RX2 21 "MirroredTalks$Pairs" "origins" "[I" ∈ mgood := mgood_in (w := Cond.fieldLink RX2 21 "MirroredTalks$Pairs" "origins" "[I") (List.mem_of_getElem? (i := 170) (by decide +kernel)) rfl
theorem fl_X2_21_5 : mFl RX2 21 5 3 := ⟨RX6, TX6, 8, rfl, by decide, wg_170, fun w h => mgood_in (inX6 w h) (List.all_eq_true.mp (show (u_ws RX6 TX6 8).all goodWord = true by decide +kernel) w h)⟩
theorem fl_X2_21_6 : mFl RX2 21 6 3 := ⟨RX7, TX7, 8, rfl, by decide, wg_170, fun w h => mgood_in (inX7 w h) (List.all_eq_true.mp (show (u_ws RX7 TX7 8).all goodWord = true by decide +kernel) w h)⟩
theorem wg_171 : Cond.fieldLink RX2 24 "MirroredTalks$Pairs" "lastWords" "[I" ∈ mgood := mgood_in (w := Cond.fieldLink RX2 24 "MirroredTalks$Pairs" "lastWords" "[I") (List.mem_of_getElem? (i := 171) (by decide +kernel)) rfl
theorem fl_X2_24_5 : mFl RX2 24 5 4 := ⟨RX6, TX6, 8, rfl, by decide, wg_171, fun w h => mgood_in (inX6 w h) (List.all_eq_true.mp (show (u_ws RX6 TX6 8).all goodWord = true by decide +kernel) w h)⟩
theorem fl_X2_24_6 : mFl RX2 24 6 4 := ⟨RX7, TX7, 8, rfl, by decide, wg_171, fun w h => mgood_in (inX7 w h) (List.all_eq_true.mp (show (u_ws RX7 TX7 8).all goodWord = true by decide +kernel) w h)⟩
theorem wg_172 : Cond.fieldLink RX2 27 "MirroredTalks$Pairs" "one" "LMirroredTalks$Plan;" ∈ mgood := mgood_in (w := Cond.fieldLink RX2 27 "MirroredTalks$Pairs" "one" "LMirroredTalks$Plan;") (List.mem_of_getElem? (i := 172) (by decide +kernel)) rfl
theorem fl_X2_27_5 : mFl RX2 27 5 5 := ⟨RX6, TX6, 8, rfl, by decide, wg_172, fun w h => mgood_in (inX6 w h) (List.all_eq_true.mp (show (u_ws RX6 TX6 8).all goodWord = true by decide +kernel) w h)⟩
theorem fp_X2_27_5 : mFp RX2 27 5 5 (.object "MirroredTalks$Plan") := ⟨RX6, TX6, 8, tyX6, rfl, by decide, wg_172, fun w h => mgood_in (inX6 w h) (List.all_eq_true.mp (show (u_ws RX6 TX6 8).all goodWord = true by decide +kernel) w h), tyX6_ok, nmX6, rfl, by decide +kernel⟩
theorem fl_X2_27_6 : mFl RX2 27 6 5 := ⟨RX7, TX7, 8, rfl, by decide, wg_172, fun w h => mgood_in (inX7 w h) (List.all_eq_true.mp (show (u_ws RX7 TX7 8).all goodWord = true by decide +kernel) w h)⟩
theorem fp_X2_27_6 : mFp RX2 27 6 5 (.object "MirroredTalks$Plan") := ⟨RX7, TX7, 8, tyX7, rfl, by decide, wg_172, fun w h => mgood_in (inX7 w h) (List.all_eq_true.mp (show (u_ws RX7 TX7 8).all goodWord = true by decide +kernel) w h), tyX7_ok, nmX7, rfl, by decide +kernel⟩
theorem wg_173 : Cond.fieldLink RX2 31 "MirroredTalks$Pairs" "other" "LMirroredTalks$Plan;" ∈ mgood := mgood_in (w := Cond.fieldLink RX2 31 "MirroredTalks$Pairs" "other" "LMirroredTalks$Plan;") (List.mem_of_getElem? (i := 173) (by decide +kernel)) rfl
theorem fl_X2_31_5 : mFl RX2 31 5 6 := ⟨RX6, TX6, 8, rfl, by decide, wg_173, fun w h => mgood_in (inX6 w h) (List.all_eq_true.mp (show (u_ws RX6 TX6 8).all goodWord = true by decide +kernel) w h)⟩
theorem fp_X2_31_5 : mFp RX2 31 5 6 (.object "MirroredTalks$Plan") := ⟨RX6, TX6, 8, tyX6, rfl, by decide, wg_173, fun w h => mgood_in (inX6 w h) (List.all_eq_true.mp (show (u_ws RX6 TX6 8).all goodWord = true by decide +kernel) w h), tyX6_ok, nmX6, rfl, by decide +kernel⟩
theorem fl_X2_31_6 : mFl RX2 31 6 6 := ⟨RX7, TX7, 8, rfl, by decide, wg_173, fun w h => mgood_in (inX7 w h) (List.all_eq_true.mp (show (u_ws RX7 TX7 8).all goodWord = true by decide +kernel) w h)⟩
theorem fp_X2_31_6 : mFp RX2 31 6 6 (.object "MirroredTalks$Plan") := ⟨RX7, TX7, 8, tyX7, rfl, by decide, wg_173, fun w h => mgood_in (inX7 w h) (List.all_eq_true.mp (show (u_ws RX7 TX7 8).all goodWord = true by decide +kernel) w h), tyX7_ok, nmX7, rfl, by decide +kernel⟩
theorem wg_174 : Cond.fieldLink RX2 40 "MirroredTalks$Pairs" "size" "I" ∈ mgood := mgood_in (w := Cond.fieldLink RX2 40 "MirroredTalks$Pairs" "size" "I") (List.mem_of_getElem? (i := 174) (by decide +kernel)) rfl
theorem fl_X2_40_5 : mFl RX2 40 5 7 := ⟨RX6, TX6, 8, rfl, by decide, wg_174, fun w h => mgood_in (inX6 w h) (List.all_eq_true.mp (show (u_ws RX6 TX6 8).all goodWord = true by decide +kernel) w h)⟩
theorem fp_X2_40_5 : mFp RX2 40 5 7 .int := ⟨RX6, TX6, 8, tyX6, rfl, by decide, wg_174, fun w h => mgood_in (inX6 w h) (List.all_eq_true.mp (show (u_ws RX6 TX6 8).all goodWord = true by decide +kernel) w h), tyX6_ok, nmX6, rfl, by decide +kernel⟩
theorem fl_X2_40_6 : mFl RX2 40 6 7 := ⟨RX7, TX7, 8, rfl, by decide, wg_174, fun w h => mgood_in (inX7 w h) (List.all_eq_true.mp (show (u_ws RX7 TX7 8).all goodWord = true by decide +kernel) w h)⟩
theorem fp_X2_40_6 : mFp RX2 40 6 7 .int := ⟨RX7, TX7, 8, tyX7, rfl, by decide, wg_174, fun w h => mgood_in (inX7 w h) (List.all_eq_true.mp (show (u_ws RX7 TX7 8).all goodWord = true by decide +kernel) w h), tyX7_ok, nmX7, rfl, by decide +kernel⟩
theorem wg_99 : Cond.fieldLink RX3 11 "MirroredTalks$Plan" "cells" "[I" ∈ mgood := mgood_in (w := Cond.fieldLink RX3 11 "MirroredTalks$Plan" "cells" "[I") (List.mem_of_getElem? (i := 99) (by decide +kernel)) rfl
theorem fl_X3_11_2 : mFl RX3 11 2 0 := ⟨RX3, TX3, 1, rfl, by decide, wg_99, fun w h => mgood_in (inX3 w h) (List.all_eq_true.mp (show (u_ws RX3 TX3 1).all goodWord = true by decide +kernel) w h)⟩
theorem wg_125 : Cond.fieldLink RX4 11 "MirroredTalks$PlanText" "characters" "[I" ∈ mgood := mgood_in (w := Cond.fieldLink RX4 11 "MirroredTalks$PlanText" "characters" "[I") (List.mem_of_getElem? (i := 125) (by decide +kernel)) rfl
theorem fl_X4_11_3 : mFl RX4 11 3 0 := ⟨RX4, TX4, 7, rfl, by decide, wg_125, fun w h => mgood_in (inX4 w h) (List.all_eq_true.mp (show (u_ws RX4 TX4 7).all goodWord = true by decide +kernel) w h)⟩
theorem wg_127 : Cond.fieldLink RX4 18 "MirroredTalks$PlanText" "draft" "LMirroredTalks$Plan;" ∈ mgood := mgood_in (w := Cond.fieldLink RX4 18 "MirroredTalks$PlanText" "draft" "LMirroredTalks$Plan;") (List.mem_of_getElem? (i := 127) (by decide +kernel)) rfl
theorem fl_X4_18_3 : mFl RX4 18 3 2 := ⟨RX4, TX4, 7, rfl, by decide, wg_127, fun w h => mgood_in (inX4 w h) (List.all_eq_true.mp (show (u_ws RX4 TX4 7).all goodWord = true by decide +kernel) w h)⟩
theorem wg_126 : Cond.fieldLink RX4 22 "MirroredTalks$PlanText" "length" "I" ∈ mgood := mgood_in (w := Cond.fieldLink RX4 22 "MirroredTalks$PlanText" "length" "I") (List.mem_of_getElem? (i := 126) (by decide +kernel)) rfl
theorem fl_X4_22_3 : mFl RX4 22 3 1 := ⟨RX4, TX4, 7, rfl, by decide, wg_126, fun w h => mgood_in (inX4 w h) (List.all_eq_true.mp (show (u_ws RX4 TX4 7).all goodWord = true by decide +kernel) w h)⟩
theorem fp_X4_22_3 : mFp RX4 22 3 1 .int := ⟨RX4, TX4, 7, tyX4, rfl, by decide, wg_126, fun w h => mgood_in (inX4 w h) (List.all_eq_true.mp (show (u_ws RX4 TX4 7).all goodWord = true by decide +kernel) w h), tyX4_ok, nmX4, rfl, by decide +kernel⟩
theorem wg_128 : Cond.fieldLink RX4 26 "MirroredTalks$PlanText" "told" "I" ∈ mgood := mgood_in (w := Cond.fieldLink RX4 26 "MirroredTalks$PlanText" "told" "I") (List.mem_of_getElem? (i := 128) (by decide +kernel)) rfl
theorem fl_X4_26_3 : mFl RX4 26 3 3 := ⟨RX4, TX4, 7, rfl, by decide, wg_128, fun w h => mgood_in (inX4 w h) (List.all_eq_true.mp (show (u_ws RX4 TX4 7).all goodWord = true by decide +kernel) w h)⟩
theorem fp_X4_26_3 : mFp RX4 26 3 3 .int := ⟨RX4, TX4, 7, tyX4, rfl, by decide, wg_128, fun w h => mgood_in (inX4 w h) (List.all_eq_true.mp (show (u_ws RX4 TX4 7).all goodWord = true by decide +kernel) w h), tyX4_ok, nmX4, rfl, by decide +kernel⟩
theorem wg_130 : Cond.fieldLink RX4 35 "MirroredTalks$PlanText" "faultReason" "I" ∈ mgood := mgood_in (w := Cond.fieldLink RX4 35 "MirroredTalks$PlanText" "faultReason" "I") (List.mem_of_getElem? (i := 130) (by decide +kernel)) rfl
theorem fl_X4_35_3 : mFl RX4 35 3 5 := ⟨RX4, TX4, 7, rfl, by decide, wg_130, fun w h => mgood_in (inX4 w h) (List.all_eq_true.mp (show (u_ws RX4 TX4 7).all goodWord = true by decide +kernel) w h)⟩
theorem fp_X4_35_3 : mFp RX4 35 3 5 .int := ⟨RX4, TX4, 7, tyX4, rfl, by decide, wg_130, fun w h => mgood_in (inX4 w h) (List.all_eq_true.mp (show (u_ws RX4 TX4 7).all goodWord = true by decide +kernel) w h), tyX4_ok, nmX4, rfl, by decide +kernel⟩
theorem wg_129 : Cond.fieldLink RX4 38 "MirroredTalks$PlanText" "faultPosition" "I" ∈ mgood := mgood_in (w := Cond.fieldLink RX4 38 "MirroredTalks$PlanText" "faultPosition" "I") (List.mem_of_getElem? (i := 129) (by decide +kernel)) rfl
theorem fl_X4_38_3 : mFl RX4 38 3 4 := ⟨RX4, TX4, 7, rfl, by decide, wg_129, fun w h => mgood_in (inX4 w h) (List.all_eq_true.mp (show (u_ws RX4 TX4 7).all goodWord = true by decide +kernel) w h)⟩
theorem fp_X4_38_3 : mFp RX4 38 3 4 .int := ⟨RX4, TX4, 7, tyX4, rfl, by decide, wg_129, fun w h => mgood_in (inX4 w h) (List.all_eq_true.mp (show (u_ws RX4 TX4 7).all goodWord = true by decide +kernel) w h), tyX4_ok, nmX4, rfl, by decide +kernel⟩
theorem wg_131 : Cond.fieldLink RX4 41 "MirroredTalks$PlanText" "faultCause" "I" ∈ mgood := mgood_in (w := Cond.fieldLink RX4 41 "MirroredTalks$PlanText" "faultCause" "I") (List.mem_of_getElem? (i := 131) (by decide +kernel)) rfl
theorem fl_X4_41_3 : mFl RX4 41 3 6 := ⟨RX4, TX4, 7, rfl, by decide, wg_131, fun w h => mgood_in (inX4 w h) (List.all_eq_true.mp (show (u_ws RX4 TX4 7).all goodWord = true by decide +kernel) w h)⟩
theorem fp_X4_41_3 : mFp RX4 41 3 6 .int := ⟨RX4, TX4, 7, tyX4, rfl, by decide, wg_131, fun w h => mgood_in (inX4 w h) (List.all_eq_true.mp (show (u_ws RX4 TX4 7).all goodWord = true by decide +kernel) w h), tyX4_ok, nmX4, rfl, by decide +kernel⟩
theorem wg_198 : Cond.fieldLink RX5 9 "MirroredTalks$RowCount" "openWays" "[I" ∈ mgood := mgood_in (w := Cond.fieldLink RX5 9 "MirroredTalks$RowCount" "openWays" "[I") (List.mem_of_getElem? (i := 198) (by decide +kernel)) rfl
theorem fl_X5_9_4 : mFl RX5 9 4 0 := ⟨RX5, TX5, 4, rfl, by decide, wg_198, fun w h => mgood_in (inX5 w h) (List.all_eq_true.mp (show (u_ws RX5 TX5 4).all goodWord = true by decide +kernel) w h)⟩
theorem wg_199 : Cond.fieldLink RX5 15 "MirroredTalks$RowCount" "rows" "[J" ∈ mgood := mgood_in (w := Cond.fieldLink RX5 15 "MirroredTalks$RowCount" "rows" "[J") (List.mem_of_getElem? (i := 199) (by decide +kernel)) rfl
theorem fl_X5_15_4 : mFl RX5 15 4 1 := ⟨RX5, TX5, 4, rfl, by decide, wg_199, fun w h => mgood_in (inX5 w h) (List.all_eq_true.mp (show (u_ws RX5 TX5 4).all goodWord = true by decide +kernel) w h)⟩
theorem wg_200 : Cond.fieldLink RX5 19 "MirroredTalks$RowCount" "ready" "[I" ∈ mgood := mgood_in (w := Cond.fieldLink RX5 19 "MirroredTalks$RowCount" "ready" "[I") (List.mem_of_getElem? (i := 200) (by decide +kernel)) rfl
theorem fl_X5_19_4 : mFl RX5 19 4 2 := ⟨RX5, TX5, 4, rfl, by decide, wg_200, fun w h => mgood_in (inX5 w h) (List.all_eq_true.mp (show (u_ws RX5 TX5 4).all goodWord = true by decide +kernel) w h)⟩
theorem wg_201 : Cond.fieldLink RX5 30 "MirroredTalks$RowCount" "readySize" "I" ∈ mgood := mgood_in (w := Cond.fieldLink RX5 30 "MirroredTalks$RowCount" "readySize" "I") (List.mem_of_getElem? (i := 201) (by decide +kernel)) rfl
theorem fl_X5_30_4 : mFl RX5 30 4 3 := ⟨RX5, TX5, 4, rfl, by decide, wg_201, fun w h => mgood_in (inX5 w h) (List.all_eq_true.mp (show (u_ws RX5 TX5 4).all goodWord = true by decide +kernel) w h)⟩
theorem fp_X5_30_4 : mFp RX5 30 4 3 .int := ⟨RX5, TX5, 4, tyX5, rfl, by decide, wg_201, fun w h => mgood_in (inX5 w h) (List.all_eq_true.mp (show (u_ws RX5 TX5 4).all goodWord = true by decide +kernel) w h), tyX5_ok, nmX5, rfl, by decide +kernel⟩
theorem kJ_X5_60 : Cond.constantLong RX5 60 (mJ (-1)) ∈ mgood := mgood_in (List.mem_of_getElem? (i := 600) (by decide +kernel)) rfl
theorem kJ_X5_74 : Cond.constantLong RX5 74 (mJ (1000000000000001)) ∈ mgood := mgood_in (List.mem_of_getElem? (i := 592) (by decide +kernel)) rfl
theorem kI_J6_265 : Cond.constant RJ6 265 (mI (1431655765)) ∈ mgood := mgood_in (List.mem_of_getElem? (i := 309) (by decide +kernel)) rfl
theorem kI_J6_266 : Cond.constant RJ6 266 (mI (858993459)) ∈ mgood := mgood_in (List.mem_of_getElem? (i := 310) (by decide +kernel)) rfl
theorem kI_J6_267 : Cond.constant RJ6 267 (mI (252645135)) ∈ mgood := mgood_in (List.mem_of_getElem? (i := 311) (by decide +kernel)) rfl
theorem ac_X0_19 : Cond.methodLink RX0 19 arraycopyName ∈ mgood := mgood_in (List.mem_of_getElem? (i := 275) (by decide +kernel)) rfl
theorem ac_X3_56 : Cond.methodLink RX3 56 arraycopyName ∈ mgood := mgood_in (List.mem_of_getElem? (i := 282) (by decide +kernel)) rfl
theorem ac_nat : Cond.native arraycopyName ∈ mgood := mgood_in (List.mem_of_getElem? (i := 277) (by decide +kernel)) rfl
theorem ac_stat : Cond.static arraycopyName ∈ mgood := mgood_in (List.mem_of_getElem? (i := 276) (by decide +kernel)) rfl
theorem ac_ini : Cond.initialized "java/lang/System" ∈ mgood := mgood_in (List.mem_of_getElem? (i := 63) (by decide +kernel)) rfl
