/-! the code words of the law's methods -/
theorem kc_L_part : Cond.code yL_part cL_part 2 (some .int) ∈ mgood := mgood_in (List.mem_of_getElem? (i := 511) (by decide +kernel)) rfl
theorem kc_L_drawn : Cond.code yL_drawn cL_drawn 2 (some .int) ∈ mgood := mgood_in (List.mem_of_getElem? (i := 515) (by decide +kernel)) rfl
theorem kc_L_seen : Cond.code yL_seen cL_seen 5 (some .long) ∈ mgood := mgood_in (List.mem_of_getElem? (i := 519) (by decide +kernel)) rfl
theorem kc_L_refusesAny : Cond.code yL_refusesAny cL_refusesAny 5 (some .boolean) ∈ mgood := mgood_in (List.mem_of_getElem? (i := 637) (by decide +kernel)) rfl
theorem kc_L_refused : Cond.code yL_refused cL_refused 5 (some .boolean) ∈ mgood := mgood_in (List.mem_of_getElem? (i := 634) (by decide +kernel)) rfl
theorem kc_L_puts : Cond.code yL_puts cL_puts 6 (some .boolean) ∈ mgood := mgood_in (List.mem_of_getElem? (i := 745) (by decide +kernel)) rfl
theorem kc_L_faultOf : Cond.code yL_faultOf cL_faultOf 6 (some .int) ∈ mgood := mgood_in (List.mem_of_getElem? (i := 752) (by decide +kernel)) rfl
theorem kc_L_texts : Cond.code yL_texts cL_texts 0 (some .boolean) ∈ mgood := mgood_in (List.mem_of_getElem? (i := 749) (by decide +kernel)) rfl
set_option maxRecDepth 1000000 in
set_option maxHeartbeats 4000000 in
theorem kc_L_plans : Cond.code yL_plans cL_plans 1 (some .boolean) ∈ mgood := mgood_in (List.mem_of_getElem? (i := 775) (by rfl)) rfl
theorem kc_L_circles : Cond.code yL_circles cL_circles 5 (some .boolean) ∈ mgood := mgood_in (List.mem_of_getElem? (i := 781) (by decide +kernel)) rfl
