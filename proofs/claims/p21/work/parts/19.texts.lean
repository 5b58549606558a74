/-! texts, as the class reads them -/
set_option maxRecDepth 100000 in
set_option maxHeartbeats 4000000 in
theorem s_X4_isFull {l : Launch} {G : mG} {w : mW} (hr : 0 ≤ w 9 1 ∧ w 9 1 ≤ 80) : Mx l G 0 yX4_isFull cX4_isFull 1 (some .boolean) [mvR 9] w (qP (mvI (mb (decide (80 ≤ w 9 1)))) w) := by
  refine Mx.intro (by decide) RX4 rfl [some (mvR 9)] (Nat.le_of_ble_eq_true rfl) rfl (fun K hC => ?_)
  refine wm_aload_n hC 0 (pc := 0) dX4_isFull_0 rfl rfl ?_
  refine wm_getI hC 9 1 fl_X4_22_3 rfl rfl rfl (pc := 1) dX4_isFull_1 ?_
  refine wm_bipush hC (pc := 4) dX4_isFull_4 (by decide) ?_
  refine wm_icmp_lt hC 13 (pc := 6) dX4_isFull_6 (by decide) (by omega) (by omega) (fun h6 => ?_) (fun h6 => ?_)
  · refine wm_iconst hC (pc := 13) dX4_isFull_13 ?_
    refine wm_zretP hC (pc := 14) dX4_isFull_14 ?_ rfl
    first | exact ((mb_0 _).mpr (decide_eq_false (by omega))).symm | exact ((mb_1 _).mpr (decide_eq_true (by omega))).symm
  · refine wm_iconst hC (pc := 9) dX4_isFull_9 ?_
    refine wm_goto hC 14 (pc := 10) dX4_isFull_10 (by decide) ?_
    refine wm_zretP hC (pc := 14) dX4_isFull_14 ?_ rfl
    first | exact ((mb_0 _).mpr (decide_eq_false (by omega))).symm | exact ((mb_1 _).mpr (decide_eq_true (by omega))).symm
set_option maxRecDepth 100000 in
set_option maxHeartbeats 4000000 in
theorem s_X4_append {l : Launch} {G : mG} {w : mW} {z : Int} (hr : 0 ≤ w 9 1 ∧ w 9 1 < 80) : Mx l G 0 yX4_append cX4_append 2 none [mvR 9, mvI z] w (qV (fun w' => w' = mup (mup w 10 (w 9 1) z) 9 1 (w 9 1 + 1))) := by
  refine Mx.intro (by decide) RX4 rfl [some (mvR 9), some (mvI z)] (Nat.le_of_ble_eq_true rfl) rfl (fun K hC => ?_)
  refine wm_aload_n hC 0 (pc := 0) dX4_append_0 rfl rfl ?_
  refine wm_getI hC 9 1 fl_X4_22_3 rfl rfl rfl (pc := 1) dX4_append_1 ?_
  refine wm_bipush hC (pc := 4) dX4_append_4 (by decide) ?_
  refine wm_icmp_ge hC 29 (pc := 6) dX4_append_6 (by decide) (by omega) (by omega) (fun h6 => ?_) (fun h6 => ?_)
  · omega
  · refine wm_aload_n hC 0 (pc := 9) dX4_append_9 rfl rfl ?_
    refine wm_getR hC fl_X4_11_3 rfl rfl (pc := 10) dX4_append_10 ?_
    refine wm_aload_n hC 0 (pc := 13) dX4_append_13 rfl rfl ?_
    refine wm_getI hC 9 1 fl_X4_22_3 rfl rfl rfl (pc := 14) dX4_append_14 ?_
    refine wm_iload_n hC 1 (pc := 17) dX4_append_17 rfl rfl ?_
    refine wm_iastore hC rfl (by omega) (by decide) (pc := 18) dX4_append_18 ?_
    refine wm_aload_n hC 0 (pc := 19) dX4_append_19 rfl rfl ?_
    refine wm_dup hC (pc := 20) dX4_append_20 rfl ?_
    refine wm_getI hC 9 1 fl_X4_22_3 rfl rfl rfl (pc := 21) dX4_append_21 ?_
    rw [mup_ne (show (9 : Nat) ≠ 10 by decide)]
    refine wm_iconst hC (pc := 24) dX4_append_24 ?_
    refine wm_iadd hC (pc := 25) dX4_append_25 ?_
    refine wm_putI hC 9 1 fp_X4_22_3 rfl rfl rfl (pc := 26) dX4_append_26 ?_
    refine wm_retV hC (pc := 29) dX4_append_29 ?_
    rfl
set_option maxRecDepth 100000 in
set_option maxHeartbeats 4000000 in
theorem s_X4_clear {l : Launch} {G : mG} {w : mW}  : Mx l G 0 yX4_clear cX4_clear 1 none [mvR 9] w (qV (fun w' => w' = mup w 9 1 0)) := by
  refine Mx.intro (by decide) RX4 rfl [some (mvR 9)] (Nat.le_of_ble_eq_true rfl) rfl (fun K hC => ?_)
  refine wm_aload_n hC 0 (pc := 0) dX4_clear_0 rfl rfl ?_
  refine wm_iconst hC (pc := 1) dX4_clear_1 ?_
  refine wm_putI hC 9 1 fp_X4_22_3 rfl rfl rfl (pc := 2) dX4_clear_2 ?_
  refine wm_retV hC (pc := 5) dX4_clear_5 ?_
  rfl
set_option maxRecDepth 100000 in
set_option maxHeartbeats 4000000 in
theorem s_X4_draft {l : Launch} {G : mG} {w : mW}  : Mx l G 0 yX4_draft cX4_draft 1 (some (.object "MirroredTalks$Plan")) [mvR 9] w (qP (mvR 11) w) := by
  refine Mx.intro (by decide) RX4 rfl [some (mvR 9)] (Nat.le_of_ble_eq_true rfl) rfl (fun K hC => ?_)
  refine wm_aload_n hC 0 (pc := 0) dX4_draft_0 rfl rfl ?_
  refine wm_getR hC fl_X4_18_3 rfl rfl (pc := 1) dX4_draft_1 ?_
  exact wm_aretP hC (pc := 4) dX4_draft_4 rfl rfl
set_option maxRecDepth 100000 in
set_option maxHeartbeats 4000000 in
theorem s_X4_toldStates {l : Launch} {G : mG} {w : mW} {t : Nat} (ht : w 9 3 = (t : Int)) (h8 : t < 256) : Mx l G 1 yX4_toldStates cX4_toldStates 1 (some .int) [mvR 9] w (qP (mvI ((mpop t : Nat) : Int)) w) := by
  refine Mx.intro (by decide) RX4 rfl [some (mvR 9)] (Nat.le_of_ble_eq_true rfl) rfl (fun K hC => ?_)
  refine wm_aload_n hC 0 (pc := 0) dX4_toldStates_0 rfl rfl ?_
  refine wm_getI hC 9 3 fl_X4_26_3 rfl rfl rfl (pc := 1) dX4_toldStates_1 ?_
  rw [ht]
  refine wm_pS hC cs_X4_29 kc_J6_bitCount_0f7a4 (s_J6_bitCount_0f7a4 h8) rfl (by decide) rfl (Nat.le_of_ble_eq_true rfl) (pc := 4) dX4_toldStates_4 ?_
  refine wm_iretP hC (pc := 7) dX4_toldStates_7 ?_ rfl
  rfl
set_option maxRecDepth 100000 in
set_option maxHeartbeats 4000000 in
theorem s_X4_isFaulty {l : Launch} {G : mG} {w : mW} (hr : 0 ≤ w 9 5 ∧ w 9 5 ≤ 3) : Mx l G 0 yX4_isFaulty cX4_isFaulty 1 (some .boolean) [mvR 9] w (qP (mvI (mb (decide (¬ w 9 5 = 0)))) w) := by
  refine Mx.intro (by decide) RX4 rfl [some (mvR 9)] (Nat.le_of_ble_eq_true rfl) rfl (fun K hC => ?_)
  refine wm_aload_n hC 0 (pc := 0) dX4_isFaulty_0 rfl rfl ?_
  refine wm_getI hC 9 5 fl_X4_35_3 rfl rfl rfl (pc := 1) dX4_isFaulty_1 ?_
  refine wm_if_eq hC 11 (pc := 4) dX4_isFaulty_4 (by decide) (by omega) (fun h4 => ?_) (fun h4 => ?_)
  · refine wm_iconst hC (pc := 11) dX4_isFaulty_11 ?_
    refine wm_zretP hC (pc := 12) dX4_isFaulty_12 ?_ rfl
    first | exact ((mb_0 _).mpr (decide_eq_false (by omega))).symm | exact ((mb_1 _).mpr (decide_eq_true (by omega))).symm
  · refine wm_iconst hC (pc := 7) dX4_isFaulty_7 ?_
    refine wm_goto hC 12 (pc := 8) dX4_isFaulty_8 (by decide) ?_
    refine wm_zretP hC (pc := 12) dX4_isFaulty_12 ?_ rfl
    first | exact ((mb_0 _).mpr (decide_eq_false (by omega))).symm | exact ((mb_1 _).mpr (decide_eq_true (by omega))).symm
set_option maxRecDepth 100000 in
set_option maxHeartbeats 4000000 in
theorem s_X4_faultPosition {l : Launch} {G : mG} {w : mW}  : Mx l G 0 yX4_faultPosition cX4_faultPosition 1 (some .int) [mvR 9] w (qP (mvI (w 9 4)) w) := by
  refine Mx.intro (by decide) RX4 rfl [some (mvR 9)] (Nat.le_of_ble_eq_true rfl) rfl (fun K hC => ?_)
  refine wm_aload_n hC 0 (pc := 0) dX4_faultPosition_0 rfl rfl ?_
  refine wm_getI hC 9 4 fl_X4_38_3 rfl rfl rfl (pc := 1) dX4_faultPosition_1 ?_
  refine wm_iretP hC (pc := 4) dX4_faultPosition_4 ?_ rfl
  rfl
set_option maxRecDepth 100000 in
set_option maxHeartbeats 4000000 in
theorem s_X4_faultReason {l : Launch} {G : mG} {w : mW}  : Mx l G 0 yX4_faultReason cX4_faultReason 1 (some .int) [mvR 9] w (qP (mvI (w 9 5)) w) := by
  refine Mx.intro (by decide) RX4 rfl [some (mvR 9)] (Nat.le_of_ble_eq_true rfl) rfl (fun K hC => ?_)
  refine wm_aload_n hC 0 (pc := 0) dX4_faultReason_0 rfl rfl ?_
  refine wm_getI hC 9 5 fl_X4_35_3 rfl rfl rfl (pc := 1) dX4_faultReason_1 ?_
  refine wm_iretP hC (pc := 4) dX4_faultReason_4 ?_ rfl
  rfl
set_option maxRecDepth 100000 in
set_option maxHeartbeats 4000000 in
theorem s_X4_faultCause {l : Launch} {G : mG} {w : mW}  : Mx l G 0 yX4_faultCause cX4_faultCause 1 (some .int) [mvR 9] w (qP (mvI (w 9 6)) w) := by
  refine Mx.intro (by decide) RX4 rfl [some (mvR 9)] (Nat.le_of_ble_eq_true rfl) rfl (fun K hC => ?_)
  refine wm_aload_n hC 0 (pc := 0) dX4_faultCause_0 rfl rfl ?_
  refine wm_getI hC 9 6 fl_X4_41_3 rfl rfl rfl (pc := 1) dX4_faultCause_1 ?_
  refine wm_iretP hC (pc := 4) dX4_faultCause_4 ?_ rfl
  rfl
set_option maxRecDepth 100000 in
set_option maxHeartbeats 4000000 in
theorem s_X4_setFault {l : Launch} {G : mG} {w : mW} {a b c : Int} : Mx l G 0 yX4_setFault cX4_setFault 4 none [mvR 9, mvI a, mvI b, mvI c] w (qV (fun w' => w' = sfW w a b c)) := by
  refine Mx.intro (by decide) RX4 rfl [some (mvR 9), some (mvI a), some (mvI b), some (mvI c)] (Nat.le_of_ble_eq_true rfl) rfl (fun K hC => ?_)
  refine wm_aload_n hC 0 (pc := 0) dX4_setFault_0 rfl rfl ?_
  refine wm_iload_n hC 1 (pc := 1) dX4_setFault_1 rfl rfl ?_
  refine wm_putI hC 9 4 fp_X4_38_3 rfl rfl rfl (pc := 2) dX4_setFault_2 ?_
  refine wm_aload_n hC 0 (pc := 5) dX4_setFault_5 rfl rfl ?_
  refine wm_iload_n hC 2 (pc := 6) dX4_setFault_6 rfl rfl ?_
  refine wm_putI hC 9 5 fp_X4_35_3 rfl rfl rfl (pc := 7) dX4_setFault_7 ?_
  refine wm_aload_n hC 0 (pc := 10) dX4_setFault_10 rfl rfl ?_
  refine wm_iload_n hC 3 (pc := 11) dX4_setFault_11 rfl rfl ?_
  refine wm_putI hC 9 6 fp_X4_41_3 rfl rfl rfl (pc := 12) dX4_setFault_12 ?_
  refine wm_retV hC (pc := 15) dX4_setFault_15 ?_
  rfl
set_option maxRecDepth 100000 in
set_option maxHeartbeats 4000000 in
theorem s_X4_characterAt {l : Launch} {G : mG} {w : mW} {i : Int} (hr : 0 ≤ w 9 1 ∧ w 9 1 ≤ 80) (hi : -1000000 ≤ i ∧ i ≤ 1000000) : Mx l G 1 yX4_characterAt cX4_characterAt 2 (some .int) [mvR 9, mvI i] w (qP (mvI (chF w i)) w) := by
  refine Mx.intro (by decide) RX4 rfl [some (mvR 9), some (mvI i)] (Nat.le_of_ble_eq_true rfl) rfl (fun K hC => ?_)
  refine wm_iload_n hC 1 (pc := 0) dX4_characterAt_0 rfl rfl ?_
  refine wm_aload_n hC 0 (pc := 1) dX4_characterAt_1 rfl rfl ?_
  refine wm_getI hC 9 1 fl_X4_22_3 rfl rfl rfl (pc := 2) dX4_characterAt_2 ?_
  refine wm_icmp_ge hC 19 (pc := 5) dX4_characterAt_5 (by decide) (by omega) (by omega) (fun h5 => ?_) (fun h5 => ?_)
  · refine wm_iconst hC (pc := 19) dX4_characterAt_19 ?_
    refine wm_iretP hC (pc := 20) dX4_characterAt_20 ?_ rfl
    unfold chF
    first | rw [if_neg (by omega)] | (rw [if_pos h5]; rfl)
  · refine wm_aload_n hC 0 (pc := 8) dX4_characterAt_8 rfl rfl ?_
    refine wm_getR hC fl_X4_11_3 rfl rfl (pc := 9) dX4_characterAt_9 ?_
    refine wm_iload_n hC 1 (pc := 12) dX4_characterAt_12 rfl rfl ?_
    refine wm_pN hC cn_X4_86 kc_X8_cellOf (s_X8_cellOf rfl (by decide) (by omega)) rfl (by decide) rfl (Nat.le_of_ble_eq_true rfl) (pc := 13) dX4_characterAt_13 ?_
    refine wm_goto hC 20 (pc := 16) dX4_characterAt_16 (by decide) ?_
    refine wm_iretP hC (pc := 20) dX4_characterAt_20 ?_ rfl
    unfold chF
    first | rw [if_neg (by omega)] | (rw [if_pos h5]; rfl)
set_option maxRecDepth 100000 in
set_option maxHeartbeats 4000000 in
theorem s_X4_after {l : Launch} {G : mG} {w : mW} {e ch : Int} (he : 0 ≤ e ∧ e ≤ 6) (hc : -1 ≤ ch ∧ ch < 256) : Mx l G 1 yX4_after cX4_after 2 (some .int) [mvI e, mvI ch] w (qP (mvI (aftF e ch)) w) := by
  refine Mx.intro (by decide) RX4 rfl [some (mvI e), some (mvI ch)] (Nat.le_of_ble_eq_true rfl) rfl (fun K hC => ?_)
  refine wm_iload_n hC 0 (pc := 0) dX4_after_0 rfl rfl ?_
  by_cases sw1_0 : e = 0
  · refine wm_tableIn hC 36 (0) (pc := 1) dX4_after_1 sw1_0 (by decide) rfl (by decide) ?_
    refine wm_iload_n hC 1 (pc := 36) dX4_after_36 rfl rfl ?_
    refine wm_bipush hC (pc := 37) dX4_after_37 (by decide) ?_
    refine wm_isub hC (pc := 39) dX4_after_39 ?_
    refine wm_pN hC cn_X4_66 kc_X8_isState (s_X8_isState (by omega)) rfl (by decide) rfl (Nat.le_of_ble_eq_true rfl) (pc := 40) dX4_after_40 ?_
    refine wm_ifd_eq hC 50 (pc := 43) dX4_after_43 (by decide) (fun h43 => ?_) (fun h43 => ?_)
    · refine wm_bipush hC (pc := 50) dX4_after_50 (by decide) ?_
      refine wm_iretP hC (pc := 52) dX4_after_52 ?_ rfl
      unfold aftF
      (repeat' split) <;> omega
    · refine wm_iconst hC (pc := 46) dX4_after_46 ?_
      refine wm_goto hC 52 (pc := 47) dX4_after_47 (by decide) ?_
      refine wm_iretP hC (pc := 52) dX4_after_52 ?_ rfl
      unfold aftF
      (repeat' split) <;> omega
  by_cases sw1_1 : e = 1
  · refine wm_tableIn hC 53 (1) (pc := 1) dX4_after_1 sw1_1 (by decide) rfl (by decide) ?_
    refine wm_iload_n hC 1 (pc := 53) dX4_after_53 rfl rfl ?_
    refine wm_bipush hC (pc := 54) dX4_after_54 (by decide) ?_
    refine wm_icmp_ne hC 63 (pc := 56) dX4_after_56 (by decide) (by omega) (by omega) (fun h56 => ?_) (fun h56 => ?_)
    · refine wm_iload_n hC 1 (pc := 63) dX4_after_63 rfl rfl ?_
      refine wm_bipush hC (pc := 64) dX4_after_64 (by decide) ?_
      refine wm_icmp_eq hC 75 (pc := 66) dX4_after_66 (by decide) (by omega) (by omega) (fun h66 => ?_) (fun h66 => ?_)
      · refine wm_iconst hC (pc := 75) dX4_after_75 ?_
        refine wm_goto hC 81 (pc := 76) dX4_after_76 (by decide) ?_
        refine wm_iretP hC (pc := 81) dX4_after_81 ?_ rfl
        unfold aftF
        (repeat' split) <;> omega
      · refine wm_iload_n hC 1 (pc := 69) dX4_after_69 rfl rfl ?_
        refine wm_bipush hC (pc := 70) dX4_after_70 (by decide) ?_
        refine wm_icmp_ne hC 79 (pc := 72) dX4_after_72 (by decide) (by omega) (by omega) (fun h72 => ?_) (fun h72 => ?_)
        · refine wm_bipush hC (pc := 79) dX4_after_79 (by decide) ?_
          refine wm_iretP hC (pc := 81) dX4_after_81 ?_ rfl
          unfold aftF
          (repeat' split) <;> omega
        · refine wm_iconst hC (pc := 75) dX4_after_75 ?_
          refine wm_goto hC 81 (pc := 76) dX4_after_76 (by decide) ?_
          refine wm_iretP hC (pc := 81) dX4_after_81 ?_ rfl
          unfold aftF
          (repeat' split) <;> omega
    · refine wm_iconst hC (pc := 59) dX4_after_59 ?_
      refine wm_goto hC 81 (pc := 60) dX4_after_60 (by decide) ?_
      refine wm_iretP hC (pc := 81) dX4_after_81 ?_ rfl
      unfold aftF
      (repeat' split) <;> omega
  by_cases sw1_2 : e = 2
  · refine wm_tableIn hC 82 (2) (pc := 1) dX4_after_1 sw1_2 (by decide) rfl (by decide) ?_
    refine wm_iload_n hC 1 (pc := 82) dX4_after_82 rfl rfl ?_
    refine wm_bipush hC (pc := 83) dX4_after_83 (by decide) ?_
    refine wm_icmp_ne hC 92 (pc := 85) dX4_after_85 (by decide) (by omega) (by omega) (fun h85 => ?_) (fun h85 => ?_)
    · refine wm_bipush hC (pc := 92) dX4_after_92 (by decide) ?_
      refine wm_iretP hC (pc := 94) dX4_after_94 ?_ rfl
      unfold aftF
      (repeat' split) <;> omega
    · refine wm_iconst hC (pc := 88) dX4_after_88 ?_
      refine wm_goto hC 94 (pc := 89) dX4_after_89 (by decide) ?_
      refine wm_iretP hC (pc := 94) dX4_after_94 ?_ rfl
      unfold aftF
      (repeat' split) <;> omega
  by_cases sw1_3 : e = 3
  · refine wm_tableIn hC 95 (3) (pc := 1) dX4_after_1 sw1_3 (by decide) rfl (by decide) ?_
    refine wm_iload_n hC 1 (pc := 95) dX4_after_95 rfl rfl ?_
    refine wm_bipush hC (pc := 96) dX4_after_96 (by decide) ?_
    refine wm_icmp_ne hC 105 (pc := 98) dX4_after_98 (by decide) (by omega) (by omega) (fun h98 => ?_) (fun h98 => ?_)
    · refine wm_iload_n hC 1 (pc := 105) dX4_after_105 rfl rfl ?_
      refine wm_bipush hC (pc := 106) dX4_after_106 (by decide) ?_
      refine wm_isub hC (pc := 108) dX4_after_108 ?_
      refine wm_pN hC cn_X4_70 kc_X8_isWord (s_X8_isWord (by omega)) rfl (by decide) rfl (Nat.le_of_ble_eq_true rfl) (pc := 109) dX4_after_109 ?_
      refine wm_ifd_eq hC 119 (pc := 112) dX4_after_112 (by decide) (fun h112 => ?_) (fun h112 => ?_)
      · refine wm_bipush hC (pc := 119) dX4_after_119 (by decide) ?_
        refine wm_iretP hC (pc := 121) dX4_after_121 ?_ rfl
        unfold aftF
        (repeat' split) <;> omega
      · refine wm_iconst hC (pc := 115) dX4_after_115 ?_
        refine wm_goto hC 121 (pc := 116) dX4_after_116 (by decide) ?_
        refine wm_iretP hC (pc := 121) dX4_after_121 ?_ rfl
        unfold aftF
        (repeat' split) <;> omega
    · refine wm_iconst hC (pc := 101) dX4_after_101 ?_
      refine wm_goto hC 121 (pc := 102) dX4_after_102 (by decide) ?_
      refine wm_iretP hC (pc := 121) dX4_after_121 ?_ rfl
      unfold aftF
      (repeat' split) <;> omega
  by_cases sw1_4 : e = 4
  · refine wm_tableIn hC 122 (4) (pc := 1) dX4_after_1 sw1_4 (by decide) rfl (by decide) ?_
    refine wm_iload_n hC 1 (pc := 122) dX4_after_122 rfl rfl ?_
    refine wm_bipush hC (pc := 123) dX4_after_123 (by decide) ?_
    refine wm_isub hC (pc := 125) dX4_after_125 ?_
    refine wm_pN hC cn_X4_66 kc_X8_isState (s_X8_isState (by omega)) rfl (by decide) rfl (Nat.le_of_ble_eq_true rfl) (pc := 126) dX4_after_126 ?_
    refine wm_ifd_eq hC 136 (pc := 129) dX4_after_129 (by decide) (fun h129 => ?_) (fun h129 => ?_)
    · refine wm_bipush hC (pc := 136) dX4_after_136 (by decide) ?_
      refine wm_iretP hC (pc := 138) dX4_after_138 ?_ rfl
      unfold aftF
      (repeat' split) <;> omega
    · refine wm_iconst hC (pc := 132) dX4_after_132 ?_
      refine wm_goto hC 138 (pc := 133) dX4_after_133 (by decide) ?_
      refine wm_iretP hC (pc := 138) dX4_after_138 ?_ rfl
      unfold aftF
      (repeat' split) <;> omega
  refine wm_tableOut hC 139 (pc := 1) dX4_after_1 (by decide) (by omega) (by omega) ?_
  refine wm_bipush hC (pc := 139) dX4_after_139 (by decide) ?_
  refine wm_iretP hC (pc := 141) dX4_after_141 ?_ rfl
  unfold aftF
  (repeat' split) <;> omega
theorem pclr_ne {w : mW} {p a : Nat} {m : Int} (h : a ≠ p + 1) : pclr w p m a = w a := by funext b; unfold pclr; rw [if_neg (fun q => h q.1)]
theorem p0_TV (w : mW) : TV w (sfW (mup (pclr w 11 56) 9 3 0) (-1) 0 (-1)) T0 := by
  refine ⟨fun a h9 h12 => ?_, ?_, ?_, fun b h1 h2 => ?_, ?_, ?_, ?_⟩
  · unfold sfW; rw [mup_ne h9, mup_ne h9, mup_ne h9, mup_ne h9, pclr_ne h12]
  · have e : pclr w 11 56 9 = w 9 := pclr_ne (by decide)
    simp [sfW, mup, e]
  · simp [sfW, mup, T0]
  · unfold sfW; rw [mup_ne (by decide), mup_ne (by decide), mup_ne (by decide), mup_ne (by decide)]
    unfold pclr; rw [if_pos (by omega)]; rfl
  · simp [sfW, mup, T0]
  · simp [sfW, mup, T0]
  · simp [sfW, mup, T0]
set_option maxRecDepth 100000 in
set_option maxHeartbeats 600000 in
theorem s_X4_takeState {l : Launch} {G : mG} {w : mW} {w0 : mW} {T : Tx} {s x : Int} (hT : TV w0 w T) (hO : TOK T) (hw9 : 0 ≤ w0 9 1 ∧ w0 9 1 ≤ 80) (hs : 0 ≤ s) (hx : x < 81) (hR : RdI (chF w0) s 5 x) : Mx l G 2 yX4_takeState cX4_takeState 7 none [mvR 9, mvI s, mvI x] w (qV (fun w' => TV w0 w' (tkP (chF w0) s x T) ∧ TOK (tkP (chF w0) s x T))) := by
  refine Mx.intro (by decide) RX4 rfl [some (mvR 9), some (mvI s), some (mvI x), none, none, none, none] (Nat.le_of_ble_eq_true rfl) rfl (fun K hC => ?_)
  obtain ⟨hTa, hTl, hT3, hTd, hT4, hT5, hT6⟩ := id hT
  obtain ⟨hR0, hR⟩ := hR
  obtain ⟨hs2, hpar, h59, hkd, hall⟩ : s + 2 ≤ x ∧ (x - s) % 2 = 0 ∧ chF w0 x = 59 ∧ ((chF w0 (s + 1) = 46 ∧ x = s + 2) ∨ chF w0 (s + 1) = 33 ∨ chF w0 (s + 1) = 63) ∧ ∀ a : Int, s + 2 ≤ a → (a - s) % 2 = 0 → a < x → (0 ≤ chF w0 a - 97 ∧ chF w0 a - 97 < 6) ∧ (0 ≤ chF w0 (a + 1) - 48 ∧ chF w0 (a + 1) - 48 < 8) := by
    rcases hR with hq | hq | hq | hq
    · omega
    · omega
    · omega
    · exact hq.2
  have hcs : chF w = chF w0 := chF_congr hTl (hTa 10 (by decide) (by decide))
  obtain ⟨t, ht⟩ : ∃ t : Nat, chF w0 s - 48 = (t : Int) := ⟨(chF w0 s - 48).toNat, by omega⟩
  rw [ht] at hR0
  have etk : tkP (chF w0) s x T = if T.1.testBit t then tF T s 2 (-1) else (tkA (chF w0) (t : Int) s ((x - s - 2) / 2).toNat (s + 2) (T.1 ||| 2 ^ t, iup T.2.1 ((t : Int) * 7) (kdC (chF w0 (s + 1))), T.2.2)) := by
    unfold tkP
    rw [ht, Int.toNat_natCast]
  refine wm_aload_n hC 0 (pc := 0) dX4_takeState_0 rfl rfl ?_
  refine wm_iload_n hC 1 (pc := 1) dX4_takeState_1 rfl rfl ?_
  refine wm_pV hC cv_X4_55 kc_X4_characterAt rfl rfl (s_X4_characterAt (by rw [hTl]; exact hw9) (by omega)) rfl (by decide) rfl (Nat.le_of_ble_eq_true rfl) (pc := 2) dX4_takeState_2 ?_
  rw [hcs]
  refine wm_bipush hC (pc := 5) dX4_takeState_5 (by decide) ?_
  refine wm_isub hC (pc := 7) dX4_takeState_7 ?_
  refine wm_istore_n hC 3 (pc := 8) dX4_takeState_8 rfl (by decide) rfl ?_
  rw [ht]
  refine wm_aload_n hC 0 (pc := 9) dX4_takeState_9 rfl rfl ?_
  refine wm_getI hC 9 3 fl_X4_26_3 rfl rfl rfl (pc := 10) dX4_takeState_10 ?_
  refine wm_iload_n hC 3 (pc := 13) dX4_takeState_13 rfl rfl ?_
  rw [hT3]
  refine wm_pN hC cn_X4_73 kc_X8_holds (s_X8_holds (Nat.lt_of_lt_of_le hO.1 (by decide)) (by omega)) rfl (by decide) rfl (Nat.le_of_ble_eq_true rfl) (pc := 14) dX4_takeState_14 ?_
  refine wm_ifb_eq hC 28 (pc := 17) dX4_takeState_17 (by decide) (fun h17 => ?_) (fun h17 => ?_)
  · have e : tkP (chF w0) s x T = (tkA (chF w0) (t : Int) s ((x - s - 2) / 2).toNat (s + 2) (T.1 ||| 2 ^ t, iup T.2.1 ((t : Int) * 7) (kdC (chF w0 (s + 1))), T.2.2)) := by rw [etk, h17]; rfl
    have h8 : (T.1 ||| 2 ^ t) < 256 := Nat.or_lt_two_pow (n := 8) hO.1 (Nat.pow_lt_pow_right (by decide) (by omega))
    refine wm_aload_n hC 0 (pc := 28) dX4_takeState_28 rfl rfl ?_
    refine wm_dup hC (pc := 29) dX4_takeState_29 rfl ?_
    refine wm_getI hC 9 3 fl_X4_26_3 rfl rfl rfl (pc := 30) dX4_takeState_30 ?_
    refine wm_iconst hC (pc := 33) dX4_takeState_33 ?_
    refine wm_iload_n hC 3 (pc := 34) dX4_takeState_34 rfl rfl ?_
    refine wm_ishl1 hC t (pc := 35) dX4_takeState_35 rfl (by omega) ?_
    refine wm_ior hC T.1 (2 ^ t) (pc := 36) dX4_takeState_36 hT3 rfl ?_
    refine wm_putI hC 9 3 fp_X4_26_3 rfl rfl rfl (pc := 37) dX4_takeState_37 ?_
    have hVt := hT.told (T.1 ||| 2 ^ t)
    have hTl2 := hVt.2.1
    refine wm_aload_n hC 0 (pc := 40) dX4_takeState_40 rfl rfl ?_
    refine wm_iload_n hC 1 (pc := 41) dX4_takeState_41 rfl rfl ?_
    refine wm_iconst hC (pc := 42) dX4_takeState_42 ?_
    refine wm_iadd hC (pc := 43) dX4_takeState_43 ?_
    refine wm_pV hC cv_X4_55 kc_X4_characterAt rfl rfl (s_X4_characterAt (by rw [hTl2]; exact hw9) (by omega)) rfl (by decide) rfl (Nat.le_of_ble_eq_true rfl) (pc := 44) dX4_takeState_44 ?_
    rw [chF_congr (w := w0) hTl2 (by rw [mup_ne (by decide)]; exact hTa 10 (by decide) (by decide))]
    have hkr : chF w0 (s + 1) = 46 ∨ chF w0 (s + 1) = 33 ∨ chF w0 (s + 1) = 63 := by omega
    refine wm_istore hC  (pc := 47) dX4_takeState_47  (by decide) rfl ?_
    refine wm_aload_n hC 0 (pc := 49) dX4_takeState_49 rfl rfl ?_
    refine wm_getR hC fl_X4_18_3 rfl rfl (pc := 50) dX4_takeState_50 ?_
    refine wm_iload_n hC 3 (pc := 53) dX4_takeState_53 rfl rfl ?_
    refine wm_iload hC  (pc := 54) dX4_takeState_54 rfl ?_
    refine wm_bipush hC (pc := 56) dX4_takeState_56 (by decide) ?_
    refine wm_icmp_ne hC 65 (pc := 58) dX4_takeState_58 (by decide) (by omega) (by omega) (fun h58 => ?_) (fun h58 => ?_)
    · refine wm_iload hC  (pc := 65) dX4_takeState_65 rfl ?_
      refine wm_bipush hC (pc := 67) dX4_takeState_67 (by decide) ?_
      refine wm_icmp_ne hC 76 (pc := 69) dX4_takeState_69 (by decide) (by omega) (by omega) (fun h69 => ?_) (fun h69 => ?_)
      · have ek : kdC (chF w0 (s + 1)) = 2 := by unfold kdC; rw [if_neg h58, if_neg h69]
        refine wm_iconst hC (pc := 76) dX4_takeState_76 ?_
        refine wm_vV hC cv_X4_77 kc_X3_setKind rfl rfl (s_X3_setKind planIx11 (by omega)) rfl (by decide) rfl (Nat.le_of_ble_eq_true rfl) (pc := 77) dX4_takeState_77 (fun w77 hw77 => ?_)
        subst hw77
        have hV1 := hVt.draft ((t : Int) * 7) (kdC (chF w0 (s + 1)))
        rw [ek] at hV1
        have hO1 : TOK (T.1 ||| 2 ^ t, iup T.2.1 ((t : Int) * 7) (kdC (chF w0 (s + 1))), T.2.2) := ⟨h8, hO.2.1.kind hR0 (by unfold kdC; (repeat' split) <;> omega), hO.2.2⟩
        rw [ek] at hO1
        refine wm_iload_n hC 1 (pc := 80) dX4_takeState_80 rfl rfl ?_
        refine wm_iconst hC (pc := 81) dX4_takeState_81 ?_
        refine wm_iadd hC (pc := 82) dX4_takeState_82 ?_
        refine wm_istore hC  (pc := 83) dX4_takeState_83  (by decide) rfl ?_
        have lp85 : ∀ (n : Nat) (a : Int) (v : mW) (T2 : Tx) (o6 : Option mV), n = ((x - a) / 2).toNat → s + 2 ≤ a → (a - s) % 2 = 0 → a ≤ x → TV w0 v T2 → TOK T2 → tkP (chF w0) s x T = tkA (chF w0) (t : Int) s ((x - a) / 2).toNat a T2 → Wm l G K 2 7 (qV (fun w' => TV w0 w' (tkP (chF w0) s x T) ∧ TOK (tkP (chF w0) s x T))) 85 [some (mvR 9), some (mvI s), some (mvI x), some (mvI (t : Int)), some (mvI (chF w0 (s + 1))), some (mvI a), o6] [] v := by
          intro n
          induction n using Nat.strongRecOn with
          | _ n ih =>
          intro a v T2 o6 hn ha1 ha2 ha3 hV hO2 he
          refine wm_iload hC  (pc := 85) dX4_takeState_85 rfl ?_
          refine wm_iload_n hC 2 (pc := 87) dX4_takeState_87 rfl rfl ?_
          refine wm_icmp_ge hC 152 (pc := 88) dX4_takeState_88 (by decide) (by omega) (by omega) (fun h88 => ?_) (fun h88 => ?_)
          · refine wm_retV hC (pc := 152) dX4_takeState_152 ?_
            have : x = a := by omega
            subst this
            rw [he, show ((x - x) / 2).toNat = 0 by omega]
            exact ⟨hV, hO2⟩
          · refine wm_aload_n hC 0 (pc := 91) dX4_takeState_91 rfl rfl ?_
            refine wm_iload hC  (pc := 92) dX4_takeState_92 rfl ?_
            refine wm_pV hC cv_X4_55 kc_X4_characterAt rfl rfl (s_X4_characterAt (by rw [hV.2.1]; exact hw9) (by omega)) rfl (by decide) rfl (Nat.le_of_ble_eq_true rfl) (pc := 94) dX4_takeState_94 ?_
            rw [chF_congr hV.2.1 (hV.1 10 (by decide) (by decide))]
            have ha := hall a ha1 ha2 h88
            refine wm_bipush hC (pc := 97) dX4_takeState_97 (by decide) ?_
            refine wm_isub hC (pc := 99) dX4_takeState_99 ?_
            refine wm_istore hC  (pc := 100) dX4_takeState_100  (by decide) rfl ?_
            refine wm_aload_n hC 0 (pc := 102) dX4_takeState_102 rfl rfl ?_
            refine wm_getR hC fl_X4_18_3 rfl rfl (pc := 103) dX4_takeState_103 ?_
            refine wm_iload_n hC 3 (pc := 106) dX4_takeState_106 rfl rfl ?_
            refine wm_iload hC  (pc := 107) dX4_takeState_107 rfl ?_
            refine wm_pV hC cv_X4_80 kc_X3_targetOf rfl rfl (s_X3_targetOf planIx11 (by omega) (by omega)) rfl (by decide) rfl (Nat.le_of_ble_eq_true rfl) (pc := 109) dX4_takeState_109 ?_
            refine wm_iconst hC (pc := 112) dX4_takeState_112 ?_
            refine wm_icmp_eq hC 125 (pc := 113) dX4_takeState_113 (by decide) (by have := (hV.plan hO2 (t : Int) hR0.1 hR0.2).2 (chF w0 a - 97) (by omega) (by omega); omega) (by omega) (fun h113 => ?_) (fun h113 => ?_)
            · have hD : T2.2.1 ((t : Int) * 7 + 1 + (chF w0 a - 97)) = -1 := by rw [← hV.2.2.2.1 _ (by omega) (by omega)]; exact h113
              refine wm_aload_n hC 0 (pc := 125) dX4_takeState_125 rfl rfl ?_
              refine wm_getR hC fl_X4_18_3 rfl rfl (pc := 126) dX4_takeState_126 ?_
              refine wm_iload_n hC 3 (pc := 129) dX4_takeState_129 rfl rfl ?_
              refine wm_iload hC  (pc := 130) dX4_takeState_130 rfl ?_
              refine wm_aload_n hC 0 (pc := 132) dX4_takeState_132 rfl rfl ?_
              refine wm_iload hC  (pc := 133) dX4_takeState_133 rfl ?_
              refine wm_iconst hC (pc := 135) dX4_takeState_135 ?_
              refine wm_iadd hC (pc := 136) dX4_takeState_136 ?_
              refine wm_pV hC cv_X4_55 kc_X4_characterAt rfl rfl (s_X4_characterAt (by rw [hV.2.1]; exact hw9) (by omega)) rfl (by decide) rfl (Nat.le_of_ble_eq_true rfl) (pc := 137) dX4_takeState_137 ?_
              rw [chF_congr hV.2.1 (hV.1 10 (by decide) (by decide))]
              refine wm_bipush hC (pc := 140) dX4_takeState_140 (by decide) ?_
              refine wm_isub hC (pc := 142) dX4_takeState_142 ?_
              refine wm_vV hC cv_X4_83 kc_X3_setTarget rfl rfl (s_X3_setTarget planIx11 (by omega) (by omega)) rfl (by decide) rfl (Nat.le_of_ble_eq_true rfl) (pc := 143) dX4_takeState_143 (fun w143 hw143 => ?_)
              subst hw143
              refine wm_iinc hC (pc := 146) dX4_takeState_146 rfl rfl (by decide) rfl ?_
              refine wm_goto hC 85 (pc := 149) dX4_takeState_149 (by decide) ?_
              refine ih _ (by omega) (a + 2) _ (T2.1, iup T2.2.1 ((t : Int) * 7 + 1 + (chF w0 a - 97)) (chF w0 (a + 1) - 48), T2.2.2) _ rfl (by omega) (by omega) (by omega) (hV.draft _ _) ⟨hO2.1, hO2.2.1.target hR0 ha.1 (by omega), hO2.2.2⟩ ?_
              rw [he, show ((x - a) / 2).toNat = ((x - (a + 2)) / 2).toNat + 1 by omega]
              show (if _ then _ else _) = _
              rw [if_neg (fun q => q hD)]
            · have hD : ¬ T2.2.1 ((t : Int) * 7 + 1 + (chF w0 a - 97)) = -1 := by rw [← hV.2.2.2.1 _ (by omega) (by omega)]; exact h113
              have eF : tkP (chF w0) s x T = tF T2 s 3 (chF w0 a - 97) := by
                rw [he, show ((x - a) / 2).toNat = ((x - (a + 2)) / 2).toNat + 1 by omega]
                exact if_pos hD
              refine wm_aload_n hC 0 (pc := 116) dX4_takeState_116 rfl rfl ?_
              refine wm_iload_n hC 1 (pc := 117) dX4_takeState_117 rfl rfl ?_
              refine wm_iconst hC (pc := 118) dX4_takeState_118 ?_
              refine wm_iload hC  (pc := 119) dX4_takeState_119 rfl ?_
              refine wm_vV hC cv_X4_47 kc_X4_setFault rfl rfl (s_X4_setFault) rfl (by decide) rfl (Nat.le_of_ble_eq_true rfl) (pc := 121) dX4_takeState_121 (fun w121 hw121 => ?_)
              subst hw121
              refine wm_retV hC (pc := 124) dX4_takeState_124 ?_
              rw [eF]
              exact ⟨hV.fault _ _ _, hO2.fault (by omega) (by omega) (by omega)⟩
        exact lp85 _ (s + 2) _ _ none rfl (by omega) (by omega) (by omega) hV1 hO1 (by rw [e, ek, show x - (s + 2) = x - s - 2 by omega])
      · have ek : kdC (chF w0 (s + 1)) = 1 := by unfold kdC; rw [if_neg h58, if_pos h69]
        refine wm_iconst hC (pc := 72) dX4_takeState_72 ?_
        refine wm_goto hC 77 (pc := 73) dX4_takeState_73 (by decide) ?_
        refine wm_vV hC cv_X4_77 kc_X3_setKind rfl rfl (s_X3_setKind planIx11 (by omega)) rfl (by decide) rfl (Nat.le_of_ble_eq_true rfl) (pc := 77) dX4_takeState_77 (fun w77 hw77 => ?_)
        subst hw77
        have hV1 := hVt.draft ((t : Int) * 7) (kdC (chF w0 (s + 1)))
        rw [ek] at hV1
        have hO1 : TOK (T.1 ||| 2 ^ t, iup T.2.1 ((t : Int) * 7) (kdC (chF w0 (s + 1))), T.2.2) := ⟨h8, hO.2.1.kind hR0 (by unfold kdC; (repeat' split) <;> omega), hO.2.2⟩
        rw [ek] at hO1
        refine wm_iload_n hC 1 (pc := 80) dX4_takeState_80 rfl rfl ?_
        refine wm_iconst hC (pc := 81) dX4_takeState_81 ?_
        refine wm_iadd hC (pc := 82) dX4_takeState_82 ?_
        refine wm_istore hC  (pc := 83) dX4_takeState_83  (by decide) rfl ?_
        have lp85 : ∀ (n : Nat) (a : Int) (v : mW) (T2 : Tx) (o6 : Option mV), n = ((x - a) / 2).toNat → s + 2 ≤ a → (a - s) % 2 = 0 → a ≤ x → TV w0 v T2 → TOK T2 → tkP (chF w0) s x T = tkA (chF w0) (t : Int) s ((x - a) / 2).toNat a T2 → Wm l G K 2 7 (qV (fun w' => TV w0 w' (tkP (chF w0) s x T) ∧ TOK (tkP (chF w0) s x T))) 85 [some (mvR 9), some (mvI s), some (mvI x), some (mvI (t : Int)), some (mvI (chF w0 (s + 1))), some (mvI a), o6] [] v := by
          intro n
          induction n using Nat.strongRecOn with
          | _ n ih =>
          intro a v T2 o6 hn ha1 ha2 ha3 hV hO2 he
          refine wm_iload hC  (pc := 85) dX4_takeState_85 rfl ?_
          refine wm_iload_n hC 2 (pc := 87) dX4_takeState_87 rfl rfl ?_
          refine wm_icmp_ge hC 152 (pc := 88) dX4_takeState_88 (by decide) (by omega) (by omega) (fun h88 => ?_) (fun h88 => ?_)
          · refine wm_retV hC (pc := 152) dX4_takeState_152 ?_
            have : x = a := by omega
            subst this
            rw [he, show ((x - x) / 2).toNat = 0 by omega]
            exact ⟨hV, hO2⟩
          · refine wm_aload_n hC 0 (pc := 91) dX4_takeState_91 rfl rfl ?_
            refine wm_iload hC  (pc := 92) dX4_takeState_92 rfl ?_
            refine wm_pV hC cv_X4_55 kc_X4_characterAt rfl rfl (s_X4_characterAt (by rw [hV.2.1]; exact hw9) (by omega)) rfl (by decide) rfl (Nat.le_of_ble_eq_true rfl) (pc := 94) dX4_takeState_94 ?_
            rw [chF_congr hV.2.1 (hV.1 10 (by decide) (by decide))]
            have ha := hall a ha1 ha2 h88
            refine wm_bipush hC (pc := 97) dX4_takeState_97 (by decide) ?_
            refine wm_isub hC (pc := 99) dX4_takeState_99 ?_
            refine wm_istore hC  (pc := 100) dX4_takeState_100  (by decide) rfl ?_
            refine wm_aload_n hC 0 (pc := 102) dX4_takeState_102 rfl rfl ?_
            refine wm_getR hC fl_X4_18_3 rfl rfl (pc := 103) dX4_takeState_103 ?_
            refine wm_iload_n hC 3 (pc := 106) dX4_takeState_106 rfl rfl ?_
            refine wm_iload hC  (pc := 107) dX4_takeState_107 rfl ?_
            refine wm_pV hC cv_X4_80 kc_X3_targetOf rfl rfl (s_X3_targetOf planIx11 (by omega) (by omega)) rfl (by decide) rfl (Nat.le_of_ble_eq_true rfl) (pc := 109) dX4_takeState_109 ?_
            refine wm_iconst hC (pc := 112) dX4_takeState_112 ?_
            refine wm_icmp_eq hC 125 (pc := 113) dX4_takeState_113 (by decide) (by have := (hV.plan hO2 (t : Int) hR0.1 hR0.2).2 (chF w0 a - 97) (by omega) (by omega); omega) (by omega) (fun h113 => ?_) (fun h113 => ?_)
            · have hD : T2.2.1 ((t : Int) * 7 + 1 + (chF w0 a - 97)) = -1 := by rw [← hV.2.2.2.1 _ (by omega) (by omega)]; exact h113
              refine wm_aload_n hC 0 (pc := 125) dX4_takeState_125 rfl rfl ?_
              refine wm_getR hC fl_X4_18_3 rfl rfl (pc := 126) dX4_takeState_126 ?_
              refine wm_iload_n hC 3 (pc := 129) dX4_takeState_129 rfl rfl ?_
              refine wm_iload hC  (pc := 130) dX4_takeState_130 rfl ?_
              refine wm_aload_n hC 0 (pc := 132) dX4_takeState_132 rfl rfl ?_
              refine wm_iload hC  (pc := 133) dX4_takeState_133 rfl ?_
              refine wm_iconst hC (pc := 135) dX4_takeState_135 ?_
              refine wm_iadd hC (pc := 136) dX4_takeState_136 ?_
              refine wm_pV hC cv_X4_55 kc_X4_characterAt rfl rfl (s_X4_characterAt (by rw [hV.2.1]; exact hw9) (by omega)) rfl (by decide) rfl (Nat.le_of_ble_eq_true rfl) (pc := 137) dX4_takeState_137 ?_
              rw [chF_congr hV.2.1 (hV.1 10 (by decide) (by decide))]
              refine wm_bipush hC (pc := 140) dX4_takeState_140 (by decide) ?_
              refine wm_isub hC (pc := 142) dX4_takeState_142 ?_
              refine wm_vV hC cv_X4_83 kc_X3_setTarget rfl rfl (s_X3_setTarget planIx11 (by omega) (by omega)) rfl (by decide) rfl (Nat.le_of_ble_eq_true rfl) (pc := 143) dX4_takeState_143 (fun w143 hw143 => ?_)
              subst hw143
              refine wm_iinc hC (pc := 146) dX4_takeState_146 rfl rfl (by decide) rfl ?_
              refine wm_goto hC 85 (pc := 149) dX4_takeState_149 (by decide) ?_
              refine ih _ (by omega) (a + 2) _ (T2.1, iup T2.2.1 ((t : Int) * 7 + 1 + (chF w0 a - 97)) (chF w0 (a + 1) - 48), T2.2.2) _ rfl (by omega) (by omega) (by omega) (hV.draft _ _) ⟨hO2.1, hO2.2.1.target hR0 ha.1 (by omega), hO2.2.2⟩ ?_
              rw [he, show ((x - a) / 2).toNat = ((x - (a + 2)) / 2).toNat + 1 by omega]
              show (if _ then _ else _) = _
              rw [if_neg (fun q => q hD)]
            · have hD : ¬ T2.2.1 ((t : Int) * 7 + 1 + (chF w0 a - 97)) = -1 := by rw [← hV.2.2.2.1 _ (by omega) (by omega)]; exact h113
              have eF : tkP (chF w0) s x T = tF T2 s 3 (chF w0 a - 97) := by
                rw [he, show ((x - a) / 2).toNat = ((x - (a + 2)) / 2).toNat + 1 by omega]
                exact if_pos hD
              refine wm_aload_n hC 0 (pc := 116) dX4_takeState_116 rfl rfl ?_
              refine wm_iload_n hC 1 (pc := 117) dX4_takeState_117 rfl rfl ?_
              refine wm_iconst hC (pc := 118) dX4_takeState_118 ?_
              refine wm_iload hC  (pc := 119) dX4_takeState_119 rfl ?_
              refine wm_vV hC cv_X4_47 kc_X4_setFault rfl rfl (s_X4_setFault) rfl (by decide) rfl (Nat.le_of_ble_eq_true rfl) (pc := 121) dX4_takeState_121 (fun w121 hw121 => ?_)
              subst hw121
              refine wm_retV hC (pc := 124) dX4_takeState_124 ?_
              rw [eF]
              exact ⟨hV.fault _ _ _, hO2.fault (by omega) (by omega) (by omega)⟩
        exact lp85 _ (s + 2) _ _ none rfl (by omega) (by omega) (by omega) hV1 hO1 (by rw [e, ek, show x - (s + 2) = x - s - 2 by omega])
    · have ek : kdC (chF w0 (s + 1)) = 0 := by unfold kdC; rw [if_pos h58]
      refine wm_iconst hC (pc := 61) dX4_takeState_61 ?_
      refine wm_goto hC 77 (pc := 62) dX4_takeState_62 (by decide) ?_
      refine wm_vV hC cv_X4_77 kc_X3_setKind rfl rfl (s_X3_setKind planIx11 (by omega)) rfl (by decide) rfl (Nat.le_of_ble_eq_true rfl) (pc := 77) dX4_takeState_77 (fun w77 hw77 => ?_)
      subst hw77
      have hV1 := hVt.draft ((t : Int) * 7) (kdC (chF w0 (s + 1)))
      rw [ek] at hV1
      have hO1 : TOK (T.1 ||| 2 ^ t, iup T.2.1 ((t : Int) * 7) (kdC (chF w0 (s + 1))), T.2.2) := ⟨h8, hO.2.1.kind hR0 (by unfold kdC; (repeat' split) <;> omega), hO.2.2⟩
      rw [ek] at hO1
      refine wm_iload_n hC 1 (pc := 80) dX4_takeState_80 rfl rfl ?_
      refine wm_iconst hC (pc := 81) dX4_takeState_81 ?_
      refine wm_iadd hC (pc := 82) dX4_takeState_82 ?_
      refine wm_istore hC  (pc := 83) dX4_takeState_83  (by decide) rfl ?_
      have lp85 : ∀ (n : Nat) (a : Int) (v : mW) (T2 : Tx) (o6 : Option mV), n = ((x - a) / 2).toNat → s + 2 ≤ a → (a - s) % 2 = 0 → a ≤ x → TV w0 v T2 → TOK T2 → tkP (chF w0) s x T = tkA (chF w0) (t : Int) s ((x - a) / 2).toNat a T2 → Wm l G K 2 7 (qV (fun w' => TV w0 w' (tkP (chF w0) s x T) ∧ TOK (tkP (chF w0) s x T))) 85 [some (mvR 9), some (mvI s), some (mvI x), some (mvI (t : Int)), some (mvI (chF w0 (s + 1))), some (mvI a), o6] [] v := by
        intro n
        induction n using Nat.strongRecOn with
        | _ n ih =>
        intro a v T2 o6 hn ha1 ha2 ha3 hV hO2 he
        refine wm_iload hC  (pc := 85) dX4_takeState_85 rfl ?_
        refine wm_iload_n hC 2 (pc := 87) dX4_takeState_87 rfl rfl ?_
        refine wm_icmp_ge hC 152 (pc := 88) dX4_takeState_88 (by decide) (by omega) (by omega) (fun h88 => ?_) (fun h88 => ?_)
        · refine wm_retV hC (pc := 152) dX4_takeState_152 ?_
          have : x = a := by omega
          subst this
          rw [he, show ((x - x) / 2).toNat = 0 by omega]
          exact ⟨hV, hO2⟩
        · refine wm_aload_n hC 0 (pc := 91) dX4_takeState_91 rfl rfl ?_
          refine wm_iload hC  (pc := 92) dX4_takeState_92 rfl ?_
          refine wm_pV hC cv_X4_55 kc_X4_characterAt rfl rfl (s_X4_characterAt (by rw [hV.2.1]; exact hw9) (by omega)) rfl (by decide) rfl (Nat.le_of_ble_eq_true rfl) (pc := 94) dX4_takeState_94 ?_
          rw [chF_congr hV.2.1 (hV.1 10 (by decide) (by decide))]
          have ha := hall a ha1 ha2 h88
          refine wm_bipush hC (pc := 97) dX4_takeState_97 (by decide) ?_
          refine wm_isub hC (pc := 99) dX4_takeState_99 ?_
          refine wm_istore hC  (pc := 100) dX4_takeState_100  (by decide) rfl ?_
          refine wm_aload_n hC 0 (pc := 102) dX4_takeState_102 rfl rfl ?_
          refine wm_getR hC fl_X4_18_3 rfl rfl (pc := 103) dX4_takeState_103 ?_
          refine wm_iload_n hC 3 (pc := 106) dX4_takeState_106 rfl rfl ?_
          refine wm_iload hC  (pc := 107) dX4_takeState_107 rfl ?_
          refine wm_pV hC cv_X4_80 kc_X3_targetOf rfl rfl (s_X3_targetOf planIx11 (by omega) (by omega)) rfl (by decide) rfl (Nat.le_of_ble_eq_true rfl) (pc := 109) dX4_takeState_109 ?_
          refine wm_iconst hC (pc := 112) dX4_takeState_112 ?_
          refine wm_icmp_eq hC 125 (pc := 113) dX4_takeState_113 (by decide) (by have := (hV.plan hO2 (t : Int) hR0.1 hR0.2).2 (chF w0 a - 97) (by omega) (by omega); omega) (by omega) (fun h113 => ?_) (fun h113 => ?_)
          · have hD : T2.2.1 ((t : Int) * 7 + 1 + (chF w0 a - 97)) = -1 := by rw [← hV.2.2.2.1 _ (by omega) (by omega)]; exact h113
            refine wm_aload_n hC 0 (pc := 125) dX4_takeState_125 rfl rfl ?_
            refine wm_getR hC fl_X4_18_3 rfl rfl (pc := 126) dX4_takeState_126 ?_
            refine wm_iload_n hC 3 (pc := 129) dX4_takeState_129 rfl rfl ?_
            refine wm_iload hC  (pc := 130) dX4_takeState_130 rfl ?_
            refine wm_aload_n hC 0 (pc := 132) dX4_takeState_132 rfl rfl ?_
            refine wm_iload hC  (pc := 133) dX4_takeState_133 rfl ?_
            refine wm_iconst hC (pc := 135) dX4_takeState_135 ?_
            refine wm_iadd hC (pc := 136) dX4_takeState_136 ?_
            refine wm_pV hC cv_X4_55 kc_X4_characterAt rfl rfl (s_X4_characterAt (by rw [hV.2.1]; exact hw9) (by omega)) rfl (by decide) rfl (Nat.le_of_ble_eq_true rfl) (pc := 137) dX4_takeState_137 ?_
            rw [chF_congr hV.2.1 (hV.1 10 (by decide) (by decide))]
            refine wm_bipush hC (pc := 140) dX4_takeState_140 (by decide) ?_
            refine wm_isub hC (pc := 142) dX4_takeState_142 ?_
            refine wm_vV hC cv_X4_83 kc_X3_setTarget rfl rfl (s_X3_setTarget planIx11 (by omega) (by omega)) rfl (by decide) rfl (Nat.le_of_ble_eq_true rfl) (pc := 143) dX4_takeState_143 (fun w143 hw143 => ?_)
            subst hw143
            refine wm_iinc hC (pc := 146) dX4_takeState_146 rfl rfl (by decide) rfl ?_
            refine wm_goto hC 85 (pc := 149) dX4_takeState_149 (by decide) ?_
            refine ih _ (by omega) (a + 2) _ (T2.1, iup T2.2.1 ((t : Int) * 7 + 1 + (chF w0 a - 97)) (chF w0 (a + 1) - 48), T2.2.2) _ rfl (by omega) (by omega) (by omega) (hV.draft _ _) ⟨hO2.1, hO2.2.1.target hR0 ha.1 (by omega), hO2.2.2⟩ ?_
            rw [he, show ((x - a) / 2).toNat = ((x - (a + 2)) / 2).toNat + 1 by omega]
            show (if _ then _ else _) = _
            rw [if_neg (fun q => q hD)]
          · have hD : ¬ T2.2.1 ((t : Int) * 7 + 1 + (chF w0 a - 97)) = -1 := by rw [← hV.2.2.2.1 _ (by omega) (by omega)]; exact h113
            have eF : tkP (chF w0) s x T = tF T2 s 3 (chF w0 a - 97) := by
              rw [he, show ((x - a) / 2).toNat = ((x - (a + 2)) / 2).toNat + 1 by omega]
              exact if_pos hD
            refine wm_aload_n hC 0 (pc := 116) dX4_takeState_116 rfl rfl ?_
            refine wm_iload_n hC 1 (pc := 117) dX4_takeState_117 rfl rfl ?_
            refine wm_iconst hC (pc := 118) dX4_takeState_118 ?_
            refine wm_iload hC  (pc := 119) dX4_takeState_119 rfl ?_
            refine wm_vV hC cv_X4_47 kc_X4_setFault rfl rfl (s_X4_setFault) rfl (by decide) rfl (Nat.le_of_ble_eq_true rfl) (pc := 121) dX4_takeState_121 (fun w121 hw121 => ?_)
            subst hw121
            refine wm_retV hC (pc := 124) dX4_takeState_124 ?_
            rw [eF]
            exact ⟨hV.fault _ _ _, hO2.fault (by omega) (by omega) (by omega)⟩
      exact lp85 _ (s + 2) _ _ none rfl (by omega) (by omega) (by omega) hV1 hO1 (by rw [e, ek, show x - (s + 2) = x - s - 2 by omega])
  · have e : tkP (chF w0) s x T = tF T s 2 (-1) := by rw [etk, h17]; rfl
    refine wm_aload_n hC 0 (pc := 20) dX4_takeState_20 rfl rfl ?_
    refine wm_iload_n hC 1 (pc := 21) dX4_takeState_21 rfl rfl ?_
    refine wm_iconst hC (pc := 22) dX4_takeState_22 ?_
    refine wm_iconst hC (pc := 23) dX4_takeState_23 ?_
    refine wm_vV hC cv_X4_47 kc_X4_setFault rfl rfl (s_X4_setFault) rfl (by decide) rfl (Nat.le_of_ble_eq_true rfl) (pc := 24) dX4_takeState_24 (fun w24 hw24 => ?_)
    subst hw24
    refine wm_retV hC (pc := 27) dX4_takeState_27 ?_
    rw [e]
    exact ⟨hT.fault _ _ _, hO.fault (by omega) (by omega) (by omega)⟩
set_option maxRecDepth 100000 in
set_option maxHeartbeats 600000 in
theorem s_X4_parse {l : Launch} {G : mG} {w : mW} (hr : 0 ≤ w 9 1 ∧ w 9 1 ≤ 80) (hc : TxC (chF w) (w 9 1)) : Mx l G 3 yX4_parse cX4_parse 6 none [mvR 9] w (qV (fun w' => TV w w' (parP (chF w) (w 9 1)) ∧ TOK (parP (chF w) (w 9 1)))) := by
  refine Mx.intro (by decide) RX4 rfl [some (mvR 9), none, none, none, none, none] (Nat.le_of_ble_eq_true rfl) rfl (fun K hC => ?_)
  refine wm_aload_n hC 0 (pc := 0) dX4_parse_0 rfl rfl ?_
  refine wm_getR hC fl_X4_18_3 rfl rfl (pc := 1) dX4_parse_1 ?_
  refine wm_vV hC cv_X4_44 kc_X3_clear rfl rfl (s_X3_clear planIx11) rfl (by decide) rfl (Nat.le_of_ble_eq_true rfl) (pc := 4) dX4_parse_4 (fun w4 hw4 => ?_)
  subst hw4
  refine wm_aload_n hC 0 (pc := 7) dX4_parse_7 rfl rfl ?_
  refine wm_iconst hC (pc := 8) dX4_parse_8 ?_
  refine wm_putI hC 9 3 fp_X4_26_3 rfl rfl rfl (pc := 9) dX4_parse_9 ?_
  refine wm_aload_n hC 0 (pc := 12) dX4_parse_12 rfl rfl ?_
  refine wm_iconst hC (pc := 13) dX4_parse_13 ?_
  refine wm_iconst hC (pc := 14) dX4_parse_14 ?_
  refine wm_iconst hC (pc := 15) dX4_parse_15 ?_
  refine wm_vV hC cv_X4_47 kc_X4_setFault rfl rfl (s_X4_setFault) rfl (by decide) rfl (Nat.le_of_ble_eq_true rfl) (pc := 16) dX4_parse_16 (fun w16 hw16 => ?_)
  subst hw16
  refine wm_iconst hC (pc := 19) dX4_parse_19 ?_
  refine wm_istore_n hC 1 (pc := 20) dX4_parse_20 rfl (by decide) rfl ?_
  have hch : ∀ i : Int, 0 ≤ i → (0 ≤ chF w i ∧ chF w i < 256) ∨ chF w i = -1 := fun i hi => by
    by_cases q : i < w 9 1
    · exact Or.inl ((hc.2 i hi).1 q)
    · exact Or.inr ((hc.2 i hi).2 (by omega))
  refine wm_iconst hC (pc := 21) dX4_parse_21 ?_
  refine wm_istore_n hC 2 (pc := 22) dX4_parse_22 rfl (by decide) rfl ?_
  have lp23 : ∀ (n : Nat) (f : Nat) (s : Int) (v : mW) (T : Tx) (o3 o4 o5 : Option mV), n = f → f ≤ 80 → (0 ≤ s ∧ s ≤ 81) → TV w v T → TOK T → parP (chF w) (w 9 1) = prP (chF w) (w 9 1) f s T → Wm l G K 3 6 (qV (fun w' => TV w w' (parP (chF w) (w 9 1)) ∧ TOK (parP (chF w) (w 9 1)))) 23 [some (mvR 9), some (mvI s), some (mvI ((80 - f : Nat) : Int)), o3, o4, o5] [] v := by
    intro n
    induction n using Nat.strongRecOn with
    | _ n ih =>
    intro f s v T o3 o4 o5 hn hf hs hV hO he
    refine wm_iload_n hC 2 (pc := 23) dX4_parse_23 rfl rfl ?_
    refine wm_bipush hC (pc := 24) dX4_parse_24 (by decide) ?_
    refine wm_icmp_ge hC 128 (pc := 26) dX4_parse_26 (by decide) (by omega) (by omega) (fun h26 => ?_) (fun h26 => ?_)
    · refine wm_retV hC (pc := 128) dX4_parse_128 ?_
      rw [he]
      have eT : prP (chF w) (w 9 1) f s T = T := by
        cases f with
        | zero => rfl
        | succ f => exact if_neg (fun q => by first | omega | exact absurd q.2 h41)
      rw [eT]
      exact ⟨hV, hO⟩
    · refine wm_iload_n hC 1 (pc := 29) dX4_parse_29 rfl rfl ?_
      refine wm_aload_n hC 0 (pc := 30) dX4_parse_30 rfl rfl ?_
      refine wm_getI hC 9 1 fl_X4_22_3 rfl rfl rfl (pc := 31) dX4_parse_31 ?_
      refine wm_icmp_ge hC 128 (pc := 34) dX4_parse_34 (by decide) (by omega) (by rw [hV.2.1]; omega) (fun h34 => ?_) (fun h34 => ?_)
      · rw [hV.2.1] at h34
        refine wm_retV hC (pc := 128) dX4_parse_128 ?_
        rw [he]
        have eT : prP (chF w) (w 9 1) f s T = T := by
          cases f with
          | zero => rfl
          | succ f => exact if_neg (fun q => by first | omega | exact absurd q.2 h41)
        rw [eT]
        exact ⟨hV, hO⟩
      · rw [hV.2.1] at h34
        have hcv : chF v = chF w := chF_congr hV.2.1 (hV.1 10 (by decide) (by decide))
        refine wm_aload_n hC 0 (pc := 37) dX4_parse_37 rfl rfl ?_
        refine wm_pV hC cv_X4_51 kc_X4_isFaulty rfl rfl (s_X4_isFaulty (by rw [hV.2.2.2.2.2.1]; exact hO.2.2.2.1)) rfl (by decide) rfl (Nat.le_of_ble_eq_true rfl) (pc := 38) dX4_parse_38 ?_
        rw [hV.2.2.2.2.2.1]
        refine wm_ifd_ne hC 128 (pc := 41) dX4_parse_41 (by decide) (fun h41 => ?_) (fun h41 => ?_)
        · refine wm_retV hC (pc := 128) dX4_parse_128 ?_
          rw [he]
          have eT : prP (chF w) (w 9 1) f s T = T := by
            cases f with
            | zero => rfl
            | succ f => exact if_neg (fun q => by first | omega | exact absurd q.2 h41)
          rw [eT]
          exact ⟨hV, hO⟩
        · refine wm_iload_n hC 1 (pc := 44) dX4_parse_44 rfl rfl ?_
          refine wm_istore_n hC 3 (pc := 45) dX4_parse_45 rfl (by decide) rfl ?_
          refine wm_iconst hC (pc := 46) dX4_parse_46 ?_
          refine wm_aload_n hC 0 (pc := 47) dX4_parse_47 rfl rfl ?_
          refine wm_iload_n hC 3 (pc := 48) dX4_parse_48 rfl rfl ?_
          refine wm_pV hC cv_X4_55 kc_X4_characterAt rfl rfl (s_X4_characterAt (by rw [hV.2.1]; exact hr) (by omega)) rfl (by decide) rfl (Nat.le_of_ble_eq_true rfl) (pc := 49) dX4_parse_49 ?_
          rw [hcv]
          refine wm_pS hC cs_X4_58 kc_X4_after (s_X4_after (by omega) (by rcases hch s hs.1 with h | h <;> omega)) rfl (by decide) rfl (Nat.le_of_ble_eq_true rfl) (pc := 52) dX4_parse_52 ?_
          refine wm_istore hC  (pc := 55) dX4_parse_55  (by decide) rfl ?_
          refine wm_iconst hC (pc := 57) dX4_parse_57 ?_
          refine wm_istore hC  (pc := 58) dX4_parse_58  (by decide) rfl ?_
          have lp60 : ∀ (n : Nat) (f2 : Nat) (x e : Int), n = f2 → f2 ≤ 80 → (s ≤ x ∧ x ≤ w 9 1) → (1 ≤ e ∧ e ≤ 6) → (e ≠ 6 → x < w 9 1) → scan (chF w) s = dfa (chF w) f2 e x → Wm l G K 3 6 (qV (fun w' => TV w w' (parP (chF w) (w 9 1)) ∧ TOK (parP (chF w) (w 9 1)))) 60 [some (mvR 9), some (mvI s), some (mvI ((80 - f : Nat) : Int)), some (mvI x), some (mvI e), some (mvI ((80 - f2 : Nat) : Int))] [] v := by
            intro n
            induction n using Nat.strongRecOn with
            | _ n ih =>
            intro f2 x e hm hf2 hx he1 hex he2
            rename_i n0 ih0
            refine wm_iload hC  (pc := 60) dX4_parse_60 rfl ?_
            refine wm_bipush hC (pc := 62) dX4_parse_62 (by decide) ?_
            refine wm_icmp_ge hC 94 (pc := 64) dX4_parse_64 (by decide) (by omega) (by omega) (fun h64 => ?_) (fun h64 => ?_)
            · refine wm_iload hC  (pc := 94) dX4_parse_94 rfl ?_
              refine wm_iconst hC (pc := 96) dX4_parse_96 ?_
              refine wm_icmp_ne hC 109 (pc := 97) dX4_parse_97 (by decide) (by omega) (by omega) (fun h97 => ?_) (fun h97 => ?_)
              · have hsc := scan_ok hc (s := s) ⟨hs.1, h34⟩
                have h5s : ¬ (scan (chF w) s).1 = 5 := by
                  by_cases hf : f2 = 0
                  · subst hf; rw [he2]; exact h97
                  · rw [he2, dfa_stop (by omega)]; exact h97
                have hxs : (scan (chF w) s).2 = x := by
                  by_cases hf : f2 = 0
                  · subst hf; rw [he2]; rfl
                  · rw [he2, dfa_stop (by omega)]
                refine wm_aload_n hC 0 (pc := 109) dX4_parse_109 rfl rfl ?_
                refine wm_iload_n hC 1 (pc := 110) dX4_parse_110 rfl rfl ?_
                refine wm_iconst hC (pc := 111) dX4_parse_111 ?_
                refine wm_iload_n hC 3 (pc := 112) dX4_parse_112 rfl rfl ?_
                refine wm_iload_n hC 1 (pc := 113) dX4_parse_113 rfl rfl ?_
                refine wm_isub hC (pc := 114) dX4_parse_114 ?_
                refine wm_vV hC cv_X4_47 kc_X4_setFault rfl rfl (s_X4_setFault) rfl (by decide) rfl (Nat.le_of_ble_eq_true rfl) (pc := 115) dX4_parse_115 (fun w115 hw115 => ?_)
                subst hw115
                have hV3 := hV.fault s 1 (x - s)
                have hO3 := hO.fault (a := s) (b := 1) (c := x - s) (by omega) (by omega) (by omega)
                have hN : (if (scan (chF w) s).1 = 5 then tkP (chF w) s (scan (chF w) s).2 T else tF T s 1 ((scan (chF w) s).2 - s)) = tF T s 1 (x - s) := by rw [if_neg h5s, hxs]
                refine wm_iload_n hC 3 (pc := 118) dX4_parse_118 rfl rfl ?_
                refine wm_iconst hC (pc := 119) dX4_parse_119 ?_
                refine wm_iadd hC (pc := 120) dX4_parse_120 ?_
                refine wm_istore_n hC 1 (pc := 121) dX4_parse_121 rfl (by decide) rfl ?_
                refine wm_iinc hC (v := ((80 - (f - 1) : Nat) : Int)) (pc := 122) dX4_parse_122 rfl (by omega) (by decide) rfl ?_
                refine wm_goto hC 23 (pc := 125) dX4_parse_125 (by decide) ?_
                obtain ⟨f1, rfl⟩ : ∃ f1, f = f1 + 1 := ⟨f - 1, by omega⟩
                exact ih0 f1 (by omega) f1 (x + 1) _ _ _ _ _ rfl (by omega) (by omega) hV3 hO3 (by rw [he]; show (if _ then _ else _) = _; rw [if_pos ⟨h34, Classical.not_not.mp h41⟩, hN, hxs])
              · have hsc := scan_ok hc (s := s) ⟨hs.1, h34⟩
                have h5s : (scan (chF w) s).1 = 5 := by rw [he2, dfa_stop (by omega)]; exact h97
                have hxs : (scan (chF w) s).2 = x := by rw [he2, dfa_stop (by omega)]
                have hR5 := hsc.2.2 h5s
                rw [hxs] at hR5
                refine wm_aload_n hC 0 (pc := 100) dX4_parse_100 rfl rfl ?_
                refine wm_iload_n hC 1 (pc := 101) dX4_parse_101 rfl rfl ?_
                refine wm_iload_n hC 3 (pc := 102) dX4_parse_102 rfl rfl ?_
                refine wm_vV hC cv_X4_62 kc_X4_takeState rfl rfl (s_X4_takeState hV hO hr hs.1 (by omega) hR5.1) rfl (by decide) rfl (Nat.le_of_ble_eq_true rfl) (pc := 103) dX4_parse_103 (fun w103 hw103 => ?_)
                obtain ⟨hV3, hO3⟩ := hw103
                have hN : (if (scan (chF w) s).1 = 5 then tkP (chF w) s (scan (chF w) s).2 T else tF T s 1 ((scan (chF w) s).2 - s)) = tkP (chF w) s x T := by rw [if_pos h5s, hxs]
                refine wm_goto hC 118 (pc := 106) dX4_parse_106 (by decide) ?_
                refine wm_iload_n hC 3 (pc := 118) dX4_parse_118 rfl rfl ?_
                refine wm_iconst hC (pc := 119) dX4_parse_119 ?_
                refine wm_iadd hC (pc := 120) dX4_parse_120 ?_
                refine wm_istore_n hC 1 (pc := 121) dX4_parse_121 rfl (by decide) rfl ?_
                refine wm_iinc hC (v := ((80 - (f - 1) : Nat) : Int)) (pc := 122) dX4_parse_122 rfl (by omega) (by decide) rfl ?_
                refine wm_goto hC 23 (pc := 125) dX4_parse_125 (by decide) ?_
                obtain ⟨f1, rfl⟩ : ∃ f1, f = f1 + 1 := ⟨f - 1, by omega⟩
                exact ih0 f1 (by omega) f1 (x + 1) _ _ _ _ _ rfl (by omega) (by omega) hV3 hO3 (by rw [he]; show (if _ then _ else _) = _; rw [if_pos ⟨h34, Classical.not_not.mp h41⟩, hN, hxs])
            · refine wm_iload hC  (pc := 67) dX4_parse_67 rfl ?_
              refine wm_iconst hC (pc := 69) dX4_parse_69 ?_
              refine wm_icmp_ge hC 94 (pc := 70) dX4_parse_70 (by decide) (by omega) (by omega) (fun h70 => ?_) (fun h70 => ?_)
              · refine wm_iload hC  (pc := 94) dX4_parse_94 rfl ?_
                refine wm_iconst hC (pc := 96) dX4_parse_96 ?_
                refine wm_icmp_ne hC 109 (pc := 97) dX4_parse_97 (by decide) (by omega) (by omega) (fun h97 => ?_) (fun h97 => ?_)
                · have hsc := scan_ok hc (s := s) ⟨hs.1, h34⟩
                  have h5s : ¬ (scan (chF w) s).1 = 5 := by
                    by_cases hf : f2 = 0
                    · subst hf; rw [he2]; exact h97
                    · rw [he2, dfa_stop (by omega)]; exact h97
                  have hxs : (scan (chF w) s).2 = x := by
                    by_cases hf : f2 = 0
                    · subst hf; rw [he2]; rfl
                    · rw [he2, dfa_stop (by omega)]
                  refine wm_aload_n hC 0 (pc := 109) dX4_parse_109 rfl rfl ?_
                  refine wm_iload_n hC 1 (pc := 110) dX4_parse_110 rfl rfl ?_
                  refine wm_iconst hC (pc := 111) dX4_parse_111 ?_
                  refine wm_iload_n hC 3 (pc := 112) dX4_parse_112 rfl rfl ?_
                  refine wm_iload_n hC 1 (pc := 113) dX4_parse_113 rfl rfl ?_
                  refine wm_isub hC (pc := 114) dX4_parse_114 ?_
                  refine wm_vV hC cv_X4_47 kc_X4_setFault rfl rfl (s_X4_setFault) rfl (by decide) rfl (Nat.le_of_ble_eq_true rfl) (pc := 115) dX4_parse_115 (fun w115 hw115 => ?_)
                  subst hw115
                  have hV3 := hV.fault s 1 (x - s)
                  have hO3 := hO.fault (a := s) (b := 1) (c := x - s) (by omega) (by omega) (by omega)
                  have hN : (if (scan (chF w) s).1 = 5 then tkP (chF w) s (scan (chF w) s).2 T else tF T s 1 ((scan (chF w) s).2 - s)) = tF T s 1 (x - s) := by rw [if_neg h5s, hxs]
                  refine wm_iload_n hC 3 (pc := 118) dX4_parse_118 rfl rfl ?_
                  refine wm_iconst hC (pc := 119) dX4_parse_119 ?_
                  refine wm_iadd hC (pc := 120) dX4_parse_120 ?_
                  refine wm_istore_n hC 1 (pc := 121) dX4_parse_121 rfl (by decide) rfl ?_
                  refine wm_iinc hC (v := ((80 - (f - 1) : Nat) : Int)) (pc := 122) dX4_parse_122 rfl (by omega) (by decide) rfl ?_
                  refine wm_goto hC 23 (pc := 125) dX4_parse_125 (by decide) ?_
                  obtain ⟨f1, rfl⟩ : ∃ f1, f = f1 + 1 := ⟨f - 1, by omega⟩
                  exact ih0 f1 (by omega) f1 (x + 1) _ _ _ _ _ rfl (by omega) (by omega) hV3 hO3 (by rw [he]; show (if _ then _ else _) = _; rw [if_pos ⟨h34, Classical.not_not.mp h41⟩, hN, hxs])
                · have hsc := scan_ok hc (s := s) ⟨hs.1, h34⟩
                  have h5s : (scan (chF w) s).1 = 5 := by rw [he2, dfa_stop (by omega)]; exact h97
                  have hxs : (scan (chF w) s).2 = x := by rw [he2, dfa_stop (by omega)]
                  have hR5 := hsc.2.2 h5s
                  rw [hxs] at hR5
                  refine wm_aload_n hC 0 (pc := 100) dX4_parse_100 rfl rfl ?_
                  refine wm_iload_n hC 1 (pc := 101) dX4_parse_101 rfl rfl ?_
                  refine wm_iload_n hC 3 (pc := 102) dX4_parse_102 rfl rfl ?_
                  refine wm_vV hC cv_X4_62 kc_X4_takeState rfl rfl (s_X4_takeState hV hO hr hs.1 (by omega) hR5.1) rfl (by decide) rfl (Nat.le_of_ble_eq_true rfl) (pc := 103) dX4_parse_103 (fun w103 hw103 => ?_)
                  obtain ⟨hV3, hO3⟩ := hw103
                  have hN : (if (scan (chF w) s).1 = 5 then tkP (chF w) s (scan (chF w) s).2 T else tF T s 1 ((scan (chF w) s).2 - s)) = tkP (chF w) s x T := by rw [if_pos h5s, hxs]
                  refine wm_goto hC 118 (pc := 106) dX4_parse_106 (by decide) ?_
                  refine wm_iload_n hC 3 (pc := 118) dX4_parse_118 rfl rfl ?_
                  refine wm_iconst hC (pc := 119) dX4_parse_119 ?_
                  refine wm_iadd hC (pc := 120) dX4_parse_120 ?_
                  refine wm_istore_n hC 1 (pc := 121) dX4_parse_121 rfl (by decide) rfl ?_
                  refine wm_iinc hC (v := ((80 - (f - 1) : Nat) : Int)) (pc := 122) dX4_parse_122 rfl (by omega) (by decide) rfl ?_
                  refine wm_goto hC 23 (pc := 125) dX4_parse_125 (by decide) ?_
                  obtain ⟨f1, rfl⟩ : ∃ f1, f = f1 + 1 := ⟨f - 1, by omega⟩
                  exact ih0 f1 (by omega) f1 (x + 1) _ _ _ _ _ rfl (by omega) (by omega) hV3 hO3 (by rw [he]; show (if _ then _ else _) = _; rw [if_pos ⟨h34, Classical.not_not.mp h41⟩, hN, hxs])
              · refine wm_iinc hC (pc := 73) dX4_parse_73 rfl rfl (by decide) rfl ?_
                refine wm_iload hC  (pc := 76) dX4_parse_76 rfl ?_
                refine wm_aload_n hC 0 (pc := 78) dX4_parse_78 rfl rfl ?_
                refine wm_iload_n hC 3 (pc := 79) dX4_parse_79 rfl rfl ?_
                refine wm_pV hC cv_X4_55 kc_X4_characterAt rfl rfl (s_X4_characterAt (by rw [hV.2.1]; exact hr) (by omega)) rfl (by decide) rfl (Nat.le_of_ble_eq_true rfl) (pc := 80) dX4_parse_80 ?_
                rw [hcv]
                refine wm_pS hC cs_X4_58 kc_X4_after (s_X4_after (by omega) (by rcases hch (x + 1) (by omega) with h | h <;> omega)) rfl (by decide) rfl (Nat.le_of_ble_eq_true rfl) (pc := 83) dX4_parse_83 ?_
                refine wm_istore hC  (pc := 86) dX4_parse_86  (by decide) rfl ?_
                refine wm_iinc hC (v := ((80 - (f2 - 1) : Nat) : Int)) (pc := 88) dX4_parse_88 rfl (by omega) (by decide) rfl ?_
                refine wm_goto hC 60 (pc := 91) dX4_parse_91 (by decide) ?_
                obtain ⟨f3, rfl⟩ : ∃ f3, f2 = f3 + 1 := ⟨f2 - 1, by omega⟩
                exact ih f3 (by omega) f3 (x + 1) (aftF e (chF w (x + 1))) rfl (by omega) ⟨by omega, by omega⟩ (aftF_rng _ _) (fun hne => Classical.byContradiction fun q => hne (by
                  have hm : chF w (x + 1) = -1 := (hc.2 _ (by omega)).2 (by omega)
                  rw [hm]; unfold aftF; (repeat' split) <;> first | rfl | omega)) (by rw [he2]; exact if_pos h70)
          exact lp60 80 80 s _ rfl (by omega) (by omega) (aftF_rng _ _) (fun _ => by omega) rfl
  exact lp23 80 80 0 _ T0 none none none rfl (by omega) (by omega) (p0_TV w) T0_ok rfl
set_option maxRecDepth 100000 in
set_option maxHeartbeats 4000000 in
theorem s_X8_type {l : Launch} {G : mG} {w : mW} {z0 : Int} (hI : CInv w) (hz0 : -2147483648 ≤ z0 ∧ z0 < 2147483648) : Mx l G 1 yX8_type cX8_type 2 (some .int) [mvR 0, mvI z0] w (qI (fun z w' => (¬ (32 ≤ z0 ∧ z0 ≤ 126) ∧ z = -1000001 ∧ w' = w) ∨ ((32 ≤ z0 ∧ z0 ≤ 126) ∧ ((80 ≤ w 9 1 ∧ z = -1000003 ∧ w' = w) ∨ (¬ 80 ≤ w 9 1 ∧ z = w 9 1 + 1 ∧ w' = mup (mup w 10 (w 9 1) z0) 9 1 (w 9 1 + 1)))))) := by
  refine Mx.intro (by decide) RX8 rfl [some (mvR 0), some (mvI z0)] (Nat.le_of_ble_eq_true rfl) rfl (fun K hC => ?_)
  have hr := hI.2.2.1
  refine wm_iload_n hC 1 (pc := 0) dX8_type_0 rfl rfl ?_
  refine wm_bipush hC (pc := 1) dX8_type_1 (by decide) ?_
  refine wm_icmp_lt hC 12 (pc := 3) dX8_type_3 (by decide) (by omega) (by omega) (fun h3 => ?_) (fun h3 => ?_)
  · refine wm_ldc hC (-1000001) kI_X8_76 (pc := 12) dX8_type_12 ?_
    refine wm_iretI hC (pc := 14) dX8_type_14 ?_
    left
    exact ⟨by omega, rfl, rfl⟩
  · refine wm_iload_n hC 1 (pc := 6) dX8_type_6 rfl rfl ?_
    refine wm_bipush hC (pc := 7) dX8_type_7 (by decide) ?_
    refine wm_icmp_le hC 15 (pc := 9) dX8_type_9 (by decide) (by omega) (by omega) (fun h9 => ?_) (fun h9 => ?_)
    · refine wm_aload_n hC 0 (pc := 15) dX8_type_15 rfl rfl ?_
      refine wm_getR hC fl_X8_32_7 rfl rfl (pc := 16) dX8_type_16 ?_
      refine wm_pV hC cv_X8_217 kc_X4_isFull rfl rfl (s_X4_isFull hI.2.2.1) rfl (by decide) rfl (Nat.le_of_ble_eq_true rfl) (pc := 19) dX8_type_19 ?_
      refine wm_ifd_eq hC 28 (pc := 22) dX8_type_22 (by decide) (fun h22 => ?_) (fun h22 => ?_)
      · refine wm_aload_n hC 0 (pc := 28) dX8_type_28 rfl rfl ?_
        refine wm_getR hC fl_X8_32_7 rfl rfl (pc := 29) dX8_type_29 ?_
        refine wm_iload_n hC 1 (pc := 32) dX8_type_32 rfl rfl ?_
        refine wm_vV hC cv_X8_222 kc_X4_append rfl rfl (s_X4_append (by omega)) rfl (by decide) rfl (Nat.le_of_ble_eq_true rfl) (pc := 33) dX8_type_33 (fun w33 hw33 => ?_)
        subst hw33
        refine wm_aload_n hC 0 (pc := 36) dX8_type_36 rfl rfl ?_
        refine wm_getR hC fl_X8_32_7 rfl rfl (pc := 37) dX8_type_37 ?_
        refine wm_pV hC cv_X8_210 kc_X4_length rfl rfl (s_X4_length) rfl (by decide) rfl (Nat.le_of_ble_eq_true rfl) (pc := 40) dX8_type_40 ?_
        refine wm_iretI hC (pc := 43) dX8_type_43 ?_
        right
        exact ⟨by omega, Or.inr ⟨h22, by rw [mup_at], rfl⟩⟩
      · refine wm_ldc hC (-1000003) kI_X8_221 (pc := 25) dX8_type_25 ?_
        refine wm_iretI hC (pc := 27) dX8_type_27 ?_
        right
        exact ⟨by omega, Or.inl ⟨h22, rfl, rfl⟩⟩
    · refine wm_ldc hC (-1000001) kI_X8_76 (pc := 12) dX8_type_12 ?_
      refine wm_iretI hC (pc := 14) dX8_type_14 ?_
      left
      exact ⟨by omega, rfl, rfl⟩
set_option maxRecDepth 100000 in
set_option maxHeartbeats 4000000 in
theorem s_X8_clearText {l : Launch} {G : mG} {w : mW} (hI : CInv w) : Mx l G 1 yX8_clearText cX8_clearText 2 (some .int) [mvR 0] w (qI (fun z w' => z = w 9 1 ∧ w' = mup w 9 1 0)) := by
  refine Mx.intro (by decide) RX8 rfl [some (mvR 0), none] (Nat.le_of_ble_eq_true rfl) rfl (fun K hC => ?_)
  refine wm_aload_n hC 0 (pc := 0) dX8_clearText_0 rfl rfl ?_
  refine wm_getR hC fl_X8_32_7 rfl rfl (pc := 1) dX8_clearText_1 ?_
  refine wm_pV hC cv_X8_210 kc_X4_length rfl rfl (s_X4_length) rfl (by decide) rfl (Nat.le_of_ble_eq_true rfl) (pc := 4) dX8_clearText_4 ?_
  refine wm_istore_n hC 1 (pc := 7) dX8_clearText_7 rfl (by decide) rfl ?_
  refine wm_aload_n hC 0 (pc := 8) dX8_clearText_8 rfl rfl ?_
  refine wm_getR hC fl_X8_32_7 rfl rfl (pc := 9) dX8_clearText_9 ?_
  refine wm_vV hC cv_X8_226 kc_X4_clear rfl rfl (s_X4_clear) rfl (by decide) rfl (Nat.le_of_ble_eq_true rfl) (pc := 12) dX8_clearText_12 (fun w12 hw12 => ?_)
  subst hw12
  refine wm_iload_n hC 1 (pc := 15) dX8_clearText_15 rfl rfl ?_
  refine wm_iretI hC (pc := 16) dX8_clearText_16 ?_
  exact ⟨rfl, rfl⟩
def faultF (T : Tx) (c : Int) : Int := if T.2.2.2.1 = 0 then -1000004 else if c = 0 then T.2.2.1 else if c = 1 then T.2.2.2.1 else if T.2.2.2.2 = -1 then -1000004 else T.2.2.2.2
set_option maxRecDepth 100000 in
set_option maxHeartbeats 4000000 in
theorem s_X8_fault {l : Launch} {G : mG} {w : mW} {c : Int} (hI : CInv w) (hc : -2147483648 ≤ c ∧ c < 2147483648) : Mx l G 4 yX8_fault cX8_fault 2 (some .int) [mvR 0, mvI c] w (qI (fun z w' => (¬ (0 ≤ c ∧ c ≤ 2) ∧ z = -1000001 ∧ w' = w) ∨ ((0 ≤ c ∧ c ≤ 2) ∧ z = faultF (parP (chF w) (w 9 1)) c ∧ (∀ a : Nat, a ≠ 9 → a ≠ 12 → w' a = w a) ∧ w' 9 1 = w 9 1))) := by
  refine Mx.intro (by decide) RX8 rfl [some (mvR 0), some (mvI c)] (Nat.le_of_ble_eq_true rfl) rfl (fun K hC => ?_)
  refine wm_iload_n hC 1 (pc := 0) dX8_fault_0 rfl rfl ?_
  refine wm_if_lt hC 9 (pc := 1) dX8_fault_1 (by decide) (by omega) (fun h1 => ?_) (fun h1 => ?_)
  · refine wm_ldc hC (-1000001) kI_X8_76 (pc := 9) dX8_fault_9 ?_
    refine wm_iretI hC (pc := 11) dX8_fault_11 ?_
    left
    exact ⟨by omega, rfl, rfl⟩
  · refine wm_iload_n hC 1 (pc := 4) dX8_fault_4 rfl rfl ?_
    refine wm_iconst hC (pc := 5) dX8_fault_5 ?_
    refine wm_icmp_le hC 12 (pc := 6) dX8_fault_6 (by decide) (by omega) (by omega) (fun h6 => ?_) (fun h6 => ?_)
    · refine wm_aload_n hC 0 (pc := 12) dX8_fault_12 rfl rfl ?_
      refine wm_getR hC fl_X8_32_7 rfl rfl (pc := 13) dX8_fault_13 ?_
      refine wm_vV hC cv_X8_229 kc_X4_parse rfl rfl (s_X4_parse hI.2.2.1 (chF_ok hI)) rfl (by decide) rfl (Nat.le_of_ble_eq_true rfl) (pc := 16) dX8_fault_16 (fun w16 hw16 => ?_)
      obtain ⟨hV, hO⟩ := hw16
      obtain ⟨hVa, hVl, hV3, hVd, hV4, hV5, hV6⟩ := id hV
      have hO4 := hO.2.2.2.1
      have hO5 := hO.2.2.2.2
      refine wm_aload_n hC 0 (pc := 19) dX8_fault_19 rfl rfl ?_
      refine wm_getR hC fl_X8_32_7 rfl rfl (pc := 20) dX8_fault_20 ?_
      refine wm_pV hC cv_X8_232 kc_X4_isFaulty rfl rfl (s_X4_isFaulty (by rw [hV5]; exact hO4)) rfl (by decide) rfl (Nat.le_of_ble_eq_true rfl) (pc := 23) dX8_fault_23 ?_
      rw [hV5]
      refine wm_ifd_ne hC 32 (pc := 26) dX8_fault_26 (by decide) (fun h26 => ?_) (fun h26 => ?_)
      · refine wm_iload_n hC 1 (pc := 32) dX8_fault_32 rfl rfl ?_
        by_cases sw33_0 : c = 0
        · refine wm_lookup hC (off := 27) 60 (pc := 33) dX8_fault_33 (by decide) (by omega) (by subst sw33_0; rfl) (by decide) ?_
          refine wm_aload_n hC 0 (pc := 60) dX8_fault_60 rfl rfl ?_
          refine wm_getR hC fl_X8_32_7 rfl rfl (pc := 61) dX8_fault_61 ?_
          refine wm_pV hC cv_X8_235 kc_X4_faultPosition rfl rfl (s_X4_faultPosition) rfl (by decide) rfl (Nat.le_of_ble_eq_true rfl) (pc := 64) dX8_fault_64 ?_
          refine wm_iretI hC (pc := 67) dX8_fault_67 ?_
          right
          refine ⟨by omega, ?_, hVa, hVl⟩
          unfold faultF
          rw [if_neg h26, if_pos sw33_0, hV4]
        by_cases sw33_1 : c = 1
        · refine wm_lookup hC (off := 35) 68 (pc := 33) dX8_fault_33 (by decide) (by omega) (by subst sw33_1; rfl) (by decide) ?_
          refine wm_aload_n hC 0 (pc := 68) dX8_fault_68 rfl rfl ?_
          refine wm_getR hC fl_X8_32_7 rfl rfl (pc := 69) dX8_fault_69 ?_
          refine wm_pV hC cv_X8_238 kc_X4_faultReason rfl rfl (s_X4_faultReason) rfl (by decide) rfl (Nat.le_of_ble_eq_true rfl) (pc := 72) dX8_fault_72 ?_
          refine wm_iretI hC (pc := 75) dX8_fault_75 ?_
          right
          refine ⟨by omega, ?_, hVa, hVl⟩
          unfold faultF
          rw [if_neg h26, if_neg sw33_0, if_pos sw33_1, hV5]
        refine wm_lookup hC (off := 43) 76 (pc := 33) dX8_fault_33 (by decide) (by omega) (by simp [Op.lookupswitch.offset, sw33_0, Ne.symm sw33_0, sw33_1, Ne.symm sw33_1]) (by decide) ?_
        refine wm_aload_n hC 0 (pc := 76) dX8_fault_76 rfl rfl ?_
        refine wm_getR hC fl_X8_32_7 rfl rfl (pc := 77) dX8_fault_77 ?_
        refine wm_pV hC cv_X8_241 kc_X4_faultCause rfl rfl (s_X4_faultCause) rfl (by decide) rfl (Nat.le_of_ble_eq_true rfl) (pc := 80) dX8_fault_80 ?_
        refine wm_pS hC cs_X8_131 kc_X8_foundOr (s_X8_foundOr (by rw [hV6]; omega)) rfl (by decide) rfl (Nat.le_of_ble_eq_true rfl) (pc := 83) dX8_fault_83 ?_
        refine wm_iretI hC (pc := 86) dX8_fault_86 ?_
        right
        refine ⟨by omega, ?_, hVa, hVl⟩
        unfold faultF
        rw [if_neg h26, if_neg sw33_0, if_neg sw33_1, hV6]
      · refine wm_ldc hC (-1000004) kI_X8_151 (pc := 29) dX8_fault_29 ?_
        refine wm_iretI hC (pc := 31) dX8_fault_31 ?_
        right
        refine ⟨by omega, ?_, hVa, hVl⟩
        unfold faultF
        rw [if_pos (Classical.not_not.mp h26)]
    · refine wm_ldc hC (-1000001) kI_X8_76 (pc := 9) dX8_fault_9 ?_
      refine wm_iretI hC (pc := 11) dX8_fault_11 ?_
      left
      exact ⟨by omega, rfl, rfl⟩
theorem CInv.parsed {w u : mW} (hI : CInv w) (hV : ∀ a : Nat, a ≠ 9 → a ≠ 12 → u a = w a) (hl : u 9 1 = w 9 1) : CInv u := by
  obtain ⟨h1, h2, h3, h4⟩ := hI
  refine ⟨fun p hp => (h1 p hp).congr (hV _ (by omega) (by omega)), by rw [hV 7 (by decide) (by decide)]; exact h2, by rw [hl]; exact h3, fun i i0 i1 => ?_⟩
  rw [hV 10 (by decide) (by decide)]; rw [hl] at i1; exact h4 i i0 i1
set_option maxRecDepth 100000 in
set_option maxHeartbeats 4000000 in
theorem s_X8_read {l : Launch} {G : mG} {w : mW} {a : Int} (hI : CInv w) (ha : -2147483648 ≤ a ∧ a < 2147483648) : Mx l G 4 yX8_read cX8_read 2 (some .int) [mvR 0, mvI a] w (qI (fun z w' => (¬ (0 ≤ a ∧ a < 3) ∧ z = -1000001 ∧ w' = w) ∨ ((0 ≤ a ∧ a < 3) ∧ ((¬ (parP (chF w) (w 9 1)).2.2.2.1 = 0 ∧ z = -1000002 ∧ (∀ a : Nat, a ≠ 9 → a ≠ 12 → w' a = w a) ∧ w' 9 1 = w 9 1) ∨ ((parP (chF w) (w 9 1)).2.2.2.1 = 0 ∧ z = ((mpop (parP (chF w) (w 9 1)).1 : Nat) : Int) ∧ ∃ u : mW, TV w u (parP (chF w) (w 9 1)) ∧ TOK (parP (chF w) (w 9 1)) ∧ w' = mcopy (recF u) 12 (2 * a.toNat + 2) 0 0 56))))) := by
  refine Mx.intro (by decide) RX8 rfl [some (mvR 0), some (mvI a)] (Nat.le_of_ble_eq_true rfl) rfl (fun K hC => ?_)
  refine wm_iload_n hC 1 (pc := 0) dX8_read_0 rfl rfl ?_
  refine wm_pS hC cs_X8_66 kc_X8_isPlan (s_X8_isPlan (by omega)) rfl (by decide) rfl (Nat.le_of_ble_eq_true rfl) (pc := 1) dX8_read_1 ?_
  refine wm_ifd_ne hC 10 (pc := 4) dX8_read_4 (by decide) (fun h4 => ?_) (fun h4 => ?_)
  · obtain ⟨p, rfl⟩ : ∃ p : Nat, a = (p : Int) := ⟨a.toNat, by omega⟩
    have hp : p < 3 := by omega
    refine wm_aload_n hC 0 (pc := 10) dX8_read_10 rfl rfl ?_
    refine wm_getR hC fl_X8_32_7 rfl rfl (pc := 11) dX8_read_11 ?_
    refine wm_vV hC cv_X8_229 kc_X4_parse rfl rfl (s_X4_parse hI.2.2.1 (chF_ok hI)) rfl (by decide) rfl (Nat.le_of_ble_eq_true rfl) (pc := 14) dX8_read_14 (fun w14 hw14 => ?_)
    obtain ⟨hV, hO⟩ := hw14
    obtain ⟨hVa, hVl, hV3, hVd, hV4, hV5, hV6⟩ := id hV
    have hO4 := hO.2.2.2.1
    have hO5 := hO.2.2.2.2
    refine wm_aload_n hC 0 (pc := 17) dX8_read_17 rfl rfl ?_
    refine wm_getR hC fl_X8_32_7 rfl rfl (pc := 18) dX8_read_18 ?_
    refine wm_pV hC cv_X8_232 kc_X4_isFaulty rfl rfl (s_X4_isFaulty (by rw [hV5]; exact hO4)) rfl (by decide) rfl (Nat.le_of_ble_eq_true rfl) (pc := 21) dX8_read_21 ?_
    rw [hV5]
    refine wm_ifd_eq hC 30 (pc := 24) dX8_read_24 (by decide) (fun h24 => ?_) (fun h24 => ?_)
    · refine wm_aload_n hC 0 (pc := 30) dX8_read_30 rfl rfl ?_
      refine wm_vV hC cv_X8_77 kc_X8_remember rfl rfl (s_X8_remember (hI.parsed hVa hVl)) rfl (by decide) rfl (Nat.le_of_ble_eq_true rfl) (pc := 31) dX8_read_31 (fun w31 hw31 => ?_)
      subst hw31
      refine wm_aload_n hC 0 (pc := 34) dX8_read_34 rfl rfl ?_
      refine wm_iload_n hC 1 (pc := 35) dX8_read_35 rfl rfl ?_
      refine wm_pV hC cv_X8_80 kc_X8_planAt rfl rfl (s_X8_planAt hp) rfl (by decide) rfl (Nat.le_of_ble_eq_true rfl) (pc := 36) dX8_read_36 ?_
      refine wm_aload_n hC 0 (pc := 39) dX8_read_39 rfl rfl ?_
      refine wm_getR hC fl_X8_32_7 rfl rfl (pc := 40) dX8_read_40 ?_
      refine wm_pV hC cv_X8_244 kc_X4_draft rfl rfl (s_X4_draft) rfl (by decide) rfl (Nat.le_of_ble_eq_true rfl) (pc := 43) dX8_read_43 ?_
      refine wm_vV hC cv_X8_112 kc_X3_take (planIxP hp).1 rfl (s_X3_take (planIxP hp) planIx11) rfl (by decide) rfl (Nat.le_of_ble_eq_true rfl) (pc := 46) dX8_read_46 (fun w46 hw46 => ?_)
      subst hw46
      refine wm_aload_n hC 0 (pc := 49) dX8_read_49 rfl rfl ?_
      refine wm_getR hC fl_X8_32_7 rfl rfl (pc := 50) dX8_read_50 ?_
      refine wm_pV hC cv_X8_248 kc_X4_toldStates rfl rfl (s_X4_toldStates (t := (parP (chF w) (w 9 1)).1) (by rw [mcopy_ne (by omega), recF_ne (by decide) (by decide)]; exact hV3) hO.1) rfl (by decide) rfl (Nat.le_of_ble_eq_true rfl) (pc := 53) dX8_read_53 ?_
      refine wm_iretI hC (pc := 56) dX8_read_56 ?_
      right
      exact ⟨by omega, Or.inr ⟨Classical.not_not.mp h24, rfl, _, hV, hO, rfl⟩⟩
    · refine wm_ldc hC (-1000002) kI_X8_111 (pc := 27) dX8_read_27 ?_
      refine wm_iretI hC (pc := 29) dX8_read_29 ?_
      right
      exact ⟨by omega, Or.inl ⟨h24, rfl, hVa, hVl⟩⟩
  · refine wm_ldc hC (-1000001) kI_X8_76 (pc := 7) dX8_read_7 ?_
    refine wm_iretI hC (pc := 9) dX8_read_9 ?_
    left
    exact ⟨by omega, rfl, rfl⟩
