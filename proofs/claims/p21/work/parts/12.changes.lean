/-! the history; changes of plans -/
theorem planIxP {p : Nat} (hp : p < 3) : PlanIx (2 * p + 1) := by
  rcases (show p = 0 ∨ p = 1 ∨ p = 2 by omega) with rfl | rfl | rfl
  · exact planIx1
  · exact planIx3
  · exact planIx5
theorem mcopy_ne {w : mW} {i j : Nat} {sp dp n : Int} {a : Nat} (h : a ≠ j) : mcopy w i j sp dp n a = w a := by
  funext b; unfold mcopy; rw [if_neg (fun q => h q.1)]
theorem PlanOK.congr {w w' : mW} {p : Nat} (h : w' (p + 1) = w (p + 1)) (hk : PlanOK w p) : PlanOK w' p := by
  unfold PlanOK; rw [h]; exact hk
/-- the class's state as far as calls rest on it -/
def CInv (w : mW) : Prop := (∀ p : Nat, p < 3 → PlanOK w (2 * p + 1)) ∧ (0 ≤ w 7 1 ∧ w 7 1 ≤ 4) ∧ (0 ≤ w 9 1 ∧ w 9 1 ≤ 80) ∧ ∀ i : Int, 0 ≤ i → i < w 9 1 → 0 ≤ w 10 i ∧ w 10 i < 256
def recG (w : mW) : mW := mup (mcopy (mcopy (mcopy w 2 8 0 (w 7 1 * 168) 56) 4 8 0 (w 7 1 * 168 + 56) 56) 6 8 0 (w 7 1 * 168 + 112) 56) 7 1 (w 7 1 + 1)
def recS (w : mW) : mW := mup (mcopy w 8 8 168 0 504) 7 1 3
def recF (w : mW) : mW := if w 7 1 < 4 then recG w else recG (recS w)
theorem recG_ne {w : mW} {a : Nat} (h7 : a ≠ 7) (h8 : a ≠ 8) : recG w a = w a := by
  unfold recG; rw [mup_ne h7, mcopy_ne h8, mcopy_ne h8, mcopy_ne h8]
theorem recF_ne {w : mW} {a : Nat} (h7 : a ≠ 7) (h8 : a ≠ 8) : recF w a = w a := by
  unfold recF; split
  · exact recG_ne h7 h8
  · rw [recG_ne h7 h8]; unfold recS; rw [mup_ne h7, mcopy_ne h8]
def resF (w : mW) : mW := mcopy (mcopy (mcopy (mup w 7 1 (w 7 1 - 1)) 8 2 ((w 7 1 - 1) * 168) 0 56) 8 4 ((w 7 1 - 1) * 168 + 56) 0 56) 8 6 ((w 7 1 - 1) * 168 + 112) 0 56
set_option maxRecDepth 100000 in
set_option maxHeartbeats 4000000 in
theorem s_X0_size {l : Launch} {G : mG} {w : mW}  : Mx l G 0 yX0_size cX0_size 1 (some .int) [mvR 7] w (qP (mvI (w 7 1)) w) := by
  refine Mx.intro (by decide) RX0 rfl [some (mvR 7)] (Nat.le_of_ble_eq_true rfl) rfl (fun K hC => ?_)
  refine wm_aload_n hC 0 (pc := 0) dX0_size_0 rfl rfl ?_
  refine wm_getI hC 7 1 fl_X0_15_0 rfl rfl rfl (pc := 1) dX0_size_1 ?_
  refine wm_iretP hC (pc := 4) dX0_size_4 ?_ rfl
  rfl
set_option maxRecDepth 100000 in
set_option maxHeartbeats 4000000 in
theorem s_X0_record {l : Launch} {G : mG} {w : mW} (h7 : 0 ≤ w 7 1 ∧ w 7 1 ≤ 4) : Mx l G 2 yX0_record cX0_record 5 none [mvR 7, mvR 1, mvR 3, mvR 5] w (qV (fun w' => w' = recF w)) := by
  refine Mx.intro (by decide) RX0 rfl [some (mvR 7), some (mvR 1), some (mvR 3), some (mvR 5), none] (Nat.le_of_ble_eq_true rfl) rfl (fun K hC => ?_)
  have j31 : ∀ (w1 : mW), (0 ≤ w1 7 1 ∧ w1 7 1 ≤ 3) → recG w1 = recF w → Wm l G K 2 5 (qV (fun w' => w' = recF w)) 31 [some (mvR 7), some (mvR 1), some (mvR 3), some (mvR 5), none] [] w1 := by
    intro w1 h1 hG
    refine wm_aload_n hC 0 (pc := 31) dX0_record_31 rfl rfl ?_
    refine wm_getI hC 7 1 fl_X0_15_0 rfl rfl rfl (pc := 32) dX0_record_32 ?_
    refine wm_sipush hC (pc := 35) dX0_record_35 (by decide) ?_
    refine wm_imul hC (pc := 38) dX0_record_38 ?_
    refine wm_istore hC  (pc := 39) dX0_record_39  (by decide) rfl ?_
    refine wm_aload_n hC 1 (pc := 41) dX0_record_41 rfl rfl ?_
    refine wm_aload_n hC 0 (pc := 42) dX0_record_42 rfl rfl ?_
    refine wm_getR hC fl_X0_11_0 rfl rfl (pc := 43) dX0_record_43 ?_
    refine wm_iload hC  (pc := 46) dX0_record_46 rfl ?_
    refine wm_vV hC cv_X0_25 kc_X3_saveTo rfl rfl (s_X3_saveTo planIx1 rfl (by decide) (by omega)) rfl (by decide) rfl (Nat.le_of_ble_eq_true rfl) (pc := 48) dX0_record_48 (fun w48 hw48 => ?_)
    subst hw48
    refine wm_aload_n hC 2 (pc := 51) dX0_record_51 rfl rfl ?_
    refine wm_aload_n hC 0 (pc := 52) dX0_record_52 rfl rfl ?_
    refine wm_getR hC fl_X0_11_0 rfl rfl (pc := 53) dX0_record_53 ?_
    refine wm_iload hC  (pc := 56) dX0_record_56 rfl ?_
    refine wm_bipush hC (pc := 58) dX0_record_58 (by decide) ?_
    refine wm_iadd hC (pc := 60) dX0_record_60 ?_
    refine wm_vV hC cv_X0_25 kc_X3_saveTo rfl rfl (s_X3_saveTo planIx3 rfl (by decide) (by omega)) rfl (by decide) rfl (Nat.le_of_ble_eq_true rfl) (pc := 61) dX0_record_61 (fun w61 hw61 => ?_)
    subst hw61
    refine wm_aload_n hC 3 (pc := 64) dX0_record_64 rfl rfl ?_
    refine wm_aload_n hC 0 (pc := 65) dX0_record_65 rfl rfl ?_
    refine wm_getR hC fl_X0_11_0 rfl rfl (pc := 66) dX0_record_66 ?_
    refine wm_iload hC  (pc := 69) dX0_record_69 rfl ?_
    refine wm_bipush hC (pc := 71) dX0_record_71 (by decide) ?_
    refine wm_iadd hC (pc := 73) dX0_record_73 ?_
    refine wm_vV hC cv_X0_25 kc_X3_saveTo rfl rfl (s_X3_saveTo planIx5 rfl (by decide) (by omega)) rfl (by decide) rfl (Nat.le_of_ble_eq_true rfl) (pc := 74) dX0_record_74 (fun w74 hw74 => ?_)
    subst hw74
    have e7 : mcopy (mcopy (mcopy w1 2 8 0 (w1 7 1 * 168) 56) 4 8 0 (w1 7 1 * 168 + 56) 56) 6 8 0 (w1 7 1 * 168 + 112) 56 7 = w1 7 := by rw [mcopy_ne (by decide), mcopy_ne (by decide), mcopy_ne (by decide)]
    refine wm_aload_n hC 0 (pc := 77) dX0_record_77 rfl rfl ?_
    refine wm_dup hC (pc := 78) dX0_record_78 rfl ?_
    refine wm_getI hC 7 1 fl_X0_15_0 rfl rfl rfl (pc := 79) dX0_record_79 ?_
    rw [e7]
    refine wm_iconst hC (pc := 82) dX0_record_82 ?_
    refine wm_iadd hC (pc := 83) dX0_record_83 ?_
    refine wm_putI hC 7 1 fp_X0_15_0 rfl rfl rfl (pc := 84) dX0_record_84 ?_
    refine wm_retV hC (pc := 87) dX0_record_87 ?_
    exact hG
  refine wm_aload_n hC 0 (pc := 0) dX0_record_0 rfl rfl ?_
  refine wm_getI hC 7 1 fl_X0_15_0 rfl rfl rfl (pc := 1) dX0_record_1 ?_
  refine wm_iconst hC (pc := 4) dX0_record_4 ?_
  refine wm_icmp_lt hC 31 (pc := 5) dX0_record_5 (by decide) (by omega) (by omega) (fun h5 => ?_) (fun h5 => ?_)
  · exact j31 w (by omega) (by unfold recF; rw [if_pos h5])
  · refine wm_aload_n hC 0 (pc := 8) dX0_record_8 rfl rfl ?_
    refine wm_getR hC fl_X0_11_0 rfl rfl (pc := 9) dX0_record_9 ?_
    refine wm_sipush hC (pc := 12) dX0_record_12 (by decide) ?_
    refine wm_aload_n hC 0 (pc := 15) dX0_record_15 rfl rfl ?_
    refine wm_getR hC fl_X0_11_0 rfl rfl (pc := 16) dX0_record_16 ?_
    refine wm_iconst hC (pc := 19) dX0_record_19 ?_
    refine wm_sipush hC (pc := 20) dX0_record_20 (by decide) ?_
    refine wm_copy hC ac_X0_19 ac_nat ac_stat ac_ini rfl rfl (by omega) (by decide) (Nat.le_of_ble_eq_true rfl) (pc := 23) dX0_record_23 ?_
    refine wm_aload_n hC 0 (pc := 26) dX0_record_26 rfl rfl ?_
    refine wm_iconst hC (pc := 27) dX0_record_27 ?_
    refine wm_putI hC 7 1 fp_X0_15_0 rfl rfl rfl (pc := 28) dX0_record_28 ?_
    exact j31 (recS w) (by show 0 ≤ (3 : Int) ∧ (3 : Int) ≤ 3; omega) (by unfold recF; rw [if_neg (by omega)])
set_option maxRecDepth 100000 in
set_option maxHeartbeats 4000000 in
theorem s_X0_restore {l : Launch} {G : mG} {w : mW} (h7 : 0 < w 7 1 ∧ w 7 1 ≤ 4) : Mx l G 2 yX0_restore cX0_restore 5 none [mvR 7, mvR 1, mvR 3, mvR 5] w (qV (fun w' => w' = resF w)) := by
  refine Mx.intro (by decide) RX0 rfl [some (mvR 7), some (mvR 1), some (mvR 3), some (mvR 5), none] (Nat.le_of_ble_eq_true rfl) rfl (fun K hC => ?_)
  refine wm_aload_n hC 0 (pc := 0) dX0_restore_0 rfl rfl ?_
  refine wm_getI hC 7 1 fl_X0_15_0 rfl rfl rfl (pc := 1) dX0_restore_1 ?_
  refine wm_if_le hC 63 (pc := 4) dX0_restore_4 (by decide) (by omega) (fun h4 => ?_) (fun h4 => ?_)
  · omega
  · refine wm_aload_n hC 0 (pc := 7) dX0_restore_7 rfl rfl ?_
    refine wm_dup hC (pc := 8) dX0_restore_8 rfl ?_
    refine wm_getI hC 7 1 fl_X0_15_0 rfl rfl rfl (pc := 9) dX0_restore_9 ?_
    refine wm_iconst hC (pc := 12) dX0_restore_12 ?_
    refine wm_isub hC (pc := 13) dX0_restore_13 ?_
    refine wm_putI hC 7 1 fp_X0_15_0 rfl rfl rfl (pc := 14) dX0_restore_14 ?_
    refine wm_aload_n hC 0 (pc := 17) dX0_restore_17 rfl rfl ?_
    refine wm_getI hC 7 1 fl_X0_15_0 rfl rfl rfl (pc := 18) dX0_restore_18 ?_
    rw [mup_at]
    refine wm_sipush hC (pc := 21) dX0_restore_21 (by decide) ?_
    refine wm_imul hC (pc := 24) dX0_restore_24 ?_
    refine wm_istore hC  (pc := 25) dX0_restore_25  (by decide) rfl ?_
    refine wm_aload_n hC 1 (pc := 27) dX0_restore_27 rfl rfl ?_
    refine wm_aload_n hC 0 (pc := 28) dX0_restore_28 rfl rfl ?_
    refine wm_getR hC fl_X0_11_0 rfl rfl (pc := 29) dX0_restore_29 ?_
    refine wm_iload hC  (pc := 32) dX0_restore_32 rfl ?_
    refine wm_vV hC cv_X0_29 kc_X3_loadFrom rfl rfl (s_X3_loadFrom planIx1 rfl (by decide) (by omega)) rfl (by decide) rfl (Nat.le_of_ble_eq_true rfl) (pc := 34) dX0_restore_34 (fun w34 hw34 => ?_)
    subst hw34
    refine wm_aload_n hC 2 (pc := 37) dX0_restore_37 rfl rfl ?_
    refine wm_aload_n hC 0 (pc := 38) dX0_restore_38 rfl rfl ?_
    refine wm_getR hC fl_X0_11_0 rfl rfl (pc := 39) dX0_restore_39 ?_
    refine wm_iload hC  (pc := 42) dX0_restore_42 rfl ?_
    refine wm_bipush hC (pc := 44) dX0_restore_44 (by decide) ?_
    refine wm_iadd hC (pc := 46) dX0_restore_46 ?_
    refine wm_vV hC cv_X0_29 kc_X3_loadFrom rfl rfl (s_X3_loadFrom planIx3 rfl (by decide) (by omega)) rfl (by decide) rfl (Nat.le_of_ble_eq_true rfl) (pc := 47) dX0_restore_47 (fun w47 hw47 => ?_)
    subst hw47
    refine wm_aload_n hC 3 (pc := 50) dX0_restore_50 rfl rfl ?_
    refine wm_aload_n hC 0 (pc := 51) dX0_restore_51 rfl rfl ?_
    refine wm_getR hC fl_X0_11_0 rfl rfl (pc := 52) dX0_restore_52 ?_
    refine wm_iload hC  (pc := 55) dX0_restore_55 rfl ?_
    refine wm_bipush hC (pc := 57) dX0_restore_57 (by decide) ?_
    refine wm_iadd hC (pc := 59) dX0_restore_59 ?_
    refine wm_vV hC cv_X0_29 kc_X3_loadFrom rfl rfl (s_X3_loadFrom planIx5 rfl (by decide) (by omega)) rfl (by decide) rfl (Nat.le_of_ble_eq_true rfl) (pc := 60) dX0_restore_60 (fun w60 hw60 => ?_)
    subst hw60
    refine wm_retV hC (pc := 63) dX0_restore_63 ?_
    rfl
set_option maxRecDepth 100000 in
set_option maxHeartbeats 4000000 in
theorem s_X8_remember {l : Launch} {G : mG} {w : mW} (hI : CInv w) : Mx l G 3 yX8_remember cX8_remember 1 none [mvR 0] w (qV (fun w' => w' = recF w)) := by
  refine Mx.intro (by decide) RX8 rfl [some (mvR 0)] (Nat.le_of_ble_eq_true rfl) rfl (fun K hC => ?_)
  refine wm_aload_n hC 0 (pc := 0) dX8_remember_0 rfl rfl ?_
  refine wm_getR hC fl_X8_25_7 rfl rfl (pc := 1) dX8_remember_1 ?_
  refine wm_aload_n hC 0 (pc := 4) dX8_remember_4 rfl rfl ?_
  refine wm_getR hC fl_X8_10_7 rfl rfl (pc := 5) dX8_remember_5 ?_
  refine wm_aload_n hC 0 (pc := 8) dX8_remember_8 rfl rfl ?_
  refine wm_getR hC fl_X8_16_7 rfl rfl (pc := 9) dX8_remember_9 ?_
  refine wm_aload_n hC 0 (pc := 12) dX8_remember_12 rfl rfl ?_
  refine wm_getR hC fl_X8_19_7 rfl rfl (pc := 13) dX8_remember_13 ?_
  refine wm_vV hC cv_X8_251 kc_X0_record rfl rfl (s_X0_record hI.2.1) rfl (by decide) rfl (Nat.le_of_ble_eq_true rfl) (pc := 16) dX8_remember_16 (fun w16 hw16 => ?_)
  refine wm_retV hC (pc := 19) dX8_remember_19 ?_
  exact hw16
theorem CInv.rec {w : mW} (hI : CInv w) {p : Nat} (hp : p < 3) : PlanOK (recF w) (2 * p + 1) := (hI.1 p hp).congr (recF_ne (by omega) (by omega))
theorem PlanOK.arrow {w : mW} {p : Nat} (hk : PlanOK w p) {s k t : Int} (hs : 0 ≤ s ∧ s < 8) (hkk : 0 ≤ k ∧ k < 6) (ht : -1 ≤ t ∧ t < 8) : PlanOK (mup w (p + 1) (s * 7 + 1 + k) t) p := by
  intro s' h1 h2
  have h := hk s' h1 h2
  refine ⟨?_, fun k' h3 h4 => ?_⟩
  · rw [mup_get, if_neg (by omega)]; exact h.1
  · rw [mup_get]
    split
    · exact ht
    · exact h.2 k' h3 h4
theorem PlanOK.kind {w : mW} {p : Nat} (hk : PlanOK w p) {s t : Int} (hs : 0 ≤ s ∧ s < 8) (ht : 0 ≤ t ∧ t < 3) : PlanOK (mup w (p + 1) (s * 7) t) p := by
  intro s' h1 h2
  have h := hk s' h1 h2
  refine ⟨?_, fun k' h3 h4 => ?_⟩
  · rw [mup_get]
    split
    · exact ht
    · exact h.1
  · rw [mup_get, if_neg (by omega)]; exact h.2 k' h3 h4
theorem PlanOK.swap {w : mW} {p : Nat} (hk : PlanOK w p) : PlanOK (pswp w p 56) p := by
  intro s' h1 h2
  have h := hk s' h1 h2
  refine ⟨?_, fun k' h3 h4 => ?_⟩
  · unfold pswp
    rw [if_pos (by omega)]
    unfold swp
    split
    · omega
    · split <;> omega
  · unfold pswp
    rw [if_neg (by omega)]; exact h.2 k' h3 h4
theorem PlanOK.take {w : mW} {p q : Nat} (hk : PlanOK w q) : PlanOK (mcopy w (q + 1) (p + 1) 0 0 56) p := by
  intro s' h1 h2
  have h := hk s' h1 h2
  refine ⟨?_, fun k' h3 h4 => ?_⟩
  · unfold mcopy
    rw [if_pos (by omega), show (0 : Int) + (s' * 7 - 0) = s' * 7 by omega]; exact h.1
  · unfold mcopy
    rw [if_pos (by omega), show (0 : Int) + (s' * 7 + 1 + k' - 0) = s' * 7 + 1 + k' by omega]; exact h.2 k' h3 h4
set_option maxRecDepth 100000 in
set_option maxHeartbeats 4000000 in
theorem s_X8_kind {l : Launch} {G : mG} {w : mW} {a b c : Int} (hI : CInv w) (ha : -2147483648 ≤ a ∧ a < 2147483648) (hb : -2147483648 ≤ b ∧ b < 2147483648) (hc : -2147483648 ≤ c ∧ c < 2147483648) : Mx l G 4 yX8_kind cX8_kind 5 (some .int) [mvR 0, mvI a, mvI b, mvI c] w (qI (fun z w' => (¬ (0 ≤ a ∧ a < 3 ∧ 0 ≤ b ∧ b < 8 ∧ 0 ≤ c ∧ c < 3) ∧ z = -1000001 ∧ w' = w) ∨ ((0 ≤ a ∧ a < 3 ∧ 0 ≤ b ∧ b < 8 ∧ 0 ≤ c ∧ c < 3) ∧ z = w (2 * a.toNat + 2) (b * 7) ∧ w' = mup (recF w) (2 * a.toNat + 2) (b * 7) c))) := by
  refine Mx.intro (by decide) RX8 rfl [some (mvR 0), some (mvI a), some (mvI b), some (mvI c), none] (Nat.le_of_ble_eq_true rfl) rfl (fun K hC => ?_)
  refine wm_iload_n hC 1 (pc := 0) dX8_kind_0 rfl rfl ?_
  refine wm_pS hC cs_X8_66 kc_X8_isPlan (s_X8_isPlan (by omega)) rfl (by decide) rfl (Nat.le_of_ble_eq_true rfl) (pc := 1) dX8_kind_1 ?_
  refine wm_ifd_eq hC 21 (pc := 4) dX8_kind_4 (by decide) (fun h4 => ?_) (fun h4 => ?_)
  · refine wm_ldc hC (-1000001) kI_X8_76 (pc := 21) dX8_kind_21 ?_
    refine wm_iretI hC (pc := 23) dX8_kind_23 ?_
    left
    exact ⟨by omega, rfl, rfl⟩
  · refine wm_iload_n hC 2 (pc := 7) dX8_kind_7 rfl rfl ?_
    refine wm_pS hC cs_X8_70 kc_X8_isState (s_X8_isState (by omega)) rfl (by decide) rfl (Nat.le_of_ble_eq_true rfl) (pc := 8) dX8_kind_8 ?_
    refine wm_ifd_eq hC 21 (pc := 11) dX8_kind_11 (by decide) (fun h11 => ?_) (fun h11 => ?_)
    · refine wm_ldc hC (-1000001) kI_X8_76 (pc := 21) dX8_kind_21 ?_
      refine wm_iretI hC (pc := 23) dX8_kind_23 ?_
      left
      exact ⟨by omega, rfl, rfl⟩
    · refine wm_iload_n hC 3 (pc := 14) dX8_kind_14 rfl rfl ?_
      refine wm_pS hC cs_X8_73 kc_X8_isKind (s_X8_isKind (by omega)) rfl (by decide) rfl (Nat.le_of_ble_eq_true rfl) (pc := 15) dX8_kind_15 ?_
      refine wm_ifd_ne hC 24 (pc := 18) dX8_kind_18 (by decide) (fun h18 => ?_) (fun h18 => ?_)
      · obtain ⟨p, rfl⟩ : ∃ p : Nat, a = (p : Int) := ⟨a.toNat, by omega⟩
        have hp : p < 3 := by omega
        refine wm_aload_n hC 0 (pc := 24) dX8_kind_24 rfl rfl ?_
        refine wm_vV hC cv_X8_77 kc_X8_remember rfl rfl (s_X8_remember hI) rfl (by decide) rfl (Nat.le_of_ble_eq_true rfl) (pc := 25) dX8_kind_25 (fun w25 hw25 => ?_)
        subst hw25
        refine wm_aload_n hC 0 (pc := 28) dX8_kind_28 rfl rfl ?_
        refine wm_iload_n hC 1 (pc := 29) dX8_kind_29 rfl rfl ?_
        refine wm_pV hC cv_X8_80 kc_X8_planAt rfl rfl (s_X8_planAt hp) rfl (by decide) rfl (Nat.le_of_ble_eq_true rfl) (pc := 30) dX8_kind_30 ?_
        refine wm_iload_n hC 2 (pc := 33) dX8_kind_33 rfl rfl ?_
        refine wm_pV hC cv_X8_84 kc_X3_kindOf (planIxP hp).1 rfl (s_X3_kindOf (planIxP hp) (by omega)) rfl (by decide) rfl (Nat.le_of_ble_eq_true rfl) (pc := 34) dX8_kind_34 ?_
        refine wm_istore hC  (pc := 37) dX8_kind_37  (by decide) rfl ?_
        refine wm_aload_n hC 0 (pc := 39) dX8_kind_39 rfl rfl ?_
        refine wm_iload_n hC 1 (pc := 40) dX8_kind_40 rfl rfl ?_
        refine wm_pV hC cv_X8_80 kc_X8_planAt rfl rfl (s_X8_planAt hp) rfl (by decide) rfl (Nat.le_of_ble_eq_true rfl) (pc := 41) dX8_kind_41 ?_
        refine wm_iload_n hC 2 (pc := 44) dX8_kind_44 rfl rfl ?_
        refine wm_iload_n hC 3 (pc := 45) dX8_kind_45 rfl rfl ?_
        refine wm_vV hC cv_X8_88 kc_X3_setKind (planIxP hp).1 rfl (s_X3_setKind (planIxP hp) (by omega)) rfl (by decide) rfl (Nat.le_of_ble_eq_true rfl) (pc := 46) dX8_kind_46 (fun w46 hw46 => ?_)
        subst hw46
        refine wm_iload hC  (pc := 49) dX8_kind_49 rfl ?_
        refine wm_iretI hC (pc := 51) dX8_kind_51 ?_
        right
        exact ⟨by omega, by rw [recF_ne (by omega) (by omega)]; rfl, rfl⟩
      · refine wm_ldc hC (-1000001) kI_X8_76 (pc := 21) dX8_kind_21 ?_
        refine wm_iretI hC (pc := 23) dX8_kind_23 ?_
        left
        exact ⟨by omega, rfl, rfl⟩
set_option maxRecDepth 100000 in
set_option maxHeartbeats 4000000 in
theorem s_X8_arrow {l : Launch} {G : mG} {w : mW} {a b c e : Int} (hI : CInv w) (ha : -2147483648 ≤ a ∧ a < 2147483648) (hb : -2147483648 ≤ b ∧ b < 2147483648) (hc : -2147483648 ≤ c ∧ c < 2147483648) (he : -2147483648 ≤ e ∧ e < 2147483648) : Mx l G 4 yX8_arrow cX8_arrow 5 (some .int) [mvR 0, mvI a, mvI b, mvI c, mvI e] w (qI (fun z w' => (¬ (0 ≤ a ∧ a < 3 ∧ 0 ≤ b ∧ b < 8 ∧ 0 ≤ c ∧ c < 6 ∧ 0 ≤ e ∧ e < 8) ∧ z = -1000001 ∧ w' = w) ∨ ((0 ≤ a ∧ a < 3 ∧ 0 ≤ b ∧ b < 8 ∧ 0 ≤ c ∧ c < 6 ∧ 0 ≤ e ∧ e < 8) ∧ z = ((mpop (wmask (hasW w' (2 * a.toNat + 1) b) 6) : Nat) : Int) ∧ w' = mup (recF w) (2 * a.toNat + 2) (b * 7 + 1 + c) e))) := by
  refine Mx.intro (by decide) RX8 rfl [some (mvR 0), some (mvI a), some (mvI b), some (mvI c), some (mvI e)] (Nat.le_of_ble_eq_true rfl) rfl (fun K hC => ?_)
  refine wm_iload_n hC 1 (pc := 0) dX8_arrow_0 rfl rfl ?_
  refine wm_pS hC cs_X8_66 kc_X8_isPlan (s_X8_isPlan (by omega)) rfl (by decide) rfl (Nat.le_of_ble_eq_true rfl) (pc := 1) dX8_arrow_1 ?_
  refine wm_ifd_eq hC 29 (pc := 4) dX8_arrow_4 (by decide) (fun h4 => ?_) (fun h4 => ?_)
  · refine wm_ldc hC (-1000001) kI_X8_76 (pc := 29) dX8_arrow_29 ?_
    refine wm_iretI hC (pc := 31) dX8_arrow_31 ?_
    left
    exact ⟨by omega, rfl, rfl⟩
  · refine wm_iload_n hC 2 (pc := 7) dX8_arrow_7 rfl rfl ?_
    refine wm_pS hC cs_X8_70 kc_X8_isState (s_X8_isState (by omega)) rfl (by decide) rfl (Nat.le_of_ble_eq_true rfl) (pc := 8) dX8_arrow_8 ?_
    refine wm_ifd_eq hC 29 (pc := 11) dX8_arrow_11 (by decide) (fun h11 => ?_) (fun h11 => ?_)
    · refine wm_ldc hC (-1000001) kI_X8_76 (pc := 29) dX8_arrow_29 ?_
      refine wm_iretI hC (pc := 31) dX8_arrow_31 ?_
      left
      exact ⟨by omega, rfl, rfl⟩
    · refine wm_iload_n hC 3 (pc := 14) dX8_arrow_14 rfl rfl ?_
      refine wm_pS hC cs_X8_92 kc_X8_isWord (s_X8_isWord (by omega)) rfl (by decide) rfl (Nat.le_of_ble_eq_true rfl) (pc := 15) dX8_arrow_15 ?_
      refine wm_ifd_eq hC 29 (pc := 18) dX8_arrow_18 (by decide) (fun h18 => ?_) (fun h18 => ?_)
      · refine wm_ldc hC (-1000001) kI_X8_76 (pc := 29) dX8_arrow_29 ?_
        refine wm_iretI hC (pc := 31) dX8_arrow_31 ?_
        left
        exact ⟨by omega, rfl, rfl⟩
      · refine wm_iload hC  (pc := 21) dX8_arrow_21 rfl ?_
        refine wm_pS hC cs_X8_70 kc_X8_isState (s_X8_isState (by omega)) rfl (by decide) rfl (Nat.le_of_ble_eq_true rfl) (pc := 23) dX8_arrow_23 ?_
        refine wm_ifd_ne hC 32 (pc := 26) dX8_arrow_26 (by decide) (fun h26 => ?_) (fun h26 => ?_)
        · obtain ⟨p, rfl⟩ : ∃ p : Nat, a = (p : Int) := ⟨a.toNat, by omega⟩
          have hp : p < 3 := by omega
          refine wm_aload_n hC 0 (pc := 32) dX8_arrow_32 rfl rfl ?_
          refine wm_vV hC cv_X8_77 kc_X8_remember rfl rfl (s_X8_remember hI) rfl (by decide) rfl (Nat.le_of_ble_eq_true rfl) (pc := 33) dX8_arrow_33 (fun w33 hw33 => ?_)
          subst hw33
          refine wm_aload_n hC 0 (pc := 36) dX8_arrow_36 rfl rfl ?_
          refine wm_iload_n hC 1 (pc := 37) dX8_arrow_37 rfl rfl ?_
          refine wm_pV hC cv_X8_80 kc_X8_planAt rfl rfl (s_X8_planAt hp) rfl (by decide) rfl (Nat.le_of_ble_eq_true rfl) (pc := 38) dX8_arrow_38 ?_
          refine wm_iload_n hC 2 (pc := 41) dX8_arrow_41 rfl rfl ?_
          refine wm_iload_n hC 3 (pc := 42) dX8_arrow_42 rfl rfl ?_
          refine wm_iload hC  (pc := 43) dX8_arrow_43 rfl ?_
          refine wm_vV hC cv_X8_95 kc_X3_setTarget (planIxP hp).1 rfl (s_X3_setTarget (planIxP hp) (by omega) (by omega)) rfl (by decide) rfl (Nat.le_of_ble_eq_true rfl) (pc := 45) dX8_arrow_45 (fun w45 hw45 => ?_)
          subst hw45
          refine wm_aload_n hC 0 (pc := 48) dX8_arrow_48 rfl rfl ?_
          refine wm_iload_n hC 1 (pc := 49) dX8_arrow_49 rfl rfl ?_
          refine wm_pV hC cv_X8_80 kc_X8_planAt rfl rfl (s_X8_planAt hp) rfl (by decide) rfl (Nat.le_of_ble_eq_true rfl) (pc := 50) dX8_arrow_50 ?_
          refine wm_iload_n hC 2 (pc := 53) dX8_arrow_53 rfl rfl ?_
          refine wm_pV hC cv_X8_99 kc_X3_wordsOf (planIxP hp).1 rfl (s_X3_wordsOf (planIxP hp) (by omega) (PlanOK.arrow (hI.rec hp) (by omega) (by omega) (by omega))) rfl (by decide) rfl (Nat.le_of_ble_eq_true rfl) (pc := 54) dX8_arrow_54 ?_
          refine wm_pS hC cs_X8_102 kc_J6_bitCount_0f7a4 (s_J6_bitCount_0f7a4 (Nat.lt_of_lt_of_le (wmask_lt _ 6) (by decide))) rfl (by decide) rfl (Nat.le_of_ble_eq_true rfl) (pc := 57) dX8_arrow_57 ?_
          refine wm_iretI hC (pc := 60) dX8_arrow_60 ?_
          right
          exact ⟨by omega, rfl, rfl⟩
        · refine wm_ldc hC (-1000001) kI_X8_76 (pc := 29) dX8_arrow_29 ?_
          refine wm_iretI hC (pc := 31) dX8_arrow_31 ?_
          left
          exact ⟨by omega, rfl, rfl⟩
set_option maxRecDepth 100000 in
set_option maxHeartbeats 4000000 in
theorem s_X8_erase {l : Launch} {G : mG} {w : mW} {a b c : Int} (hI : CInv w) (ha : -2147483648 ≤ a ∧ a < 2147483648) (hb : -2147483648 ≤ b ∧ b < 2147483648) (hc : -2147483648 ≤ c ∧ c < 2147483648) : Mx l G 4 yX8_erase cX8_erase 5 (some .int) [mvR 0, mvI a, mvI b, mvI c] w (qI (fun z w' => (¬ (0 ≤ a ∧ a < 3 ∧ 0 ≤ b ∧ b < 8 ∧ 0 ≤ c ∧ c < 6) ∧ z = -1000001 ∧ w' = w) ∨ ((0 ≤ a ∧ a < 3 ∧ 0 ≤ b ∧ b < 8 ∧ 0 ≤ c ∧ c < 6) ∧ ((w (2 * a.toNat + 2) (b * 7 + 1 + c) = -1 ∧ z = -1000002 ∧ w' = w) ∨ (¬ w (2 * a.toNat + 2) (b * 7 + 1 + c) = -1 ∧ z = w (2 * a.toNat + 2) (b * 7 + 1 + c) ∧ w' = mup (recF w) (2 * a.toNat + 2) (b * 7 + 1 + c) (-1)))))) := by
  refine Mx.intro (by decide) RX8 rfl [some (mvR 0), some (mvI a), some (mvI b), some (mvI c), none] (Nat.le_of_ble_eq_true rfl) rfl (fun K hC => ?_)
  refine wm_iload_n hC 1 (pc := 0) dX8_erase_0 rfl rfl ?_
  refine wm_pS hC cs_X8_66 kc_X8_isPlan (s_X8_isPlan (by omega)) rfl (by decide) rfl (Nat.le_of_ble_eq_true rfl) (pc := 1) dX8_erase_1 ?_
  refine wm_ifd_eq hC 21 (pc := 4) dX8_erase_4 (by decide) (fun h4 => ?_) (fun h4 => ?_)
  · refine wm_ldc hC (-1000001) kI_X8_76 (pc := 21) dX8_erase_21 ?_
    refine wm_iretI hC (pc := 23) dX8_erase_23 ?_
    left
    exact ⟨by omega, rfl, rfl⟩
  · refine wm_iload_n hC 2 (pc := 7) dX8_erase_7 rfl rfl ?_
    refine wm_pS hC cs_X8_70 kc_X8_isState (s_X8_isState (by omega)) rfl (by decide) rfl (Nat.le_of_ble_eq_true rfl) (pc := 8) dX8_erase_8 ?_
    refine wm_ifd_eq hC 21 (pc := 11) dX8_erase_11 (by decide) (fun h11 => ?_) (fun h11 => ?_)
    · refine wm_ldc hC (-1000001) kI_X8_76 (pc := 21) dX8_erase_21 ?_
      refine wm_iretI hC (pc := 23) dX8_erase_23 ?_
      left
      exact ⟨by omega, rfl, rfl⟩
    · refine wm_iload_n hC 3 (pc := 14) dX8_erase_14 rfl rfl ?_
      refine wm_pS hC cs_X8_92 kc_X8_isWord (s_X8_isWord (by omega)) rfl (by decide) rfl (Nat.le_of_ble_eq_true rfl) (pc := 15) dX8_erase_15 ?_
      refine wm_ifd_ne hC 24 (pc := 18) dX8_erase_18 (by decide) (fun h18 => ?_) (fun h18 => ?_)
      · obtain ⟨p, rfl⟩ : ∃ p : Nat, a = (p : Int) := ⟨a.toNat, by omega⟩
        have hp : p < 3 := by omega
        refine wm_aload_n hC 0 (pc := 24) dX8_erase_24 rfl rfl ?_
        refine wm_iload_n hC 1 (pc := 25) dX8_erase_25 rfl rfl ?_
        refine wm_pV hC cv_X8_80 kc_X8_planAt rfl rfl (s_X8_planAt hp) rfl (by decide) rfl (Nat.le_of_ble_eq_true rfl) (pc := 26) dX8_erase_26 ?_
        refine wm_iload_n hC 2 (pc := 29) dX8_erase_29 rfl rfl ?_
        refine wm_iload_n hC 3 (pc := 30) dX8_erase_30 rfl rfl ?_
        refine wm_pV hC cv_X8_107 kc_X3_targetOf (planIxP hp).1 rfl (s_X3_targetOf (planIxP hp) (by omega) (by omega)) rfl (by decide) rfl (Nat.le_of_ble_eq_true rfl) (pc := 31) dX8_erase_31 ?_
        refine wm_istore hC  (pc := 34) dX8_erase_34  (by decide) rfl ?_
        refine wm_iload hC  (pc := 36) dX8_erase_36 rfl ?_
        refine wm_iconst hC (pc := 38) dX8_erase_38 ?_
        have hb := ((hI.1 p hp) b (by omega) (by omega)).2 c (by omega) (by omega)
        refine wm_icmp_ne hC 45 (pc := 39) dX8_erase_39 (by decide) (by omega) (by omega) (fun h39 => ?_) (fun h39 => ?_)
        · refine wm_aload_n hC 0 (pc := 45) dX8_erase_45 rfl rfl ?_
          refine wm_vV hC cv_X8_77 kc_X8_remember rfl rfl (s_X8_remember hI) rfl (by decide) rfl (Nat.le_of_ble_eq_true rfl) (pc := 46) dX8_erase_46 (fun w46 hw46 => ?_)
          subst hw46
          refine wm_aload_n hC 0 (pc := 49) dX8_erase_49 rfl rfl ?_
          refine wm_iload_n hC 1 (pc := 50) dX8_erase_50 rfl rfl ?_
          refine wm_pV hC cv_X8_80 kc_X8_planAt rfl rfl (s_X8_planAt hp) rfl (by decide) rfl (Nat.le_of_ble_eq_true rfl) (pc := 51) dX8_erase_51 ?_
          refine wm_iload_n hC 2 (pc := 54) dX8_erase_54 rfl rfl ?_
          refine wm_iload_n hC 3 (pc := 55) dX8_erase_55 rfl rfl ?_
          refine wm_iconst hC (pc := 56) dX8_erase_56 ?_
          refine wm_vV hC cv_X8_95 kc_X3_setTarget (planIxP hp).1 rfl (s_X3_setTarget (planIxP hp) (by omega) (by omega)) rfl (by decide) rfl (Nat.le_of_ble_eq_true rfl) (pc := 57) dX8_erase_57 (fun w57 hw57 => ?_)
          subst hw57
          refine wm_iload hC  (pc := 60) dX8_erase_60 rfl ?_
          refine wm_iretI hC (pc := 62) dX8_erase_62 ?_
          right
          exact ⟨by omega, Or.inr ⟨h39, rfl, rfl⟩⟩
        · refine wm_ldc hC (-1000002) kI_X8_111 (pc := 42) dX8_erase_42 ?_
          refine wm_iretI hC (pc := 44) dX8_erase_44 ?_
          right
          exact ⟨by omega, Or.inl ⟨h39, rfl, rfl⟩⟩
      · refine wm_ldc hC (-1000001) kI_X8_76 (pc := 21) dX8_erase_21 ?_
        refine wm_iretI hC (pc := 23) dX8_erase_23 ?_
        left
        exact ⟨by omega, rfl, rfl⟩
set_option maxRecDepth 100000 in
set_option maxHeartbeats 4000000 in
theorem s_X8_copy {l : Launch} {G : mG} {w : mW} {a b : Int} (hI : CInv w) (ha : -2147483648 ≤ a ∧ a < 2147483648) (hb : -2147483648 ≤ b ∧ b < 2147483648) : Mx l G 4 yX8_copy cX8_copy 3 (some .int) [mvR 0, mvI a, mvI b] w (qI (fun z w' => (¬ (0 ≤ a ∧ a < 3 ∧ 0 ≤ b ∧ b < 3 ∧ ¬ a = b) ∧ z = -1000001 ∧ w' = w) ∨ ((0 ≤ a ∧ a < 3 ∧ 0 ≤ b ∧ b < 3 ∧ ¬ a = b) ∧ z = ((cnt (fun s => decide (¬ w' (2 * b.toNat + 2) ((s : Int) * 7) = 0)) 8 : Nat) : Int) ∧ w' = mcopy (recF w) (2 * a.toNat + 2) (2 * b.toNat + 2) 0 0 56))) := by
  refine Mx.intro (by decide) RX8 rfl [some (mvR 0), some (mvI a), some (mvI b)] (Nat.le_of_ble_eq_true rfl) rfl (fun K hC => ?_)
  refine wm_iload_n hC 1 (pc := 0) dX8_copy_0 rfl rfl ?_
  refine wm_pS hC cs_X8_66 kc_X8_isPlan (s_X8_isPlan (by omega)) rfl (by decide) rfl (Nat.le_of_ble_eq_true rfl) (pc := 1) dX8_copy_1 ?_
  refine wm_ifd_eq hC 19 (pc := 4) dX8_copy_4 (by decide) (fun h4 => ?_) (fun h4 => ?_)
  · refine wm_ldc hC (-1000001) kI_X8_76 (pc := 19) dX8_copy_19 ?_
    refine wm_iretI hC (pc := 21) dX8_copy_21 ?_
    left
    exact ⟨by omega, rfl, rfl⟩
  · refine wm_iload_n hC 2 (pc := 7) dX8_copy_7 rfl rfl ?_
    refine wm_pS hC cs_X8_66 kc_X8_isPlan (s_X8_isPlan (by omega)) rfl (by decide) rfl (Nat.le_of_ble_eq_true rfl) (pc := 8) dX8_copy_8 ?_
    refine wm_ifd_eq hC 19 (pc := 11) dX8_copy_11 (by decide) (fun h11 => ?_) (fun h11 => ?_)
    · refine wm_ldc hC (-1000001) kI_X8_76 (pc := 19) dX8_copy_19 ?_
      refine wm_iretI hC (pc := 21) dX8_copy_21 ?_
      left
      exact ⟨by omega, rfl, rfl⟩
    · refine wm_iload_n hC 1 (pc := 14) dX8_copy_14 rfl rfl ?_
      refine wm_iload_n hC 2 (pc := 15) dX8_copy_15 rfl rfl ?_
      refine wm_icmp_ne hC 22 (pc := 16) dX8_copy_16 (by decide) (by omega) (by omega) (fun h16 => ?_) (fun h16 => ?_)
      · obtain ⟨p, rfl⟩ : ∃ p : Nat, a = (p : Int) := ⟨a.toNat, by omega⟩
        have hp : p < 3 := by omega
        obtain ⟨q, rfl⟩ : ∃ q : Nat, b = (q : Int) := ⟨b.toNat, by omega⟩
        have hq : q < 3 := by omega
        refine wm_aload_n hC 0 (pc := 22) dX8_copy_22 rfl rfl ?_
        refine wm_vV hC cv_X8_77 kc_X8_remember rfl rfl (s_X8_remember hI) rfl (by decide) rfl (Nat.le_of_ble_eq_true rfl) (pc := 23) dX8_copy_23 (fun w23 hw23 => ?_)
        subst hw23
        refine wm_aload_n hC 0 (pc := 26) dX8_copy_26 rfl rfl ?_
        refine wm_iload_n hC 2 (pc := 27) dX8_copy_27 rfl rfl ?_
        refine wm_pV hC cv_X8_80 kc_X8_planAt rfl rfl (s_X8_planAt hq) rfl (by decide) rfl (Nat.le_of_ble_eq_true rfl) (pc := 28) dX8_copy_28 ?_
        refine wm_aload_n hC 0 (pc := 31) dX8_copy_31 rfl rfl ?_
        refine wm_iload_n hC 1 (pc := 32) dX8_copy_32 rfl rfl ?_
        refine wm_pV hC cv_X8_80 kc_X8_planAt rfl rfl (s_X8_planAt hp) rfl (by decide) rfl (Nat.le_of_ble_eq_true rfl) (pc := 33) dX8_copy_33 ?_
        refine wm_vV hC cv_X8_112 kc_X3_take (planIxP hq).1 rfl (s_X3_take (planIxP hq) (planIxP hp)) rfl (by decide) rfl (Nat.le_of_ble_eq_true rfl) (pc := 36) dX8_copy_36 (fun w36 hw36 => ?_)
        subst hw36
        refine wm_aload_n hC 0 (pc := 39) dX8_copy_39 rfl rfl ?_
        refine wm_iload_n hC 2 (pc := 40) dX8_copy_40 rfl rfl ?_
        refine wm_pV hC cv_X8_80 kc_X8_planAt rfl rfl (s_X8_planAt hq) rfl (by decide) rfl (Nat.le_of_ble_eq_true rfl) (pc := 41) dX8_copy_41 ?_
        refine wm_pV hC cv_X8_115 kc_X3_lastingStates (planIxP hq).1 rfl (s_X3_lastingStates (planIxP hq) (PlanOK.take (hI.rec hp))) rfl (by decide) rfl (Nat.le_of_ble_eq_true rfl) (pc := 44) dX8_copy_44 ?_
        refine wm_iretI hC (pc := 47) dX8_copy_47 ?_
        right
        exact ⟨by omega, rfl, rfl⟩
      · refine wm_ldc hC (-1000001) kI_X8_76 (pc := 19) dX8_copy_19 ?_
        refine wm_iretI hC (pc := 21) dX8_copy_21 ?_
        left
        exact ⟨by omega, rfl, rfl⟩
set_option maxRecDepth 100000 in
set_option maxHeartbeats 4000000 in
theorem s_X8_mirror {l : Launch} {G : mG} {w : mW} {a : Int} (hI : CInv w) (ha : -2147483648 ≤ a ∧ a < 2147483648) : Mx l G 4 yX8_mirror cX8_mirror 2 (some .int) [mvR 0, mvI a] w (qI (fun z w' => (¬ (0 ≤ a ∧ a < 3) ∧ z = -1000001 ∧ w' = w) ∨ ((0 ≤ a ∧ a < 3) ∧ z = ((cnt (fun s => decide (¬ w' (2 * a.toNat + 2) ((s : Int) * 7) = 0)) 8 : Nat) : Int) ∧ w' = pswp (recF w) (2 * a.toNat + 1) 56))) := by
  refine Mx.intro (by decide) RX8 rfl [some (mvR 0), some (mvI a)] (Nat.le_of_ble_eq_true rfl) rfl (fun K hC => ?_)
  refine wm_iload_n hC 1 (pc := 0) dX8_mirror_0 rfl rfl ?_
  refine wm_pS hC cs_X8_66 kc_X8_isPlan (s_X8_isPlan (by omega)) rfl (by decide) rfl (Nat.le_of_ble_eq_true rfl) (pc := 1) dX8_mirror_1 ?_
  refine wm_ifd_ne hC 10 (pc := 4) dX8_mirror_4 (by decide) (fun h4 => ?_) (fun h4 => ?_)
  · obtain ⟨p, rfl⟩ : ∃ p : Nat, a = (p : Int) := ⟨a.toNat, by omega⟩
    have hp : p < 3 := by omega
    refine wm_aload_n hC 0 (pc := 10) dX8_mirror_10 rfl rfl ?_
    refine wm_vV hC cv_X8_77 kc_X8_remember rfl rfl (s_X8_remember hI) rfl (by decide) rfl (Nat.le_of_ble_eq_true rfl) (pc := 11) dX8_mirror_11 (fun w11 hw11 => ?_)
    subst hw11
    refine wm_aload_n hC 0 (pc := 14) dX8_mirror_14 rfl rfl ?_
    refine wm_iload_n hC 1 (pc := 15) dX8_mirror_15 rfl rfl ?_
    refine wm_pV hC cv_X8_80 kc_X8_planAt rfl rfl (s_X8_planAt hp) rfl (by decide) rfl (Nat.le_of_ble_eq_true rfl) (pc := 16) dX8_mirror_16 ?_
    refine wm_vV hC cv_X8_119 kc_X3_swapSides (planIxP hp).1 rfl (s_X3_swapSides (planIxP hp) (hI.rec hp)) rfl (by decide) rfl (Nat.le_of_ble_eq_true rfl) (pc := 19) dX8_mirror_19 (fun w19 hw19 => ?_)
    subst hw19
    refine wm_aload_n hC 0 (pc := 22) dX8_mirror_22 rfl rfl ?_
    refine wm_iload_n hC 1 (pc := 23) dX8_mirror_23 rfl rfl ?_
    refine wm_pV hC cv_X8_80 kc_X8_planAt rfl rfl (s_X8_planAt hp) rfl (by decide) rfl (Nat.le_of_ble_eq_true rfl) (pc := 24) dX8_mirror_24 ?_
    refine wm_pV hC cv_X8_115 kc_X3_lastingStates (planIxP hp).1 rfl (s_X3_lastingStates (planIxP hp) (PlanOK.swap (hI.rec hp))) rfl (by decide) rfl (Nat.le_of_ble_eq_true rfl) (pc := 27) dX8_mirror_27 ?_
    refine wm_iretI hC (pc := 30) dX8_mirror_30 ?_
    right
    exact ⟨by omega, rfl, rfl⟩
  · refine wm_ldc hC (-1000001) kI_X8_76 (pc := 7) dX8_mirror_7 ?_
    refine wm_iretI hC (pc := 9) dX8_mirror_9 ?_
    left
    exact ⟨by omega, rfl, rfl⟩
set_option maxRecDepth 100000 in
set_option maxHeartbeats 4000000 in
theorem s_X8_undo {l : Launch} {G : mG} {w : mW} (hI : CInv w) : Mx l G 3 yX8_undo cX8_undo 1 (some .int) [mvR 0] w (qI (fun z w' => (w 7 1 = 0 ∧ z = -1000002 ∧ w' = w) ∨ (¬ w 7 1 = 0 ∧ z = w' 7 1 ∧ w' = resF w))) := by
  refine Mx.intro (by decide) RX8 rfl [some (mvR 0)] (Nat.le_of_ble_eq_true rfl) rfl (fun K hC => ?_)
  refine wm_aload_n hC 0 (pc := 0) dX8_undo_0 rfl rfl ?_
  refine wm_getR hC fl_X8_25_7 rfl rfl (pc := 1) dX8_undo_1 ?_
  refine wm_pV hC cv_X8_209 kc_X0_size rfl rfl (s_X0_size) rfl (by decide) rfl (Nat.le_of_ble_eq_true rfl) (pc := 4) dX8_undo_4 ?_
  have hb := hI.2.1
  refine wm_if_ne hC 13 (pc := 7) dX8_undo_7 (by decide) (by omega) (fun h7 => ?_) (fun h7 => ?_)
  · refine wm_aload_n hC 0 (pc := 13) dX8_undo_13 rfl rfl ?_
    refine wm_getR hC fl_X8_25_7 rfl rfl (pc := 14) dX8_undo_14 ?_
    refine wm_aload_n hC 0 (pc := 17) dX8_undo_17 rfl rfl ?_
    refine wm_getR hC fl_X8_10_7 rfl rfl (pc := 18) dX8_undo_18 ?_
    refine wm_aload_n hC 0 (pc := 21) dX8_undo_21 rfl rfl ?_
    refine wm_getR hC fl_X8_16_7 rfl rfl (pc := 22) dX8_undo_22 ?_
    refine wm_aload_n hC 0 (pc := 25) dX8_undo_25 rfl rfl ?_
    refine wm_getR hC fl_X8_19_7 rfl rfl (pc := 26) dX8_undo_26 ?_
    refine wm_vV hC cv_X8_213 kc_X0_restore rfl rfl (s_X0_restore (by omega)) rfl (by decide) rfl (Nat.le_of_ble_eq_true rfl) (pc := 29) dX8_undo_29 (fun w29 hw29 => ?_)
    subst hw29
    refine wm_aload_n hC 0 (pc := 32) dX8_undo_32 rfl rfl ?_
    refine wm_getR hC fl_X8_25_7 rfl rfl (pc := 33) dX8_undo_33 ?_
    refine wm_pV hC cv_X8_209 kc_X0_size rfl rfl (s_X0_size) rfl (by decide) rfl (Nat.le_of_ble_eq_true rfl) (pc := 36) dX8_undo_36 ?_
    refine wm_iretI hC (pc := 39) dX8_undo_39 ?_
    right
    exact ⟨h7, rfl, rfl⟩
  · refine wm_ldc hC (-1000002) kI_X8_111 (pc := 10) dX8_undo_10 ?_
    refine wm_iretI hC (pc := 12) dX8_undo_12 ?_
    left
    exact ⟨h7, rfl, rfl⟩
