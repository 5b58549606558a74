/-! the reference: the fault of a text, reading it -/
theorem prP_stop {c : Int → Int} {n s : Int} {T : Tx} (h : ¬ (s < n ∧ T.2.2.2.1 = 0)) : ∀ f, prP c n f s T = T
  | 0 => rfl
  | f + 1 => if_neg h
def RFt (w w' : mW) (z : Int) (P : Tx) : Prop := FrS w w' ∧ TI w' ∧ w' 31 17 = P.2.2.2.1 ∧ (0 ≤ P.2.2.2.1 ∧ P.2.2.2.1 ≤ 3) ∧ (P.2.2.2.1 = 0 → z = -1000004 ∧ RVd w' P) ∧ (¬ P.2.2.2.1 = 0 → z = P.2.2.1 ∧ (0 ≤ P.2.2.1 ∧ P.2.2.1 ≤ 80) ∧ w' 31 18 = if P.2.2.2.2 = -1 then -1000004 else P.2.2.2.2)
theorem rrF_31 (w : mW) {b : Int} (hb : b ≠ 2) : rrF w 31 b = w 31 b := by
  unfold rrF rrS rrG
  split
  · rw [mup_get, if_neg (fun q => hb q.2), mcopy_ne (by decide), mup_get, if_neg (fun q => hb q.2), mcopy_ne (by decide)]
  · rw [mup_get, if_neg (fun q => hb q.2), mcopy_ne (by decide)]
theorem RInv.ti {w u : mW} (hI : RInv w) (h4 : u 31 4 = w 31 4) (h34 : u 34 = w 34) (h14 : u 31 14 = 0) : TI u := by
  refine ⟨by rw [h4]; exact hI.2.2.1, by rw [h4, h34]; exact hI.2.2.2, by rw [h4, h14]; have := hI.2.2.1; omega⟩
theorem FrS.inv {w u : mW} (h : FrS w u) (hI : RInv w) : RInv u := by
  obtain ⟨h1, h2, h3, h4⟩ := hI
  refine ⟨h1.congr (h.1 32 (by decide) (by decide) (by decide) (by decide)), by rw [h.2 2 (Or.inl (by decide))]; exact h2, by rw [h.2 4 (Or.inl (by decide))]; exact h3, ?_⟩
  rw [h.2 4 (Or.inl (by decide)), h.1 34 (by decide) (by decide) (by decide) (by decide)]; exact h4
set_option maxRecDepth 100000 in
set_option maxHeartbeats 1000000 in
theorem s_X9_faulty {l : Launch} {G : mG} {w : mW} (hI : RInv w) : Mx l G 4 yX9_faulty cX9_faulty 2 (some .int) [mvR 31] w (qI (fun z w' => RFt w w' z (parP (cR w) (w 31 4)))) := by
  refine Mx.intro (by decide) RX9 rfl [some (mvR 31), none] (Nat.le_of_ble_eq_true rfl) rfl (fun K hC => ?_)
  refine wm_aload_n hC 0 (pc := 0) dX9_faulty_0 rfl rfl ?_
  refine wm_iconst hC (pc := 1) dX9_faulty_1 ?_
  refine wm_putI hC 31 14 fp_X9_219_8 rfl rfl rfl (pc := 2) dX9_faulty_2 ?_
  refine wm_aload_n hC 0 (pc := 5) dX9_faulty_5 rfl rfl ?_
  refine wm_iconst hC (pc := 6) dX9_faulty_6 ?_
  refine wm_putI hC 31 19 fp_X9_247_8 rfl rfl rfl (pc := 7) dX9_faulty_7 ?_
  refine wm_aload_n hC 0 (pc := 10) dX9_faulty_10 rfl rfl ?_
  refine wm_iconst hC (pc := 11) dX9_faulty_11 ?_
  refine wm_putI hC 31 20 fp_X9_253_8 rfl rfl rfl (pc := 12) dX9_faulty_12 ?_
  refine wm_aload_n hC 0 (pc := 15) dX9_faulty_15 rfl rfl ?_
  refine wm_iconst hC (pc := 16) dX9_faulty_16 ?_
  refine wm_putI hC 31 17 fp_X9_256_8 rfl rfl rfl (pc := 17) dX9_faulty_17 ?_
  obtain ⟨v, hv⟩ : ∃ v, v = mup (mup (mup (mup w 31 14 0) 31 19 0) 31 20 0) 31 17 0 := ⟨_, rfl⟩
  rw [← hv]
  have va : ∀ a : Nat, a ≠ 31 → v a = w a := fun a ha => by rw [hv, mup_ne ha, mup_ne ha, mup_ne ha, mup_ne ha]
  have vb : ∀ b : Int, b ≠ 14 → b ≠ 17 → b ≠ 19 → b ≠ 20 → v 31 b = w 31 b := fun b h1 h2 h3 h4 => by rw [hv]; simp [mup, h1, h2, h3, h4]
  have v14 : v 31 14 = 0 := by rw [hv]; simp [mup]
  have v17 : v 31 17 = 0 := by rw [hv]; simp [mup]
  have v19 : v 31 19 = 0 := by rw [hv]; simp [mup]
  have v20 : v 31 20 = 0 := by rw [hv]; simp [mup]
  refine wm_iconst hC (pc := 20) dX9_faulty_20 ?_
  refine wm_istore_n hC 1 (pc := 21) dX9_faulty_21 rfl (by decide) rfl ?_
  have lp22 : ∀ (n : Nat) (j : Nat), n = 56 - j → j ≤ 56 → Wm l G K 4 2 (qI (fun z w' => RFt w w' z (parP (cR w) (w 31 4)))) 22 [some (mvR 31), some (mvI (j : Int))] [] (mfill v 43 (j : Int) 0) := by
    intro n
    induction n using Nat.strongRecOn with
    | _ n ih =>
    intro j hn hj
    refine wm_iload_n hC 1 (pc := 22) dX9_faulty_22 rfl rfl ?_
    refine wm_bipush hC (pc := 23) dX9_faulty_23 (by decide) ?_
    refine wm_icmp_ge hC 41 (pc := 25) dX9_faulty_25 (by decide) (by omega) (by omega) (fun h25 => ?_) (fun h25 => ?_)
    · have lp41 : ∀ (n : Nat) (f : Nat) (s : Int) (u : mW) (T : Tx), n = f → f ≤ 80 → FrS w u → TI u → u 31 17 = T.2.2.2.1 → (0 ≤ T.2.2.2.1 ∧ T.2.2.2.1 ≤ 3) → parP (cR w) (w 31 4) = prP (cR w) (w 31 4) f s T → (T.2.2.2.1 = 0 → RVd u T ∧ T.1 < 256 ∧ TFr T ∧ u 31 14 = s ∧ w 31 4 - s ≤ f) → (¬ T.2.2.2.1 = 0 → (0 ≤ T.2.2.1 ∧ T.2.2.1 ≤ 80) ∧ u 31 15 = T.2.2.1 ∧ u 31 18 = if T.2.2.2.2 = -1 then -1000004 else T.2.2.2.2) → Wm l G K 4 2 (qI (fun z w' => RFt w w' z (parP (cR w) (w 31 4)))) 41 [some (mvR 31), some (mvI (56 : Int))] [] u := by
        intro n
        induction n using Nat.strongRecOn with
        | _ n ih =>
        intro f s u T hn hf hFu hTu h17 hr3 he hq0 hq1
        have hu0 := hTu.2.2
        have hu4 := hTu.1
        have e4 : u 31 4 = w 31 4 := hFu.2 4 (Or.inl (by decide))
        refine wm_aload_n hC 0 (pc := 41) dX9_faulty_41 rfl rfl ?_
        refine wm_getI hC 31 14 fl_X9_219_8 rfl rfl rfl (pc := 42) dX9_faulty_42 ?_
        refine wm_aload_n hC 0 (pc := 45) dX9_faulty_45 rfl rfl ?_
        refine wm_getI hC 31 4 fl_X9_215_8 rfl rfl rfl (pc := 46) dX9_faulty_46 ?_
        refine wm_icmp_ge hC 70 (pc := 49) dX9_faulty_49 (by decide) (by omega) (by omega) (fun h49 => ?_) (fun h49 => ?_)
        · have hst : ¬ (s < w 31 4 ∧ T.2.2.2.1 = 0) := fun q => by
            have := (hq0 q.2).2.2.2.1
            omega
          refine wm_aload_n hC 0 (pc := 70) dX9_faulty_70 rfl rfl ?_
          refine wm_getI hC 31 17 fl_X9_256_8 rfl rfl rfl (pc := 71) dX9_faulty_71 ?_
          refine wm_if_ne hC 82 (pc := 74) dX9_faulty_74 (by decide) (by omega) (fun h74 => ?_) (fun h74 => ?_)
          · refine wm_aload_n hC 0 (pc := 82) dX9_faulty_82 rfl rfl ?_
            refine wm_getI hC 31 15 fl_X9_231_8 rfl rfl rfl (pc := 83) dX9_faulty_83 ?_
            refine wm_iretI hC (pc := 86) dX9_faulty_86 ?_
            rw [he, prP_stop hst f]
            first
            | (have hr0 : T.2.2.2.1 = 0 := by omega
               exact ⟨hFu, hTu, h17, hr3, fun _ => ⟨rfl, (hq0 hr0).1⟩, fun h => absurd hr0 h⟩)
            | (have hr1 : ¬ T.2.2.2.1 = 0 := by omega
               have hq := hq1 hr1
               exact ⟨hFu, hTu, h17, hr3, fun h => absurd h hr1, fun _ => ⟨hq.2.1, hq.1, hq.2.2⟩⟩)
          · refine wm_ldc hC (-1000004) kI_X9_121 (pc := 77) dX9_faulty_77 ?_
            refine wm_goto hC 86 (pc := 79) dX9_faulty_79 (by decide) ?_
            refine wm_iretI hC (pc := 86) dX9_faulty_86 ?_
            rw [he, prP_stop hst f]
            first
            | (have hr0 : T.2.2.2.1 = 0 := by omega
               exact ⟨hFu, hTu, h17, hr3, fun _ => ⟨rfl, (hq0 hr0).1⟩, fun h => absurd hr0 h⟩)
            | (have hr1 : ¬ T.2.2.2.1 = 0 := by omega
               have hq := hq1 hr1
               exact ⟨hFu, hTu, h17, hr3, fun h => absurd h hr1, fun _ => ⟨hq.2.1, hq.1, hq.2.2⟩⟩)
        · refine wm_aload_n hC 0 (pc := 52) dX9_faulty_52 rfl rfl ?_
          refine wm_getI hC 31 17 fl_X9_256_8 rfl rfl rfl (pc := 53) dX9_faulty_53 ?_
          refine wm_if_ne hC 70 (pc := 56) dX9_faulty_56 (by decide) (by omega) (fun h56 => ?_) (fun h56 => ?_)
          · have hst : ¬ (s < w 31 4 ∧ T.2.2.2.1 = 0) := by omega
            refine wm_aload_n hC 0 (pc := 70) dX9_faulty_70 rfl rfl ?_
            refine wm_getI hC 31 17 fl_X9_256_8 rfl rfl rfl (pc := 71) dX9_faulty_71 ?_
            refine wm_if_ne hC 82 (pc := 74) dX9_faulty_74 (by decide) (by omega) (fun h74 => ?_) (fun h74 => ?_)
            · refine wm_aload_n hC 0 (pc := 82) dX9_faulty_82 rfl rfl ?_
              refine wm_getI hC 31 15 fl_X9_231_8 rfl rfl rfl (pc := 83) dX9_faulty_83 ?_
              refine wm_iretI hC (pc := 86) dX9_faulty_86 ?_
              rw [he, prP_stop hst f]
              first
              | (have hr0 : T.2.2.2.1 = 0 := by omega
                 exact ⟨hFu, hTu, h17, hr3, fun _ => ⟨rfl, (hq0 hr0).1⟩, fun h => absurd hr0 h⟩)
              | (have hr1 : ¬ T.2.2.2.1 = 0 := by omega
                 have hq := hq1 hr1
                 exact ⟨hFu, hTu, h17, hr3, fun h => absurd h hr1, fun _ => ⟨hq.2.1, hq.1, hq.2.2⟩⟩)
            · refine wm_ldc hC (-1000004) kI_X9_121 (pc := 77) dX9_faulty_77 ?_
              refine wm_goto hC 86 (pc := 79) dX9_faulty_79 (by decide) ?_
              refine wm_iretI hC (pc := 86) dX9_faulty_86 ?_
              rw [he, prP_stop hst f]
              first
              | (have hr0 : T.2.2.2.1 = 0 := by omega
                 exact ⟨hFu, hTu, h17, hr3, fun _ => ⟨rfl, (hq0 hr0).1⟩, fun h => absurd hr0 h⟩)
              | (have hr1 : ¬ T.2.2.2.1 = 0 := by omega
                 have hq := hq1 hr1
                 exact ⟨hFu, hTu, h17, hr3, fun h => absurd h hr1, fun _ => ⟨hq.2.1, hq.1, hq.2.2⟩⟩)
          · have h56b : T.2.2.2.1 = 0 := by omega
            have hs14 := (hq0 h56b).2.2.2.1
            have hsf := (hq0 h56b).2.2.2.2
            refine wm_aload_n hC 0 (pc := 59) dX9_faulty_59 rfl rfl ?_
            refine wm_aload_n hC 0 (pc := 60) dX9_faulty_60 rfl rfl ?_
            refine wm_iV hC cv_X9_259 kc_X9_readState rfl rfl (s_X9_readState hTu h49 (hq0 h56b).1 (hq0 h56b).2.1 (hq0 h56b).2.2.1 h56b) rfl (by decide) rfl (Nat.le_of_ble_eq_true rfl) (pc := 61) dX9_faulty_61 (fun z61 w61 hw61 => ?_)
            obtain ⟨g1, g2, g3, g4, g5, g6, g7⟩ := hw61
            rw [hFu.c, hs14] at g4 g6 g7
            rw [hs14] at g3
            refine wm_putI hC 31 17 fp_X9_256_8 rfl rfl rfl (pc := 64) dX9_faulty_64 ?_
            refine wm_goto hC 41 (pc := 67) dX9_faulty_67 (by decide) ?_
            obtain ⟨f1, rfl⟩ : ∃ f1, f = f1 + 1 := ⟨f - 1, by omega⟩
            have hsn : s < w 31 4 := by omega
            have hsc := scan_ok (c := cR w) (n := w 31 4) (s := s) (by rw [← hFu.c, ← e4]; exact hTu.ok) ⟨by omega, hsn⟩
            exact ih f1 (by omega) f1 ((scan (cR w) s).2 + 1) _ (nxT (cR w) s T) rfl (by omega) ⟨fun a h1 h2 h3 h4 => by rw [mup_ne h1]; exact (hFu.trans g1).1 a h1 h2 h3 h4, fun b hb => by rw [mup_get, if_neg (by omega)]; exact (hFu.trans g1).2 b hb⟩ (g2.congr (by rw [mup_get, if_neg (by omega)]) (mup_ne (by decide)) (by rw [mup_get, if_neg (by omega)]; exact g2.2.2)) (by rw [mup_at]; exact g4) (by omega) (by rw [he]; exact if_pos ⟨hsn, h56b⟩) (fun h => by
              have hz : z61 = 0 := by omega
              obtain ⟨k1, ⟨k2, k3, k4⟩, k5, k6, k7⟩ := g7 hz
              exact ⟨⟨by rw [mup_get, if_neg (by omega)]; exact k2, by rw [mup_get, if_neg (by omega)]; exact k3, k4.congr (mup_ne (by decide))⟩, k7, k5, by rw [mup_get, if_neg (by omega)]; exact k6, by omega⟩) (fun h => by
              have hz : ¬ z61 = 0 := by omega
              obtain ⟨k1, k2⟩ := g6 hz
              exact ⟨by omega, by rw [mup_get, if_neg (by omega), k1]; exact g3, by rw [mup_get, if_neg (by omega)]; exact k2⟩)
      have : j = 56 := by omega
      subst this
      obtain ⟨y, hy⟩ : ∃ y, y = mfill v 43 ((56 : Nat) : Int) 0 := ⟨_, rfl⟩
      rw [← hy]
      have ya : ∀ a : Nat, a ≠ 43 → y a = v a := fun a ha => by rw [hy]; exact mfill_ne ha
      have y31 : y 31 = v 31 := ya 31 (by decide)
      have yF : FrS w y := ⟨fun a h1 h2 _ _ => (ya a h2).trans (va a h1), fun b hb => by rw [y31]; exact vb b (by omega) (by omega) (by omega) (by omega)⟩
      have yT : TI y := hI.ti (yF.2 4 (Or.inl (by decide))) (yF.1 34 (by decide) (by decide) (by decide) (by decide)) (by rw [y31]; exact v14)
      have yD : RD y T0.2.1 := fun b b0 b1 => by
        rw [hy]
        unfold mfill
        rw [if_pos (by omega)]
        show (0 : Int) = if b % 7 = 0 then (if b % 7 = 0 then 0 else -1) else (if b % 7 = 0 then 0 else -1) + 1
        by_cases q : b % 7 = 0
        · rw [if_pos q, if_pos q]
        · rw [if_neg q, if_neg q]; rfl
      have hn4 := hI.2.2.1
      exact lp41 80 80 0 y T0 rfl (by omega) yF yT (by rw [y31]; exact v17) (by decide) rfl (fun _ => ⟨⟨by rw [y31]; exact v19, by rw [y31]; exact v20, yD⟩, by decide, fun t _ _ k k0 k6 => if_neg (by omega), by rw [y31]; exact v14, by omega⟩) (fun h => absurd rfl h)
    · refine wm_aload_n hC 0 (pc := 28) dX9_faulty_28 rfl rfl ?_
      refine wm_getR hC fl_X9_46_8 rfl rfl (pc := 29) dX9_faulty_29 ?_
      refine wm_iload_n hC 1 (pc := 32) dX9_faulty_32 rfl rfl ?_
      refine wm_iconst hC (pc := 33) dX9_faulty_33 ?_
      refine wm_iastore hC rfl (by omega) (by decide) (pc := 34) dX9_faulty_34 ?_
      refine wm_iinc hC (pc := 35) dX9_faulty_35 rfl rfl (by decide) rfl ?_
      refine wm_goto hC 22 (pc := 38) dX9_faulty_38 (by decide) ?_
      rw [mfill_s]
      exact ih _ (by omega) (j + 1) rfl (by omega)
  have hh := lp22 _ 0 rfl (by omega)
  rw [show ((0 : Nat) : Int) = 0 from rfl, mfill_0] at hh
  exact hh
set_option maxRecDepth 100000 in
set_option maxHeartbeats 400000 in
theorem s_X9_fault {l : Launch} {G : mG} {w : mW} {c : Int} (hI : RInv w) (hc : -2147483648 ≤ c ∧ c < 2147483648) : Mx l G 5 yX9_fault cX9_fault 3 (some .int) [mvR 31, mvI c] w (qI (fun z w' => (¬ (0 ≤ c ∧ c ≤ 2) ∧ z = -1000001 ∧ w' = w) ∨ ((0 ≤ c ∧ c ≤ 2) ∧ z = faultF (parP (cR w) (w 31 4)) c ∧ FrS w w'))) := by
  refine Mx.intro (by decide) RX9 rfl [some (mvR 31), some (mvI c), none] (Nat.le_of_ble_eq_true rfl) rfl (fun K hC => ?_)
  refine wm_iload_n hC 1 (pc := 0) dX9_fault_0 rfl rfl ?_
  refine wm_iconst hC (pc := 1) dX9_fault_1 ?_
  refine wm_iconst hC (pc := 2) dX9_fault_2 ?_
  refine wm_pS hC cs_X9_59 kc_X9_in (s_X9_in (by omega) (by omega) (by omega)) rfl (by decide) rfl (Nat.le_of_ble_eq_true rfl) (pc := 3) dX9_fault_3 ?_
  refine wm_ifd_ne hC 12 (pc := 6) dX9_fault_6 (by decide) (fun h6 => ?_) (fun h6 => ?_)
  · refine wm_aload_n hC 0 (pc := 12) dX9_fault_12 rfl rfl ?_
    refine wm_iV hC cv_X9_262 kc_X9_faulty rfl rfl (s_X9_faulty hI) rfl (by decide) rfl (Nat.le_of_ble_eq_true rfl) (pc := 13) dX9_fault_13 (fun z13 w13 hw13 => ?_)
    generalize hP : parP (cR w) (w 31 4) = P at hw13 ⊢
    obtain ⟨g1, g2, g3, g4, g5, g6⟩ := hw13
    have hzr : -1000004 ≤ z13 ∧ z13 ≤ 80 := by
      by_cases q : P.2.2.2.1 = 0
      · have := g5 q; omega
      · have := g6 q; omega
    refine wm_istore_n hC 2 (pc := 16) dX9_fault_16 rfl (by decide) rfl ?_
    refine wm_iload_n hC 2 (pc := 17) dX9_fault_17 rfl rfl ?_
    refine wm_ldc hC (-1000004) kI_X9_121 (pc := 18) dX9_fault_18 ?_
    refine wm_icmp_eq hC 27 (pc := 20) dX9_fault_20 (by decide) (by omega) (by omega) (fun h20 => ?_) (fun h20 => ?_)
    · have hr0 : P.2.2.2.1 = 0 := Classical.byContradiction fun q => by have := g6 q; omega
      refine wm_iload_n hC 2 (pc := 27) dX9_fault_27 rfl rfl ?_
      refine wm_goto hC 47 (pc := 28) dX9_fault_28 (by decide) ?_
      refine wm_iretI hC (pc := 47) dX9_fault_47 ?_
      right
      refine ⟨by omega, ?_, g1⟩
      unfold faultF
      first
      | (rw [if_pos hr0]; exact h20)
      | (rw [if_neg hr1, if_pos h24]; exact hq.1)
      | (rw [if_neg hr1, if_neg h24, if_pos h33]; exact g3)
      | (rw [if_neg hr1, if_neg h24, if_neg h33]; exact hq.2.2)
    · have hr1 : ¬ P.2.2.2.1 = 0 := fun q => h20 (g5 q).1
      have hq := g6 hr1
      refine wm_iload_n hC 1 (pc := 23) dX9_fault_23 rfl rfl ?_
      refine wm_if_ne hC 31 (pc := 24) dX9_fault_24 (by decide) (by omega) (fun h24 => ?_) (fun h24 => ?_)
      · refine wm_iload_n hC 1 (pc := 31) dX9_fault_31 rfl rfl ?_
        refine wm_iconst hC (pc := 32) dX9_fault_32 ?_
        refine wm_icmp_ne hC 43 (pc := 33) dX9_fault_33 (by decide) (by omega) (by omega) (fun h33 => ?_) (fun h33 => ?_)
        · refine wm_aload_n hC 0 (pc := 43) dX9_fault_43 rfl rfl ?_
          refine wm_getI hC 31 18 fl_X9_234_8 rfl rfl rfl (pc := 44) dX9_fault_44 ?_
          refine wm_iretI hC (pc := 47) dX9_fault_47 ?_
          right
          refine ⟨by omega, ?_, g1⟩
          unfold faultF
          first
          | (rw [if_pos hr0]; exact h20)
          | (rw [if_neg hr1, if_pos h24]; exact hq.1)
          | (rw [if_neg hr1, if_neg h24, if_pos h33]; exact g3)
          | (rw [if_neg hr1, if_neg h24, if_neg h33]; exact hq.2.2)
        · refine wm_aload_n hC 0 (pc := 36) dX9_fault_36 rfl rfl ?_
          refine wm_getI hC 31 17 fl_X9_256_8 rfl rfl rfl (pc := 37) dX9_fault_37 ?_
          refine wm_goto hC 47 (pc := 40) dX9_fault_40 (by decide) ?_
          refine wm_iretI hC (pc := 47) dX9_fault_47 ?_
          right
          refine ⟨by omega, ?_, g1⟩
          unfold faultF
          first
          | (rw [if_pos hr0]; exact h20)
          | (rw [if_neg hr1, if_pos h24]; exact hq.1)
          | (rw [if_neg hr1, if_neg h24, if_pos h33]; exact g3)
          | (rw [if_neg hr1, if_neg h24, if_neg h33]; exact hq.2.2)
      · refine wm_iload_n hC 2 (pc := 27) dX9_fault_27 rfl rfl ?_
        refine wm_goto hC 47 (pc := 28) dX9_fault_28 (by decide) ?_
        refine wm_iretI hC (pc := 47) dX9_fault_47 ?_
        right
        refine ⟨by omega, ?_, g1⟩
        unfold faultF
        first
        | (rw [if_pos hr0]; exact h20)
        | (rw [if_neg hr1, if_pos h24]; exact hq.1)
        | (rw [if_neg hr1, if_neg h24, if_pos h33]; exact g3)
        | (rw [if_neg hr1, if_neg h24, if_neg h33]; exact hq.2.2)
  · refine wm_ldc hC (-1000001) kI_X9_81 (pc := 9) dX9_fault_9 ?_
    refine wm_iretI hC (pc := 11) dX9_fault_11 ?_
    left
    exact ⟨by omega, rfl, rfl⟩
set_option maxRecDepth 100000 in
set_option maxHeartbeats 400000 in
theorem s_X9_read {l : Launch} {G : mG} {w : mW} {a : Int} (hI : RInv w) (ha : -2147483648 ≤ a ∧ a < 2147483648) : Mx l G 5 yX9_read cX9_read 3 (some .int) [mvR 31, mvI a] w (qI (fun z w' => (¬ (0 ≤ a ∧ a < 3) ∧ z = -1000001 ∧ w' = w) ∨ ((0 ≤ a ∧ a < 3) ∧ ((¬ (parP (cR w) (w 31 4)).2.2.2.1 = 0 ∧ z = -1000002 ∧ FrS w w') ∨ ((parP (cR w) (w 31 4)).2.2.2.1 = 0 ∧ z = ((mpop (parP (cR w) (w 31 4)).1 : Nat) : Int) ∧ ∃ u : mW, FrS w u ∧ RVd u (parP (cR w) (w 31 4)) ∧ w' = mcopy (rrF u) 43 32 0 (56 * a) 56))))) := by
  refine Mx.intro (by decide) RX9 rfl [some (mvR 31), some (mvI a), none] (Nat.le_of_ble_eq_true rfl) rfl (fun K hC => ?_)
  refine wm_iload_n hC 1 (pc := 0) dX9_read_0 rfl rfl ?_
  refine wm_pS hC cs_X9_74 kc_X9_isPlan (s_X9_isPlan (by omega)) rfl (by decide) rfl (Nat.le_of_ble_eq_true rfl) (pc := 1) dX9_read_1 ?_
  refine wm_ifd_ne hC 10 (pc := 4) dX9_read_4 (by decide) (fun h4 => ?_) (fun h4 => ?_)
  · obtain ⟨p, rfl⟩ : ∃ p : Nat, a = (p : Int) := ⟨a.toNat, by omega⟩
    have hp : p < 3 := by omega
    refine wm_aload_n hC 0 (pc := 10) dX9_read_10 rfl rfl ?_
    refine wm_iV hC cv_X9_262 kc_X9_faulty rfl rfl (s_X9_faulty hI) rfl (by decide) rfl (Nat.le_of_ble_eq_true rfl) (pc := 11) dX9_read_11 (fun z11 w11 hw11 => ?_)
    generalize hP : parP (cR w) (w 31 4) = P at hw11 ⊢
    obtain ⟨g1, g2, g3, g4, g5, g6⟩ := hw11
    have hzr : -1000004 ≤ z11 ∧ z11 ≤ 80 := by
      by_cases q : P.2.2.2.1 = 0
      · have := g5 q; omega
      · have := g6 q; omega
    refine wm_ldc hC (-1000004) kI_X9_121 (pc := 14) dX9_read_14 ?_
    refine wm_icmp_eq hC 22 (pc := 16) dX9_read_16 (by decide) (by omega) (by omega) (fun h16 => ?_) (fun h16 => ?_)
    · have hr0 : P.2.2.2.1 = 0 := Classical.byContradiction fun q => by have := g6 q; omega
      refine wm_aload_n hC 0 (pc := 22) dX9_read_22 rfl rfl ?_
      refine wm_vV hC cv_X9_82 kc_X9_records rfl rfl (s_X9_records (g1.inv hI).2.1) rfl (by decide) rfl (Nat.le_of_ble_eq_true rfl) (pc := 23) dX9_read_23 (fun w23 hw23 => ?_)
      subst hw23
      refine wm_iconst hC (pc := 26) dX9_read_26 ?_
      refine wm_istore_n hC 2 (pc := 27) dX9_read_27 rfl (by decide) rfl ?_
      have lp28 : ∀ (n : Nat) (j : Nat), n = 56 - j → j ≤ 56 → Wm l G K 5 3 (qI (fun z w' => (¬ (0 ≤ (p : Int) ∧ (p : Int) < 3) ∧ z = -1000001 ∧ w' = w) ∨ ((0 ≤ (p : Int) ∧ (p : Int) < 3) ∧ ((¬ P.2.2.2.1 = 0 ∧ z = -1000002 ∧ FrS w w') ∨ (P.2.2.2.1 = 0 ∧ z = ((mpop P.1 : Nat) : Int) ∧ ∃ u : mW, FrS w u ∧ RVd u P ∧ w' = mcopy (rrF u) 43 32 0 (56 * (p : Int)) 56))))) 28 [some (mvR 31), some (mvI (p : Int)), some (mvI (j : Int))] [] (mcopy (rrF w11) 43 32 0 (56 * (p : Int)) (j : Int)) := by
        intro n
        induction n using Nat.strongRecOn with
        | _ n ih =>
        intro j hn hj
        refine wm_iload_n hC 2 (pc := 28) dX9_read_28 rfl rfl ?_
        refine wm_bipush hC (pc := 29) dX9_read_29 (by decide) ?_
        refine wm_icmp_ge hC 57 (pc := 31) dX9_read_31 (by decide) (by omega) (by omega) (fun h31 => ?_) (fun h31 => ?_)
        · refine wm_aload_n hC 0 (pc := 57) dX9_read_57 rfl rfl ?_
          refine wm_getI hC 31 20 fl_X9_253_8 rfl rfl rfl (pc := 58) dX9_read_58 ?_
          refine wm_iretI hC (pc := 61) dX9_read_61 ?_
          have : j = 56 := by omega
          subst this
          right
          refine ⟨by omega, Or.inr ⟨hr0, ?_, w11, g1, (g5 hr0).2, rfl⟩⟩
          rw [mcopy_ne (by decide), rrF_31 _ (by decide)]
          exact (g5 hr0).2.2.1
        · refine wm_aload_n hC 0 (pc := 34) dX9_read_34 rfl rfl ?_
          refine wm_getR hC fl_X9_7_8 rfl rfl (pc := 35) dX9_read_35 ?_
          refine wm_bipush hC (pc := 38) dX9_read_38 (by decide) ?_
          refine wm_iload_n hC 1 (pc := 40) dX9_read_40 rfl rfl ?_
          refine wm_imul hC (pc := 41) dX9_read_41 ?_
          refine wm_iload_n hC 2 (pc := 42) dX9_read_42 rfl rfl ?_
          refine wm_iadd hC (pc := 43) dX9_read_43 ?_
          refine wm_aload_n hC 0 (pc := 44) dX9_read_44 rfl rfl ?_
          refine wm_getR hC fl_X9_46_8 rfl rfl (pc := 45) dX9_read_45 ?_
          refine wm_iload_n hC 2 (pc := 48) dX9_read_48 rfl rfl ?_
          refine wm_iaload hC rfl (by omega) (by decide) (pc := 49) dX9_read_49 ?_
          refine wm_iastore hC rfl (by omega) (by decide) (pc := 50) dX9_read_50 ?_
          refine wm_iinc hC (pc := 51) dX9_read_51 rfl rfl (by decide) rfl ?_
          refine wm_goto hC 28 (pc := 54) dX9_read_54 (by decide) ?_
          rw [mcopy_up j (by omega) (by omega) (by omega)]
          exact ih _ (by omega) (j + 1) rfl (by omega)
      have hh := lp28 _ 0 rfl (by omega)
      rw [show ((0 : Nat) : Int) = 0 from rfl, mcopy_0] at hh
      exact hh
    · have hr1 : ¬ P.2.2.2.1 = 0 := fun q => h16 (g5 q).1
      refine wm_ldc hC (-1000002) kI_X9_95 (pc := 19) dX9_read_19 ?_
      refine wm_iretI hC (pc := 21) dX9_read_21 ?_
      right
      exact ⟨by omega, Or.inl ⟨hr1, rfl, g1⟩⟩
  · refine wm_ldc hC (-1000001) kI_X9_81 (pc := 7) dX9_read_7 ?_
    refine wm_iretI hC (pc := 9) dX9_read_9 ?_
    left
    exact ⟨by omega, rfl, rfl⟩
