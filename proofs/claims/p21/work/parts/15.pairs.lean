/-! the pairs: both kinds -/
theorem PlanIx.ne {p : Nat} (hp : PlanIx p) {a : Nat} (h : mlays[a]? ≠ some (.inr (0, 56))) : p + 1 ≠ a := fun e => h (by rw [← e]; exact hp.2)
/-- Arrays.fill -/
def mfill (w : mW) (a : Nat) (n v : Int) : mW := fun i b => if i = a ∧ 0 ≤ b ∧ b < n then v else w i b
theorem mfill_ne {w : mW} {a i : Nat} {n v : Int} (h : i ≠ a) : mfill w a n v i = w i := by funext b; unfold mfill; rw [if_neg (fun q => h q.1)]
theorem mfill_0 (w : mW) (a : Nat) (v : Int) : mfill w a 0 v = w := by funext i b; unfold mfill; rw [if_neg (by omega)]
theorem mfill_s (w : mW) (a j : Nat) (v : Int) : mup (mfill w a (j : Int) v) a (j : Int) v = mfill w a ((j + 1 : Nat) : Int) v := by
  funext i b; simp only [mfill, mup]
  by_cases h : i = a ∧ b = (j : Int)
  · rw [if_pos h, if_pos (by omega)]
  · rw [if_neg h]
    by_cases h2 : i = a ∧ 0 ≤ b ∧ b < (j : Int)
    · rw [if_pos h2, if_pos (by omega)]
    · rw [if_neg h2, if_neg (by omega)]
theorem fwi_rng (m : Nat) : fwi m = -1 ∨ (0 ≤ fwi m ∧ fwi m < 6) := by
  rcases ffst_rng (fun j => m.testBit j) 6 0 with h | h
  · exact Or.inl h
  · exact Or.inr ⟨by simpa [fwi] using h.1, by simpa [fwi] using h.2⟩
set_option maxRecDepth 100000 in
set_option maxHeartbeats 4000000 in
theorem s_J7_fill_53178 {l : Launch} {G : mG} {w : mW} {a n : Nat} {v : Int} (ha : mlays[a]? = some (.inr (0, n))) (hn : n ≤ 1000000) : Mx l G 0 yJ7_fill_53178 cJ7_fill_53178 4 none [mvR a, mvI v] w (qV (fun w' => w' = mfill w a n v)) := by
  refine Mx.intro (by decide) RJ7 rfl [some (mvR a), some (mvI v), none, none] (Nat.le_of_ble_eq_true rfl) rfl (fun K hC => ?_)
  refine wm_iconst hC (pc := 0) dJ7_fill_53178_0 ?_
  refine wm_istore_n hC 2 (pc := 1) dJ7_fill_53178_1 rfl (by decide) rfl ?_
  refine wm_aload_n hC 0 (pc := 2) dJ7_fill_53178_2 rfl rfl ?_
  refine wm_alen hC (n : Int) ha rfl rfl (pc := 3) dJ7_fill_53178_3 ?_
  refine wm_istore_n hC 3 (pc := 4) dJ7_fill_53178_4 rfl (by decide) rfl ?_
  have lp5 : ∀ (n1 : Nat) (j : Nat), n1 = n - j → j ≤ n → Wm l G K 0 4 (qV (fun w' => w' = mfill w a n v)) 5 [some (mvR a), some (mvI v), some (mvI (j : Int)), some (mvI (n : Int))] [] (mfill w a (j : Int) v) := by
    intro n1
    induction n1 using Nat.strongRecOn with
    | _ n1 ih =>
    intro j hm hj
    refine wm_iload_n hC 2 (pc := 5) dJ7_fill_53178_5 rfl rfl ?_
    refine wm_iload_n hC 3 (pc := 6) dJ7_fill_53178_6 rfl rfl ?_
    refine wm_icmp_ge hC 20 (pc := 7) dJ7_fill_53178_7 (by decide) (by omega) (by omega) (fun h7 => ?_) (fun h7 => ?_)
    · refine wm_retV hC (pc := 20) dJ7_fill_53178_20 ?_
      have : j = n := by omega
      rw [this]
    · refine wm_aload_n hC 0 (pc := 10) dJ7_fill_53178_10 rfl rfl ?_
      refine wm_iload_n hC 2 (pc := 11) dJ7_fill_53178_11 rfl rfl ?_
      refine wm_iload_n hC 1 (pc := 12) dJ7_fill_53178_12 rfl rfl ?_
      refine wm_iastore hC ha (by omega) hn (pc := 13) dJ7_fill_53178_13 ?_
      refine wm_iinc hC (pc := 14) dJ7_fill_53178_14 rfl rfl (by decide) rfl ?_
      refine wm_goto hC 5 (pc := 17) dJ7_fill_53178_17 (by decide) ?_
      rw [mfill_s]
      exact ih _ (by omega) (j + 1) rfl (by omega)
  have hh := lp5 _ 0 rfl (by omega)
  rw [show ((0 : Nat) : Int) = 0 from rfl, mfill_0] at hh
  exact hh
set_option maxRecDepth 100000 in
set_option maxHeartbeats 4000000 in
theorem s_X8_firstWordIn {l : Launch} {G : mG} {w : mW} {m : Nat} (hm : m < 64) : Mx l G 1 yX8_firstWordIn cX8_firstWordIn 2 (some .int) [mvI (m : Int)] w (qP (mvI (fwi m)) w) := by
  refine Mx.intro (by decide) RX8 rfl [some (mvI (m : Int)), none] (Nat.le_of_ble_eq_true rfl) rfl (fun K hC => ?_)
  refine wm_iconst hC (pc := 0) dX8_firstWordIn_0 ?_
  refine wm_istore_n hC 1 (pc := 1) dX8_firstWordIn_1 rfl (by decide) rfl ?_
  have lp2 : ∀ (n : Nat) (j : Nat), n = 6 - j → j ≤ 6 → fwi m = ffst (fun j => m.testBit j) (6 - j) j → Wm l G K 1 2 (qP (mvI (fwi m)) w) 2 [some (mvI (m : Int)), some (mvI (j : Int))] [] w := by
    intro n
    induction n using Nat.strongRecOn with
    | _ n ih =>
    intro j hn hj he
    refine wm_iload_n hC 1 (pc := 2) dX8_firstWordIn_2 rfl rfl ?_
    refine wm_bipush hC (pc := 3) dX8_firstWordIn_3 (by decide) ?_
    refine wm_icmp_ge hC 24 (pc := 5) dX8_firstWordIn_5 (by decide) (by omega) (by omega) (fun h5 => ?_) (fun h5 => ?_)
    · refine wm_iconst hC (pc := 24) dX8_firstWordIn_24 ?_
      refine wm_iretP hC (pc := 25) dX8_firstWordIn_25 ?_ rfl
      have : j = 6 := by omega
      subst this
      rw [he]; rfl
    · refine wm_iload_n hC 0 (pc := 8) dX8_firstWordIn_8 rfl rfl ?_
      refine wm_iload_n hC 1 (pc := 9) dX8_firstWordIn_9 rfl rfl ?_
      refine wm_pS hC cs_X8_134 kc_X8_holds (s_X8_holds (by omega) (by omega)) rfl (by decide) rfl (Nat.le_of_ble_eq_true rfl) (pc := 10) dX8_firstWordIn_10 ?_
      refine wm_ifb_eq hC 18 (pc := 13) dX8_firstWordIn_13 (by decide) (fun h13 => ?_) (fun h13 => ?_)
      · refine wm_iinc hC (pc := 18) dX8_firstWordIn_18 rfl rfl (by decide) rfl ?_
        refine wm_goto hC 2 (pc := 21) dX8_firstWordIn_21 (by decide) ?_
        exact ih _ (by omega) (j + 1) rfl (by omega) (by rw [he, show 6 - j = (6 - (j + 1)) + 1 by omega]; simp [ffst, h13])
      · refine wm_iload_n hC 1 (pc := 16) dX8_firstWordIn_16 rfl rfl ?_
        refine wm_iretP hC (pc := 17) dX8_firstWordIn_17 ?_ rfl
        rw [he, show 6 - j = (6 - (j + 1)) + 1 by omega]; simp [ffst, h13]
  exact lp2 _ 0 rfl (by omega) rfl
set_option maxRecDepth 100000 in
set_option maxHeartbeats 4000000 in
theorem s_X2_lackedWords {l : Launch} {G : mG} {w : mW} {k : Int} {m m2 : Nat} (hk : -2147483648 ≤ k ∧ k < 2147483648) : Mx l G 0 yX2_lackedWords cX2_lackedWords 3 (some .int) [mvI k, mvI (m : Int), mvI (m2 : Int)] w (qP (mvI ((lackF k m m2 : Nat) : Int)) w) := by
  refine Mx.intro (by decide) RX2 rfl [some (mvI k), some (mvI (m : Int)), some (mvI (m2 : Int))] (Nat.le_of_ble_eq_true rfl) rfl (fun K hC => ?_)
  refine wm_iload_n hC 0 (pc := 0) dX2_lackedWords_0 rfl rfl ?_
  refine wm_iconst hC (pc := 1) dX2_lackedWords_1 ?_
  refine wm_icmp_ne hC 13 (pc := 2) dX2_lackedWords_2 (by decide) (by omega) (by omega) (fun h2 => ?_) (fun h2 => ?_)
  · have e : lackF k m m2 = m2 ^^^ (m2 &&& m) := by simp [lackF, h2]
    refine wm_iload_n hC 2 (pc := 13) dX2_lackedWords_13 rfl rfl ?_
    refine wm_iload_n hC 1 (pc := 14) dX2_lackedWords_14 rfl rfl ?_
    refine wm_iconst hC (pc := 15) dX2_lackedWords_15 ?_
    refine wm_inot hC (pc := 16) dX2_lackedWords_16 ?_
    refine wm_iandn hC m2 m (pc := 17) dX2_lackedWords_17 rfl rfl ?_
    refine wm_iretP hC (pc := 18) dX2_lackedWords_18 ?_ rfl
    rw [e]
  · have e : lackF k m m2 = m ^^^ (m &&& m2) := by simp [lackF, h2]
    refine wm_iload_n hC 1 (pc := 5) dX2_lackedWords_5 rfl rfl ?_
    refine wm_iload_n hC 2 (pc := 6) dX2_lackedWords_6 rfl rfl ?_
    refine wm_iconst hC (pc := 7) dX2_lackedWords_7 ?_
    refine wm_inot hC (pc := 8) dX2_lackedWords_8 ?_
    refine wm_iandn hC m m2 (pc := 9) dX2_lackedWords_9 rfl rfl ?_
    refine wm_goto hC 18 (pc := 10) dX2_lackedWords_10 (by decide) ?_
    refine wm_iretP hC (pc := 18) dX2_lackedWords_18 ?_ rfl
    rw [e]
set_option maxRecDepth 100000 in
set_option maxHeartbeats 4000000 in
theorem s_X7_goTogether {l : Launch} {G : mG} {w : mW} {k k2 : Int} (hk : -2147483648 ≤ k ∧ k < 2147483648) (hk2 : -2147483648 ≤ k2 ∧ k2 < 2147483648) : Mx l G 0 yX7_goTogether cX7_goTogether 3 (some .boolean) [mvR 15, mvI k, mvI k2] w (qP (mvI (mb (togT k k2))) w) := by
  refine Mx.intro (by decide) RX7 rfl [some (mvR 15), some (mvI k), some (mvI k2)] (Nat.le_of_ble_eq_true rfl) rfl (fun K hC => ?_)
  refine wm_iload_n hC 1 (pc := 0) dX7_goTogether_0 rfl rfl ?_
  refine wm_if_eq hC 17 (pc := 1) dX7_goTogether_1 (by decide) (by omega) (fun h1 => ?_) (fun h1 => ?_)
  · refine wm_iconst hC (pc := 17) dX7_goTogether_17 ?_
    refine wm_zretP hC (pc := 18) dX7_goTogether_18 ?_ rfl
    unfold togT
    first | exact ((mb_0 _).mpr (decide_eq_false (by omega))).symm | exact ((mb_1 _).mpr (decide_eq_true (by omega))).symm
  · refine wm_iload_n hC 2 (pc := 4) dX7_goTogether_4 rfl rfl ?_
    refine wm_if_eq hC 17 (pc := 5) dX7_goTogether_5 (by decide) (by omega) (fun h5 => ?_) (fun h5 => ?_)
    · refine wm_iconst hC (pc := 17) dX7_goTogether_17 ?_
      refine wm_zretP hC (pc := 18) dX7_goTogether_18 ?_ rfl
      unfold togT
      first | exact ((mb_0 _).mpr (decide_eq_false (by omega))).symm | exact ((mb_1 _).mpr (decide_eq_true (by omega))).symm
    · refine wm_iload_n hC 1 (pc := 8) dX7_goTogether_8 rfl rfl ?_
      refine wm_iload_n hC 2 (pc := 9) dX7_goTogether_9 rfl rfl ?_
      refine wm_icmp_eq hC 17 (pc := 10) dX7_goTogether_10 (by decide) (by omega) (by omega) (fun h10 => ?_) (fun h10 => ?_)
      · refine wm_iconst hC (pc := 17) dX7_goTogether_17 ?_
        refine wm_zretP hC (pc := 18) dX7_goTogether_18 ?_ rfl
        unfold togT
        first | exact ((mb_0 _).mpr (decide_eq_false (by omega))).symm | exact ((mb_1 _).mpr (decide_eq_true (by omega))).symm
      · refine wm_iconst hC (pc := 13) dX7_goTogether_13 ?_
        refine wm_goto hC 18 (pc := 14) dX7_goTogether_14 (by decide) ?_
        refine wm_zretP hC (pc := 18) dX7_goTogether_18 ?_ rfl
        unfold togT
        first | exact ((mb_0 _).mpr (decide_eq_false (by omega))).symm | exact ((mb_1 _).mpr (decide_eq_true (by omega))).symm
set_option maxRecDepth 100000 in
set_option maxHeartbeats 4000000 in
theorem s_X6_goTogether {l : Launch} {G : mG} {w : mW} {k k2 : Int} (hk : -2147483648 ≤ k ∧ k < 2147483648) (hk2 : -2147483648 ≤ k2 ∧ k2 < 2147483648) : Mx l G 0 yX6_goTogether cX6_goTogether 3 (some .boolean) [mvR 25, mvI k, mvI k2] w (qP (mvI (mb (togS k k2))) w) := by
  refine Mx.intro (by decide) RX6 rfl [some (mvR 25), some (mvI k), some (mvI k2)] (Nat.le_of_ble_eq_true rfl) rfl (fun K hC => ?_)
  refine wm_iload_n hC 1 (pc := 0) dX6_goTogether_0 rfl rfl ?_
  refine wm_if_eq hC 13 (pc := 1) dX6_goTogether_1 (by decide) (by omega) (fun h1 => ?_) (fun h1 => ?_)
  · refine wm_iconst hC (pc := 13) dX6_goTogether_13 ?_
    refine wm_zretP hC (pc := 14) dX6_goTogether_14 ?_ rfl
    unfold togS
    first | exact ((mb_0 _).mpr (decide_eq_false (by omega))).symm | exact ((mb_1 _).mpr (decide_eq_true (by omega))).symm
  · refine wm_iload_n hC 1 (pc := 4) dX6_goTogether_4 rfl rfl ?_
    refine wm_iload_n hC 2 (pc := 5) dX6_goTogether_5 rfl rfl ?_
    refine wm_icmp_ne hC 13 (pc := 6) dX6_goTogether_6 (by decide) (by omega) (by omega) (fun h6 => ?_) (fun h6 => ?_)
    · refine wm_iconst hC (pc := 13) dX6_goTogether_13 ?_
      refine wm_zretP hC (pc := 14) dX6_goTogether_14 ?_ rfl
      unfold togS
      first | exact ((mb_0 _).mpr (decide_eq_false (by omega))).symm | exact ((mb_1 _).mpr (decide_eq_true (by omega))).symm
    · refine wm_iconst hC (pc := 9) dX6_goTogether_9 ?_
      refine wm_goto hC 14 (pc := 10) dX6_goTogether_10 (by decide) ?_
      refine wm_zretP hC (pc := 14) dX6_goTogether_14 ?_ rfl
      unfold togS
      first | exact ((mb_0 _).mpr (decide_eq_false (by omega))).symm | exact ((mb_1 _).mpr (decide_eq_true (by omega))).symm
set_option maxRecDepth 100000 in
set_option maxHeartbeats 4000000 in
theorem s_X7_reasonFor {l : Launch} {G : mG} {w : mW} {k k2 : Int} {m m2 : Nat} (hk : 0 ≤ k ∧ k < 3) (hk2 : 0 ≤ k2 ∧ k2 < 3) (hm : m < 64) (hm2 : m2 < 64) : Mx l G 1 yX7_reasonFor cX7_reasonFor 6 (some .int) [mvR 15, mvI k, mvI (m : Int), mvI k2, mvI (m2 : Int)] w (qP (mvI (rsnT k m k2 m2)) w) := by
  refine Mx.intro (by decide) RX7 rfl [some (mvR 15), some (mvI k), some (mvI (m : Int)), some (mvI k2), some (mvI (m2 : Int)), none] (Nat.le_of_ble_eq_true rfl) rfl (fun K hC => ?_)
  refine wm_iload_n hC 1 (pc := 0) dX7_reasonFor_0 rfl rfl ?_
  refine wm_if_eq hC 8 (pc := 1) dX7_reasonFor_1 (by decide) (by omega) (fun h1 => ?_) (fun h1 => ?_)
  · refine wm_iload_n hC 1 (pc := 8) dX7_reasonFor_8 rfl rfl ?_
    refine wm_iload_n hC 3 (pc := 9) dX7_reasonFor_9 rfl rfl ?_
    refine wm_icmp_ne hC 17 (pc := 10) dX7_reasonFor_10 (by decide) (by omega) (by omega) (fun h10 => ?_) (fun h10 => ?_)
    · refine wm_iconst hC (pc := 17) dX7_reasonFor_17 ?_
      refine wm_iretP hC (pc := 18) dX7_reasonFor_18 ?_ rfl
      unfold rsnT
      (repeat' split) <;> omega
    · refine wm_iconst hC (pc := 13) dX7_reasonFor_13 ?_
      refine wm_goto hC 18 (pc := 14) dX7_reasonFor_14 (by decide) ?_
      refine wm_iretP hC (pc := 18) dX7_reasonFor_18 ?_ rfl
      unfold rsnT
      (repeat' split) <;> omega
  · refine wm_iload_n hC 3 (pc := 4) dX7_reasonFor_4 rfl rfl ?_
    refine wm_if_ne hC 19 (pc := 5) dX7_reasonFor_5 (by decide) (by omega) (fun h5 => ?_) (fun h5 => ?_)
    · refine wm_iload_n hC 1 (pc := 19) dX7_reasonFor_19 rfl rfl ?_
      refine wm_iload_n hC 3 (pc := 20) dX7_reasonFor_20 rfl rfl ?_
      refine wm_icmp_ne hC 35 (pc := 21) dX7_reasonFor_21 (by decide) (by omega) (by omega) (fun h21 => ?_) (fun h21 => ?_)
      · refine wm_iload_n hC 1 (pc := 35) dX7_reasonFor_35 rfl rfl ?_
        refine wm_iconst hC (pc := 36) dX7_reasonFor_36 ?_
        refine wm_icmp_ne hC 44 (pc := 37) dX7_reasonFor_37 (by decide) (by omega) (by omega) (fun h37 => ?_) (fun h37 => ?_)
        · refine wm_iload hC  (pc := 44) dX7_reasonFor_44 rfl ?_
          refine wm_istore hC  (pc := 46) dX7_reasonFor_46  (by decide) rfl ?_
          refine wm_iload hC  (pc := 48) dX7_reasonFor_48 rfl ?_
          refine wm_if_ne hC 55 (pc := 50) dX7_reasonFor_50 (by decide) (by omega) (fun h50 => ?_) (fun h50 => ?_)
          · refine wm_iload_n hC 1 (pc := 55) dX7_reasonFor_55 rfl rfl ?_
            refine wm_iload_n hC 2 (pc := 56) dX7_reasonFor_56 rfl rfl ?_
            refine wm_iload hC  (pc := 57) dX7_reasonFor_57 rfl ?_
            refine wm_pT hC ct_X7_11 kc_X2_lackedWords (s_X2_lackedWords (by omega)) rfl (by decide) rfl (Nat.le_of_ble_eq_true rfl) (pc := 59) dX7_reasonFor_59 ?_
            have hl := lackF_lt k hm hm2
            refine wm_if_ne hC 69 (pc := 62) dX7_reasonFor_62 (by decide) (by omega) (fun h62 => ?_) (fun h62 => ?_)
            · refine wm_iconst hC (pc := 69) dX7_reasonFor_69 ?_
              refine wm_iretP hC (pc := 70) dX7_reasonFor_70 ?_ rfl
              unfold rsnT
              (repeat' split) <;> omega
            · refine wm_iconst hC (pc := 65) dX7_reasonFor_65 ?_
              refine wm_goto hC 70 (pc := 66) dX7_reasonFor_66 (by decide) ?_
              refine wm_iretP hC (pc := 70) dX7_reasonFor_70 ?_ rfl
              unfold rsnT
              (repeat' split) <;> omega
          · refine wm_iconst hC (pc := 53) dX7_reasonFor_53 ?_
            refine wm_iretP hC (pc := 54) dX7_reasonFor_54 ?_ rfl
            unfold rsnT
            (repeat' split) <;> omega
        · refine wm_iload_n hC 2 (pc := 40) dX7_reasonFor_40 rfl rfl ?_
          refine wm_goto hC 46 (pc := 41) dX7_reasonFor_41 (by decide) ?_
          refine wm_istore hC  (pc := 46) dX7_reasonFor_46  (by decide) rfl ?_
          refine wm_iload hC  (pc := 48) dX7_reasonFor_48 rfl ?_
          refine wm_if_ne hC 55 (pc := 50) dX7_reasonFor_50 (by decide) (by omega) (fun h50 => ?_) (fun h50 => ?_)
          · refine wm_iload_n hC 1 (pc := 55) dX7_reasonFor_55 rfl rfl ?_
            refine wm_iload_n hC 2 (pc := 56) dX7_reasonFor_56 rfl rfl ?_
            refine wm_iload hC  (pc := 57) dX7_reasonFor_57 rfl ?_
            refine wm_pT hC ct_X7_11 kc_X2_lackedWords (s_X2_lackedWords (by omega)) rfl (by decide) rfl (Nat.le_of_ble_eq_true rfl) (pc := 59) dX7_reasonFor_59 ?_
            have hl := lackF_lt k hm hm2
            refine wm_if_ne hC 69 (pc := 62) dX7_reasonFor_62 (by decide) (by omega) (fun h62 => ?_) (fun h62 => ?_)
            · refine wm_iconst hC (pc := 69) dX7_reasonFor_69 ?_
              refine wm_iretP hC (pc := 70) dX7_reasonFor_70 ?_ rfl
              unfold rsnT
              (repeat' split) <;> omega
            · refine wm_iconst hC (pc := 65) dX7_reasonFor_65 ?_
              refine wm_goto hC 70 (pc := 66) dX7_reasonFor_66 (by decide) ?_
              refine wm_iretP hC (pc := 70) dX7_reasonFor_70 ?_ rfl
              unfold rsnT
              (repeat' split) <;> omega
          · refine wm_iconst hC (pc := 53) dX7_reasonFor_53 ?_
            refine wm_iretP hC (pc := 54) dX7_reasonFor_54 ?_ rfl
            unfold rsnT
            (repeat' split) <;> omega
      · refine wm_iload_n hC 1 (pc := 24) dX7_reasonFor_24 rfl rfl ?_
        refine wm_iconst hC (pc := 25) dX7_reasonFor_25 ?_
        refine wm_icmp_ne hC 33 (pc := 26) dX7_reasonFor_26 (by decide) (by omega) (by omega) (fun h26 => ?_) (fun h26 => ?_)
        · refine wm_iconst hC (pc := 33) dX7_reasonFor_33 ?_
          refine wm_iretP hC (pc := 34) dX7_reasonFor_34 ?_ rfl
          unfold rsnT
          (repeat' split) <;> omega
        · refine wm_iconst hC (pc := 29) dX7_reasonFor_29 ?_
          refine wm_goto hC 34 (pc := 30) dX7_reasonFor_30 (by decide) ?_
          refine wm_iretP hC (pc := 34) dX7_reasonFor_34 ?_ rfl
          unfold rsnT
          (repeat' split) <;> omega
    · refine wm_iload_n hC 1 (pc := 8) dX7_reasonFor_8 rfl rfl ?_
      refine wm_iload_n hC 3 (pc := 9) dX7_reasonFor_9 rfl rfl ?_
      refine wm_icmp_ne hC 17 (pc := 10) dX7_reasonFor_10 (by decide) (by omega) (by omega) (fun h10 => ?_) (fun h10 => ?_)
      · refine wm_iconst hC (pc := 17) dX7_reasonFor_17 ?_
        refine wm_iretP hC (pc := 18) dX7_reasonFor_18 ?_ rfl
        unfold rsnT
        (repeat' split) <;> omega
      · refine wm_iconst hC (pc := 13) dX7_reasonFor_13 ?_
        refine wm_goto hC 18 (pc := 14) dX7_reasonFor_14 (by decide) ?_
        refine wm_iretP hC (pc := 18) dX7_reasonFor_18 ?_ rfl
        unfold rsnT
        (repeat' split) <;> omega
set_option maxRecDepth 100000 in
set_option maxHeartbeats 4000000 in
theorem s_X6_reasonFor {l : Launch} {G : mG} {w : mW} {k k2 : Int} {m m2 : Nat} (hk : 0 ≤ k ∧ k < 3) (hk2 : 0 ≤ k2 ∧ k2 < 3) (hm : m < 64) (hm2 : m2 < 64) : Mx l G 1 yX6_reasonFor cX6_reasonFor 5 (some .int) [mvR 25, mvI k, mvI (m : Int), mvI k2, mvI (m2 : Int)] w (qP (mvI (rsnS k m k2 m2)) w) := by
  refine Mx.intro (by decide) RX6 rfl [some (mvR 25), some (mvI k), some (mvI (m : Int)), some (mvI k2), some (mvI (m2 : Int))] (Nat.le_of_ble_eq_true rfl) rfl (fun K hC => ?_)
  refine wm_iload_n hC 1 (pc := 0) dX6_reasonFor_0 rfl rfl ?_
  refine wm_iload_n hC 3 (pc := 1) dX6_reasonFor_1 rfl rfl ?_
  refine wm_icmp_eq hC 7 (pc := 2) dX6_reasonFor_2 (by decide) (by omega) (by omega) (fun h2 => ?_) (fun h2 => ?_)
  · refine wm_iload_n hC 1 (pc := 7) dX6_reasonFor_7 rfl rfl ?_
    refine wm_if_ne hC 13 (pc := 8) dX6_reasonFor_8 (by decide) (by omega) (fun h8 => ?_) (fun h8 => ?_)
    · refine wm_iload_n hC 1 (pc := 13) dX6_reasonFor_13 rfl rfl ?_
      refine wm_iconst hC (pc := 14) dX6_reasonFor_14 ?_
      refine wm_icmp_ne hC 24 (pc := 15) dX6_reasonFor_15 (by decide) (by omega) (by omega) (fun h15 => ?_) (fun h15 => ?_)
      · refine wm_iload_n hC 1 (pc := 24) dX6_reasonFor_24 rfl rfl ?_
        refine wm_iload_n hC 2 (pc := 25) dX6_reasonFor_25 rfl rfl ?_
        refine wm_iload hC  (pc := 26) dX6_reasonFor_26 rfl ?_
        refine wm_pT hC ct_X6_11 kc_X2_lackedWords (s_X2_lackedWords (by omega)) rfl (by decide) rfl (Nat.le_of_ble_eq_true rfl) (pc := 28) dX6_reasonFor_28 ?_
        have hl := lackF_lt k hm hm2
        refine wm_if_ne hC 38 (pc := 31) dX6_reasonFor_31 (by decide) (by omega) (fun h31 => ?_) (fun h31 => ?_)
        · refine wm_iconst hC (pc := 38) dX6_reasonFor_38 ?_
          refine wm_iretP hC (pc := 39) dX6_reasonFor_39 ?_ rfl
          unfold rsnS
          (repeat' split) <;> omega
        · refine wm_iconst hC (pc := 34) dX6_reasonFor_34 ?_
          refine wm_goto hC 39 (pc := 35) dX6_reasonFor_35 (by decide) ?_
          refine wm_iretP hC (pc := 39) dX6_reasonFor_39 ?_ rfl
          unfold rsnS
          (repeat' split) <;> omega
      · refine wm_iload_n hC 2 (pc := 18) dX6_reasonFor_18 rfl rfl ?_
        refine wm_if_ne hC 24 (pc := 19) dX6_reasonFor_19 (by decide) (by omega) (fun h19 => ?_) (fun h19 => ?_)
        · refine wm_iload_n hC 1 (pc := 24) dX6_reasonFor_24 rfl rfl ?_
          refine wm_iload_n hC 2 (pc := 25) dX6_reasonFor_25 rfl rfl ?_
          refine wm_iload hC  (pc := 26) dX6_reasonFor_26 rfl ?_
          refine wm_pT hC ct_X6_11 kc_X2_lackedWords (s_X2_lackedWords (by omega)) rfl (by decide) rfl (Nat.le_of_ble_eq_true rfl) (pc := 28) dX6_reasonFor_28 ?_
          have hl := lackF_lt k hm hm2
          refine wm_if_ne hC 38 (pc := 31) dX6_reasonFor_31 (by decide) (by omega) (fun h31 => ?_) (fun h31 => ?_)
          · refine wm_iconst hC (pc := 38) dX6_reasonFor_38 ?_
            refine wm_iretP hC (pc := 39) dX6_reasonFor_39 ?_ rfl
            unfold rsnS
            (repeat' split) <;> omega
          · refine wm_iconst hC (pc := 34) dX6_reasonFor_34 ?_
            refine wm_goto hC 39 (pc := 35) dX6_reasonFor_35 (by decide) ?_
            refine wm_iretP hC (pc := 39) dX6_reasonFor_39 ?_ rfl
            unfold rsnS
            (repeat' split) <;> omega
        · refine wm_iconst hC (pc := 22) dX6_reasonFor_22 ?_
          refine wm_iretP hC (pc := 23) dX6_reasonFor_23 ?_ rfl
          unfold rsnS
          (repeat' split) <;> omega
    · refine wm_iconst hC (pc := 11) dX6_reasonFor_11 ?_
      refine wm_iretP hC (pc := 12) dX6_reasonFor_12 ?_ rfl
      unfold rsnS
      (repeat' split) <;> omega
  · refine wm_iconst hC (pc := 5) dX6_reasonFor_5 ?_
    refine wm_iretP hC (pc := 6) dX6_reasonFor_6 ?_ rfl
    unfold rsnS
    (repeat' split) <;> omega
def addW (u : mW) (b c1 c2 c3 c4 c5 : Nat) (t ln og k : Int) : mW := mup (mup (mup (mup (mup (mup u c1 (u b 7) t) c3 (u b 7) ln) c4 (u b 7) og) c5 (u b 7) k) c2 t (u b 7)) b 7 (u b 7 + 1)
theorem agr_add {B : Bf} {u u' : mW} {nc : Nat} {nk : Int} {pP pS pL pO pW : Nat} (h : Agr B u nc nk pP pS pL pO pW) {t ln og k : Int} (e0 : u' nc nk = u nc nk + 1) (e1 : ∀ i, u' pP i = if i = u nc nk then t else u pP i) (e2 : ∀ i, u' pS i = if i = t then u nc nk else u pS i) (e3 : ∀ i, u' pL i = if i = u nc nk then ln else u pL i) (e4 : ∀ i, u' pO i = if i = u nc nk then og else u pO i) (e5 : ∀ i, u' pW i = if i = u nc nk then k else u pW i) : Agr (addB B t ln og k) u' nc nk pP pS pL pO pW := by
  obtain ⟨h0, h1, h2⟩ := h
  refine ⟨by rw [e0, h0]; rfl, fun i i0 i1 => ?_, fun s s0 s1 => ?_⟩
  · have i1' : i < (bN B : Int) + 1 := i1
    rw [e1, e3, e4, e5, h0]
    show (if i = (bN B : Int) then t else u pP i) = (if i = (bN B : Int) then t else bP B i) ∧ (if i = (bN B : Int) then ln else u pL i) = (if i = (bN B : Int) then ln else bL B i) ∧ (if i = (bN B : Int) then og else u pO i) = (if i = (bN B : Int) then og else bO B i) ∧ (if i = (bN B : Int) then k else u pW i) = (if i = (bN B : Int) then k else bW B i)
    by_cases e : i = (bN B : Int)
    · simp only [e, if_true, and_self]
    · simp only [e, if_false]
      exact h1 i i0 (by omega)
  · rw [e2, h0]
    show (if s = t then (bN B : Int) else u pS s) = (if s = t then (bN B : Int) else bS B s)
    rw [h2 s s0 s1]
def PSt (w : mW) (b c1 c2 c3 c4 c5 : Nat) (p q : Nat) (B : Bf) : Prop := PlanIx p ∧ PlanIx q ∧ PlanOK w p ∧ PlanOK w q ∧ w b 5 = (p : Int) ∧ w b 6 = (q : Int) ∧ Agr B w b 7 c1 c2 c3 c4 c5 ∧ BInv B
def walkI (w u : mW) (b c1 c2 c3 c4 c5 : Nat) (p q : Nat) (B : Bf) : Prop := (∀ a : Nat, a < b ∨ c5 < a → u a = w a) ∧ u b 5 = (p : Int) ∧ u b 6 = (q : Int) ∧ Agr B u b 7 c1 c2 c3 c4 c5
theorem kd_rng {w : mW} {p : Nat} (hk : PlanOK w p) {s : Int} (h : 0 ≤ s ∧ s < 8) : 0 ≤ kdF w p s ∧ kdF w p s < 3 := (hk s h.1 h.2).1
theorem tg_rng {w : mW} {p : Nat} (hk : PlanOK w p) {s k : Int} (h : 0 ≤ s ∧ s < 8) (h2 : 0 ≤ k ∧ k < 6) : -1 ≤ tgF w p s k ∧ tgF w p s k < 8 := (hk s h.1 h.2).2 k h2.1 h2.2
theorem rsnT_rng (k : Int) (m : Nat) (k' : Int) (m' : Nat) : 0 ≤ rsnT k m k' m' ∧ rsnT k m k' m' ≤ 5 := by
  unfold rsnT; (repeat' split) <;> omega
theorem rsnS_rng (k : Int) (m : Nat) (k' : Int) (m' : Nat) : 0 ≤ rsnS k m k' m' ∧ rsnS k m k' m' ≤ 5 := by
  unfold rsnS; (repeat' split) <;> omega
theorem nxF_congr {tog : Int → Int → Bool} {w u : mW} {p q : Nat} (hp : u (p + 1) = w (p + 1)) (hq : u (q + 1) = w (q + 1)) : nxF tog u p q = nxF tog w p q := by
  unfold nxF; congr 1 <;> (funext; simp only [kdF, tgF, hp, hq])
def posF (tog : Int → Int → Bool) (w : mW) (p q : Nat) (B : Bf) (i k : Int) : Int := if nxF tog w p q (bP B i) k = -1 then -1 else bS B (nxF tog w p q (bP B i) k)
theorem clm_rng {B : Bf} (hB : BInv B) {k : Int} (hk0 : 0 ≤ k) : ∀ (f : Nat) (i : Int), (0 ≤ i ∧ i < bN B) → 0 ≤ clm B k f i ∧ clm B k f i < bN B
  | 0, i, h => h
  | f + 1, i, h => by
    unfold clm; split
    · next q =>
      have h1 := hB.2.2.1 i h.1 h.2
      by_cases e : 0 < i
      · have h2 := (h1.2.2.2 e).1
        exact clm_rng hB hk0 f _ ⟨h2.1, by omega⟩
      · have : i = 0 := by omega
        subst this
        rw [hB.2.2.2.2.2.1]
        have hL := h1.2.2.1
        omega
    · exact h
theorem rowF_rng {B : Bf} (hB : BInv B) {i k : Int} (hk : 0 ≤ k) (hi : 0 ≤ i ∧ i < bN B) : -1 ≤ rowF B i k ∧ rowF B i k < 6 := by
  unfold rowF; split
  · have h := clm_rng hB hk 64 i hi
    by_cases e : 0 < clm B k 64 i
    · have := ((hB.2.2.1 _ h.1 h.2).2.2.2 e).2.2; omega
    · have e0 : clm B k 64 i = 0 := by omega
      rw [e0, hB.2.2.2.2.2.2]; omega
  · omega
def tellF (tog : Int → Int → Bool) (rs : Int → Nat → Int → Nat → Int) (w : mW) (p q : Nat) (B : Bf) (i c : Int) : Int :=
  if c = 3 then rsnB rs w p q B i else if c = 4 then (if lckB tog w p q B i = -1 then -1000004 else lckB tog w p q B i) else if rowF B i (c - 10) = -1 then -1000004 else rowF B i (c - 10)
/-! the pair object at 15 -/
set_option maxRecDepth 100000 in
set_option maxHeartbeats 4000000 in
theorem s_X2_size_X7 {l : Launch} {G : mG} {w : mW} {p q : Nat} {B : Bf} (hS : PSt w 15 16 17 18 19 20 p q B) : Mx l G 0 yX2_size cX2_size 1 (some .int) [mvR 15] w (qP (mvI (bN B : Int)) w) := by
  refine Mx.intro (by decide) RX2 rfl [some (mvR 15)] (Nat.le_of_ble_eq_true rfl) rfl (fun K hC => ?_)
  obtain ⟨hp, hq, hkp, hkq, h5, h6, hA, hB⟩ := id hS
  have hle := hB.le
  refine wm_aload_n hC 0 (pc := 0) dX2_size_0 rfl rfl ?_
  refine wm_getI hC 15 7 fl_X2_40_6 rfl rfl rfl (pc := 1) dX2_size_1 ?_
  refine wm_iretP hC (pc := 4) dX2_size_4 ?_ rfl
  exact hA.1
set_option maxRecDepth 100000 in
set_option maxHeartbeats 4000000 in
theorem s_X2_has_X7 {l : Launch} {G : mG} {w : mW} {p q : Nat} {B : Bf} (hS : PSt w 15 16 17 18 19 20 p q B) {i : Int} (hi : -2147483648 ≤ i ∧ i < 2147483648) : Mx l G 0 yX2_has cX2_has 2 (some .boolean) [mvR 15, mvI i] w (qP (mvI (mb (decide (0 ≤ i ∧ i < (bN B : Int))))) w) := by
  refine Mx.intro (by decide) RX2 rfl [some (mvR 15), some (mvI i)] (Nat.le_of_ble_eq_true rfl) rfl (fun K hC => ?_)
  obtain ⟨hp, hq, hkp, hkq, h5, h6, hA, hB⟩ := id hS
  have hle := hB.le
  refine wm_iload_n hC 1 (pc := 0) dX2_has_0 rfl rfl ?_
  refine wm_if_lt hC 16 (pc := 1) dX2_has_1 (by decide) (by omega) (fun h1 => ?_) (fun h1 => ?_)
  · refine wm_iconst hC (pc := 16) dX2_has_16 ?_
    refine wm_zretP hC (pc := 17) dX2_has_17 ?_ rfl
    first | exact ((mb_0 _).mpr (decide_eq_false (by omega))).symm | exact ((mb_1 _).mpr (decide_eq_true (by omega))).symm
  · refine wm_iload_n hC 1 (pc := 4) dX2_has_4 rfl rfl ?_
    refine wm_aload_n hC 0 (pc := 5) dX2_has_5 rfl rfl ?_
    refine wm_getI hC 15 7 fl_X2_40_6 rfl rfl rfl (pc := 6) dX2_has_6 ?_
    rw [hA.1]
    refine wm_icmp_ge hC 16 (pc := 9) dX2_has_9 (by decide) (by omega) (by omega) (fun h9 => ?_) (fun h9 => ?_)
    · refine wm_iconst hC (pc := 16) dX2_has_16 ?_
      refine wm_zretP hC (pc := 17) dX2_has_17 ?_ rfl
      first | exact ((mb_0 _).mpr (decide_eq_false (by omega))).symm | exact ((mb_1 _).mpr (decide_eq_true (by omega))).symm
    · refine wm_iconst hC (pc := 12) dX2_has_12 ?_
      refine wm_goto hC 17 (pc := 13) dX2_has_13 (by decide) ?_
      refine wm_zretP hC (pc := 17) dX2_has_17 ?_ rfl
      first | exact ((mb_0 _).mpr (decide_eq_false (by omega))).symm | exact ((mb_1 _).mpr (decide_eq_true (by omega))).symm
set_option maxRecDepth 100000 in
set_option maxHeartbeats 4000000 in
theorem s_X2_stateOfOne_X7 {l : Launch} {G : mG} {w : mW} {p q : Nat} {B : Bf} (hS : PSt w 15 16 17 18 19 20 p q B) {i : Int} (hi : 0 ≤ i ∧ i < bN B) : Mx l G 1 yX2_stateOfOne cX2_stateOfOne 2 (some .int) [mvR 15, mvI i] w (qP (mvI (bP B i / 8)) w) := by
  refine Mx.intro (by decide) RX2 rfl [some (mvR 15), some (mvI i)] (Nat.le_of_ble_eq_true rfl) rfl (fun K hC => ?_)
  obtain ⟨hp, hq, hkp, hkq, h5, h6, hA, hB⟩ := id hS
  have hle := hB.le
  have hI := hB.2.2.1 i hi.1 hi.2
  have hIA := hA.2.1 i hi.1 hi.2
  refine wm_aload_n hC 0 (pc := 0) dX2_stateOfOne_0 rfl rfl ?_
  refine wm_getR hC fl_X2_9_6 rfl rfl (pc := 1) dX2_stateOfOne_1 ?_
  refine wm_iload_n hC 1 (pc := 4) dX2_stateOfOne_4 rfl rfl ?_
  refine wm_pN hC cn_X2_52 kc_X8_cellOf (s_X8_cellOf rfl (by decide) (by omega)) rfl (by decide) rfl (Nat.le_of_ble_eq_true rfl) (pc := 5) dX2_stateOfOne_5 ?_
  rw [if_pos (show 0 ≤ i ∧ i < ((64 : Nat) : Int) by omega)]
  rw [hIA.1]
  refine wm_bipush hC (pc := 8) dX2_stateOfOne_8 (by decide) ?_
  refine wm_idiv hC (pc := 10) dX2_stateOfOne_10 (by omega) (by omega) ?_
  refine wm_iretP hC (pc := 11) dX2_stateOfOne_11 ?_ rfl
  rfl
set_option maxRecDepth 100000 in
set_option maxHeartbeats 4000000 in
theorem s_X2_stateOfOther_X7 {l : Launch} {G : mG} {w : mW} {p q : Nat} {B : Bf} (hS : PSt w 15 16 17 18 19 20 p q B) {i : Int} (hi : 0 ≤ i ∧ i < bN B) : Mx l G 1 yX2_stateOfOther cX2_stateOfOther 2 (some .int) [mvR 15, mvI i] w (qP (mvI (bP B i % 8)) w) := by
  refine Mx.intro (by decide) RX2 rfl [some (mvR 15), some (mvI i)] (Nat.le_of_ble_eq_true rfl) rfl (fun K hC => ?_)
  obtain ⟨hp, hq, hkp, hkq, h5, h6, hA, hB⟩ := id hS
  have hle := hB.le
  have hI := hB.2.2.1 i hi.1 hi.2
  have hIA := hA.2.1 i hi.1 hi.2
  refine wm_aload_n hC 0 (pc := 0) dX2_stateOfOther_0 rfl rfl ?_
  refine wm_getR hC fl_X2_9_6 rfl rfl (pc := 1) dX2_stateOfOther_1 ?_
  refine wm_iload_n hC 1 (pc := 4) dX2_stateOfOther_4 rfl rfl ?_
  refine wm_pN hC cn_X2_52 kc_X8_cellOf (s_X8_cellOf rfl (by decide) (by omega)) rfl (by decide) rfl (Nat.le_of_ble_eq_true rfl) (pc := 5) dX2_stateOfOther_5 ?_
  rw [if_pos (show 0 ≤ i ∧ i < ((64 : Nat) : Int) by omega)]
  rw [hIA.1]
  refine wm_bipush hC (pc := 8) dX2_stateOfOther_8 (by decide) ?_
  refine wm_irem hC (pc := 10) dX2_stateOfOther_10 (by omega) (by omega) ?_
  refine wm_iretP hC (pc := 11) dX2_stateOfOther_11 ?_ rfl
  rfl
set_option maxRecDepth 100000 in
set_option maxHeartbeats 4000000 in
theorem s_X2_lengthOf_X7 {l : Launch} {G : mG} {w : mW} {p q : Nat} {B : Bf} (hS : PSt w 15 16 17 18 19 20 p q B) {i : Int} (hi : 0 ≤ i ∧ i < bN B) : Mx l G 1 yX2_lengthOf cX2_lengthOf 2 (some .int) [mvR 15, mvI i] w (qP (mvI (bL B i)) w) := by
  refine Mx.intro (by decide) RX2 rfl [some (mvR 15), some (mvI i)] (Nat.le_of_ble_eq_true rfl) rfl (fun K hC => ?_)
  obtain ⟨hp, hq, hkp, hkq, h5, h6, hA, hB⟩ := id hS
  have hle := hB.le
  have hI := hB.2.2.1 i hi.1 hi.2
  have hIA := hA.2.1 i hi.1 hi.2
  refine wm_aload_n hC 0 (pc := 0) dX2_lengthOf_0 rfl rfl ?_
  refine wm_getR hC fl_X2_18_6 rfl rfl (pc := 1) dX2_lengthOf_1 ?_
  refine wm_iload_n hC 1 (pc := 4) dX2_lengthOf_4 rfl rfl ?_
  refine wm_pN hC cn_X2_52 kc_X8_cellOf (s_X8_cellOf rfl (by decide) (by omega)) rfl (by decide) rfl (Nat.le_of_ble_eq_true rfl) (pc := 5) dX2_lengthOf_5 ?_
  refine wm_iretP hC (pc := 8) dX2_lengthOf_8 ?_ rfl
  rw [if_pos (show 0 ≤ i ∧ i < ((64 : Nat) : Int) by omega)]
  exact hIA.2.1
set_option maxRecDepth 100000 in
set_option maxHeartbeats 4000000 in
theorem s_X2_kindOfOne_X7 {l : Launch} {G : mG} {w : mW} {p q : Nat} {B : Bf} (hS : PSt w 15 16 17 18 19 20 p q B) {i : Int} (hi : 0 ≤ i ∧ i < bN B) : Mx l G 2 yX2_kindOfOne cX2_kindOfOne 2 (some .int) [mvR 15, mvI i] w (qP (mvI (kdF w p (bP B i / 8))) w) := by
  refine Mx.intro (by decide) RX2 rfl [some (mvR 15), some (mvI i)] (Nat.le_of_ble_eq_true rfl) rfl (fun K hC => ?_)
  obtain ⟨hp, hq, hkp, hkq, h5, h6, hA, hB⟩ := id hS
  have hle := hB.le
  have hI := hB.2.2.1 i hi.1 hi.2
  have hIA := hA.2.1 i hi.1 hi.2
  refine wm_aload_n hC 0 (pc := 0) dX2_kindOfOne_0 rfl rfl ?_
  refine wm_getD hC 5 p fl_X2_27_6 rfl rfl rfl h5 (pc := 1) dX2_kindOfOne_1 ?_
  refine wm_aload_n hC 0 (pc := 4) dX2_kindOfOne_4 rfl rfl ?_
  refine wm_iload_n hC 1 (pc := 5) dX2_kindOfOne_5 rfl rfl ?_
  refine wm_pU hC cu_X2_60_X7 kc_X2_stateOfOne rfl rfl (s_X2_stateOfOne_X7 hS hi) rfl (by decide) rfl (Nat.le_of_ble_eq_true rfl) (pc := 6) dX2_kindOfOne_6 ?_
  refine wm_pV hC cv_X2_71 kc_X3_kindOf hp.1 rfl (s_X3_kindOf hp (by omega)) rfl (by decide) rfl (Nat.le_of_ble_eq_true rfl) (pc := 9) dX2_kindOfOne_9 ?_
  refine wm_iretP hC (pc := 12) dX2_kindOfOne_12 ?_ rfl
  rfl
set_option maxRecDepth 100000 in
set_option maxHeartbeats 4000000 in
theorem s_X2_kindOfOther_X7 {l : Launch} {G : mG} {w : mW} {p q : Nat} {B : Bf} (hS : PSt w 15 16 17 18 19 20 p q B) {i : Int} (hi : 0 ≤ i ∧ i < bN B) : Mx l G 2 yX2_kindOfOther cX2_kindOfOther 2 (some .int) [mvR 15, mvI i] w (qP (mvI (kdF w q (bP B i % 8))) w) := by
  refine Mx.intro (by decide) RX2 rfl [some (mvR 15), some (mvI i)] (Nat.le_of_ble_eq_true rfl) rfl (fun K hC => ?_)
  obtain ⟨hp, hq, hkp, hkq, h5, h6, hA, hB⟩ := id hS
  have hle := hB.le
  have hI := hB.2.2.1 i hi.1 hi.2
  have hIA := hA.2.1 i hi.1 hi.2
  refine wm_aload_n hC 0 (pc := 0) dX2_kindOfOther_0 rfl rfl ?_
  refine wm_getD hC 6 q fl_X2_31_6 rfl rfl rfl h6 (pc := 1) dX2_kindOfOther_1 ?_
  refine wm_aload_n hC 0 (pc := 4) dX2_kindOfOther_4 rfl rfl ?_
  refine wm_iload_n hC 1 (pc := 5) dX2_kindOfOther_5 rfl rfl ?_
  refine wm_pU hC cu_X2_63_X7 kc_X2_stateOfOther rfl rfl (s_X2_stateOfOther_X7 hS hi) rfl (by decide) rfl (Nat.le_of_ble_eq_true rfl) (pc := 6) dX2_kindOfOther_6 ?_
  refine wm_pV hC cv_X2_71 kc_X3_kindOf hq.1 rfl (s_X3_kindOf hq (by omega)) rfl (by decide) rfl (Nat.le_of_ble_eq_true rfl) (pc := 9) dX2_kindOfOther_9 ?_
  refine wm_iretP hC (pc := 12) dX2_kindOfOther_12 ?_ rfl
  rfl
set_option maxRecDepth 100000 in
set_option maxHeartbeats 4000000 in
theorem s_X2_reasonOf_X7 {l : Launch} {G : mG} {w : mW} {p q : Nat} {B : Bf} (hS : PSt w 15 16 17 18 19 20 p q B) {i : Int} (hi : 0 ≤ i ∧ i < bN B) : Mx l G 3 yX2_reasonOf cX2_reasonOf 4 (some .int) [mvR 15, mvI i] w (qP (mvI (rsnB rsnT w p q B i)) w) := by
  refine Mx.intro (by decide) RX2 rfl [some (mvR 15), some (mvI i), none, none] (Nat.le_of_ble_eq_true rfl) rfl (fun K hC => ?_)
  obtain ⟨hp, hq, hkp, hkq, h5, h6, hA, hB⟩ := id hS
  have hle := hB.le
  have hI := hB.2.2.1 i hi.1 hi.2
  have hIA := hA.2.1 i hi.1 hi.2
  have hk1 := kd_rng hkp (s := bP B i / 8) (by omega)
  have hk2 := kd_rng hkq (s := bP B i % 8) (by omega)
  refine wm_aload_n hC 0 (pc := 0) dX2_reasonOf_0 rfl rfl ?_
  refine wm_iload_n hC 1 (pc := 1) dX2_reasonOf_1 rfl rfl ?_
  refine wm_pU hC cu_X2_60_X7 kc_X2_stateOfOne rfl rfl (s_X2_stateOfOne_X7 hS hi) rfl (by decide) rfl (Nat.le_of_ble_eq_true rfl) (pc := 2) dX2_reasonOf_2 ?_
  refine wm_istore_n hC 2 (pc := 5) dX2_reasonOf_5 rfl (by decide) rfl ?_
  refine wm_aload_n hC 0 (pc := 6) dX2_reasonOf_6 rfl rfl ?_
  refine wm_iload_n hC 1 (pc := 7) dX2_reasonOf_7 rfl rfl ?_
  refine wm_pU hC cu_X2_63_X7 kc_X2_stateOfOther rfl rfl (s_X2_stateOfOther_X7 hS hi) rfl (by decide) rfl (Nat.le_of_ble_eq_true rfl) (pc := 8) dX2_reasonOf_8 ?_
  refine wm_istore_n hC 3 (pc := 11) dX2_reasonOf_11 rfl (by decide) rfl ?_
  refine wm_aload_n hC 0 (pc := 12) dX2_reasonOf_12 rfl rfl ?_
  refine wm_aload_n hC 0 (pc := 13) dX2_reasonOf_13 rfl rfl ?_
  refine wm_getD hC 5 p fl_X2_27_6 rfl rfl rfl h5 (pc := 14) dX2_reasonOf_14 ?_
  refine wm_iload_n hC 2 (pc := 17) dX2_reasonOf_17 rfl rfl ?_
  refine wm_pV hC cv_X2_71 kc_X3_kindOf hp.1 rfl (s_X3_kindOf hp (by omega)) rfl (by decide) rfl (Nat.le_of_ble_eq_true rfl) (pc := 18) dX2_reasonOf_18 ?_
  refine wm_aload_n hC 0 (pc := 21) dX2_reasonOf_21 rfl rfl ?_
  refine wm_getD hC 5 p fl_X2_27_6 rfl rfl rfl h5 (pc := 22) dX2_reasonOf_22 ?_
  refine wm_iload_n hC 2 (pc := 25) dX2_reasonOf_25 rfl rfl ?_
  refine wm_pV hC cv_X2_78 kc_X3_wordsOf hp.1 rfl (s_X3_wordsOf hp (by omega) hkp) rfl (by decide) rfl (Nat.le_of_ble_eq_true rfl) (pc := 26) dX2_reasonOf_26 ?_
  refine wm_aload_n hC 0 (pc := 29) dX2_reasonOf_29 rfl rfl ?_
  refine wm_getD hC 6 q fl_X2_31_6 rfl rfl rfl h6 (pc := 30) dX2_reasonOf_30 ?_
  refine wm_iload_n hC 3 (pc := 33) dX2_reasonOf_33 rfl rfl ?_
  refine wm_pV hC cv_X2_71 kc_X3_kindOf hq.1 rfl (s_X3_kindOf hq (by omega)) rfl (by decide) rfl (Nat.le_of_ble_eq_true rfl) (pc := 34) dX2_reasonOf_34 ?_
  refine wm_aload_n hC 0 (pc := 37) dX2_reasonOf_37 rfl rfl ?_
  refine wm_getD hC 6 q fl_X2_31_6 rfl rfl rfl h6 (pc := 38) dX2_reasonOf_38 ?_
  refine wm_iload_n hC 3 (pc := 41) dX2_reasonOf_41 rfl rfl ?_
  refine wm_pV hC cv_X2_78 kc_X3_wordsOf hq.1 rfl (s_X3_wordsOf hq (by omega) hkq) rfl (by decide) rfl (Nat.le_of_ble_eq_true rfl) (pc := 42) dX2_reasonOf_42 ?_
  refine wm_pU hC cu_X2_81_X7 kc_X7_reasonFor rfl rfl (s_X7_reasonFor hk1 hk2 (msk_lt _ _ _) (msk_lt _ _ _)) rfl (by decide) rfl (Nat.le_of_ble_eq_true rfl) (pc := 45) dX2_reasonOf_45 ?_
  refine wm_iretP hC (pc := 48) dX2_reasonOf_48 ?_ rfl
  rfl
set_option maxRecDepth 100000 in
set_option maxHeartbeats 4000000 in
theorem s_X2_firstLackedWord_X7 {l : Launch} {G : mG} {w : mW} {p q : Nat} {B : Bf} (hS : PSt w 15 16 17 18 19 20 p q B) {i : Int} (hi : 0 ≤ i ∧ i < bN B) : Mx l G 3 yX2_firstLackedWord cX2_firstLackedWord 5 (some .int) [mvR 15, mvI i] w (qP (mvI (lckB togT w p q B i)) w) := by
  refine Mx.intro (by decide) RX2 rfl [some (mvR 15), some (mvI i), none, none, none] (Nat.le_of_ble_eq_true rfl) rfl (fun K hC => ?_)
  obtain ⟨hp, hq, hkp, hkq, h5, h6, hA, hB⟩ := id hS
  have hle := hB.le
  have hI := hB.2.2.1 i hi.1 hi.2
  have hIA := hA.2.1 i hi.1 hi.2
  have hk1 := kd_rng hkp (s := bP B i / 8) (by omega)
  have hk2 := kd_rng hkq (s := bP B i % 8) (by omega)
  refine wm_aload_n hC 0 (pc := 0) dX2_firstLackedWord_0 rfl rfl ?_
  refine wm_iload_n hC 1 (pc := 1) dX2_firstLackedWord_1 rfl rfl ?_
  refine wm_pU hC cu_X2_85_X7 kc_X2_kindOfOne rfl rfl (s_X2_kindOfOne_X7 hS hi) rfl (by decide) rfl (Nat.le_of_ble_eq_true rfl) (pc := 2) dX2_firstLackedWord_2 ?_
  refine wm_istore_n hC 2 (pc := 5) dX2_firstLackedWord_5 rfl (by decide) rfl ?_
  refine wm_aload_n hC 0 (pc := 6) dX2_firstLackedWord_6 rfl rfl ?_
  refine wm_iload_n hC 2 (pc := 7) dX2_firstLackedWord_7 rfl rfl ?_
  refine wm_aload_n hC 0 (pc := 8) dX2_firstLackedWord_8 rfl rfl ?_
  refine wm_iload_n hC 1 (pc := 9) dX2_firstLackedWord_9 rfl rfl ?_
  refine wm_pU hC cu_X2_88_X7 kc_X2_kindOfOther rfl rfl (s_X2_kindOfOther_X7 hS hi) rfl (by decide) rfl (Nat.le_of_ble_eq_true rfl) (pc := 10) dX2_firstLackedWord_10 ?_
  refine wm_pU hC cu_X2_74_X7 kc_X7_goTogether rfl rfl (s_X7_goTogether (by omega) (by omega)) rfl (by decide) rfl (Nat.le_of_ble_eq_true rfl) (pc := 13) dX2_firstLackedWord_13 ?_
  refine wm_ifb_ne hC 21 (pc := 16) dX2_firstLackedWord_16 (by decide) (fun h16 => ?_) (fun h16 => ?_)
  · refine wm_aload_n hC 0 (pc := 21) dX2_firstLackedWord_21 rfl rfl ?_
    refine wm_getD hC 5 p fl_X2_27_6 rfl rfl rfl h5 (pc := 22) dX2_firstLackedWord_22 ?_
    refine wm_aload_n hC 0 (pc := 25) dX2_firstLackedWord_25 rfl rfl ?_
    refine wm_iload_n hC 1 (pc := 26) dX2_firstLackedWord_26 rfl rfl ?_
    refine wm_pU hC cu_X2_60_X7 kc_X2_stateOfOne rfl rfl (s_X2_stateOfOne_X7 hS hi) rfl (by decide) rfl (Nat.le_of_ble_eq_true rfl) (pc := 27) dX2_firstLackedWord_27 ?_
    refine wm_pV hC cv_X2_78 kc_X3_wordsOf hp.1 rfl (s_X3_wordsOf hp (by omega) hkp) rfl (by decide) rfl (Nat.le_of_ble_eq_true rfl) (pc := 30) dX2_firstLackedWord_30 ?_
    refine wm_istore_n hC 3 (pc := 33) dX2_firstLackedWord_33 rfl (by decide) rfl ?_
    refine wm_aload_n hC 0 (pc := 34) dX2_firstLackedWord_34 rfl rfl ?_
    refine wm_getD hC 6 q fl_X2_31_6 rfl rfl rfl h6 (pc := 35) dX2_firstLackedWord_35 ?_
    refine wm_aload_n hC 0 (pc := 38) dX2_firstLackedWord_38 rfl rfl ?_
    refine wm_iload_n hC 1 (pc := 39) dX2_firstLackedWord_39 rfl rfl ?_
    refine wm_pU hC cu_X2_63_X7 kc_X2_stateOfOther rfl rfl (s_X2_stateOfOther_X7 hS hi) rfl (by decide) rfl (Nat.le_of_ble_eq_true rfl) (pc := 40) dX2_firstLackedWord_40 ?_
    refine wm_pV hC cv_X2_78 kc_X3_wordsOf hq.1 rfl (s_X3_wordsOf hq (by omega) hkq) rfl (by decide) rfl (Nat.le_of_ble_eq_true rfl) (pc := 43) dX2_firstLackedWord_43 ?_
    refine wm_istore hC  (pc := 46) dX2_firstLackedWord_46  (by decide) rfl ?_
    refine wm_iload_n hC 2 (pc := 48) dX2_firstLackedWord_48 rfl rfl ?_
    refine wm_iload_n hC 3 (pc := 49) dX2_firstLackedWord_49 rfl rfl ?_
    refine wm_iload hC  (pc := 50) dX2_firstLackedWord_50 rfl ?_
    refine wm_pS hC cs_X2_91 kc_X2_lackedWords (s_X2_lackedWords (by omega)) rfl (by decide) rfl (Nat.le_of_ble_eq_true rfl) (pc := 52) dX2_firstLackedWord_52 ?_
    refine wm_pN hC cn_X2_95 kc_X8_firstWordIn (s_X8_firstWordIn (lackF_lt _ (msk_lt w p (bP B i / 8)) (msk_lt w q (bP B i % 8)))) rfl (by decide) rfl (Nat.le_of_ble_eq_true rfl) (pc := 55) dX2_firstLackedWord_55 ?_
    refine wm_iretP hC (pc := 58) dX2_firstLackedWord_58 ?_ rfl
    unfold lckB
    rw [h16]; rfl
  · refine wm_iconst hC (pc := 19) dX2_firstLackedWord_19 ?_
    refine wm_iretP hC (pc := 20) dX2_firstLackedWord_20 ?_ rfl
    unfold lckB
    rw [h16]; rfl
set_option maxRecDepth 100000 in
set_option maxHeartbeats 4000000 in
theorem s_X2_firstFaulty_X7 {l : Launch} {G : mG} {w : mW} {p q : Nat} {B : Bf} (hS : PSt w 15 16 17 18 19 20 p q B) : Mx l G 4 yX2_firstFaulty cX2_firstFaulty 2 (some .int) [mvR 15] w (qP (mvI (faultB rsnT w p q B)) w) := by
  refine Mx.intro (by decide) RX2 rfl [some (mvR 15), none] (Nat.le_of_ble_eq_true rfl) rfl (fun K hC => ?_)
  obtain ⟨hp, hq, hkp, hkq, h5, h6, hA, hB⟩ := id hS
  have hle := hB.le
  refine wm_iconst hC (pc := 0) dX2_firstFaulty_0 ?_
  refine wm_istore_n hC 1 (pc := 1) dX2_firstFaulty_1 rfl (by decide) rfl ?_
  have lp2 : ∀ (n : Nat) (i : Nat), n = bN B - i → i ≤ bN B → faultB rsnT w p q B = ffst (fun i => decide (¬ rsnB rsnT w p q B i = 0)) (bN B - i) i → Wm l G K 4 2 (qP (mvI (faultB rsnT w p q B)) w) 2 [some (mvR 15), some (mvI (i : Int))] [] w := by
    intro n
    induction n using Nat.strongRecOn with
    | _ n ih =>
    intro i hn hi he
    refine wm_iload_n hC 1 (pc := 2) dX2_firstFaulty_2 rfl rfl ?_
    refine wm_aload_n hC 0 (pc := 3) dX2_firstFaulty_3 rfl rfl ?_
    refine wm_getI hC 15 7 fl_X2_40_6 rfl rfl rfl (pc := 4) dX2_firstFaulty_4 ?_
    refine wm_icmp_ge hC 26 (pc := 7) dX2_firstFaulty_7 (by decide) (by omega) (by rw [hA.1]; omega) (fun h7 => ?_) (fun h7 => ?_)
    · rw [hA.1] at h7
      refine wm_iconst hC (pc := 26) dX2_firstFaulty_26 ?_
      refine wm_iretP hC (pc := 27) dX2_firstFaulty_27 ?_ rfl
      have : i = bN B := by omega
      subst this
      rw [he, Nat.sub_self]; rfl
    · rw [hA.1] at h7
      refine wm_aload_n hC 0 (pc := 10) dX2_firstFaulty_10 rfl rfl ?_
      refine wm_iload_n hC 1 (pc := 11) dX2_firstFaulty_11 rfl rfl ?_
      refine wm_pU hC cu_X2_98_X7 kc_X2_reasonOf rfl rfl (s_X2_reasonOf_X7 hS (by omega)) rfl (by decide) rfl (Nat.le_of_ble_eq_true rfl) (pc := 12) dX2_firstFaulty_12 ?_
      refine wm_if_eq hC 20 (pc := 15) dX2_firstFaulty_15 (by decide) (by have := rsnT_rng (kdF w p (bP B i / 8)) (msk w p (bP B i / 8)) (kdF w q (bP B i % 8)) (msk w q (bP B i % 8)); unfold rsnB; omega) (fun h15 => ?_) (fun h15 => ?_)
      · refine wm_iinc hC (pc := 20) dX2_firstFaulty_20 rfl rfl (by decide) rfl ?_
        refine wm_goto hC 2 (pc := 23) dX2_firstFaulty_23 (by decide) ?_
        exact ih _ (by omega) (i + 1) rfl (by omega) (by rw [he, show bN B - i = (bN B - (i + 1)) + 1 by omega]; simp [ffst, h15])
      · refine wm_iload_n hC 1 (pc := 18) dX2_firstFaulty_18 rfl rfl ?_
        refine wm_iretP hC (pc := 19) dX2_firstFaulty_19 ?_ rfl
        rw [he, show bN B - i = (bN B - (i + 1)) + 1 by omega]; simp [ffst, h15]
  exact lp2 _ 0 rfl (by omega) rfl
set_option maxRecDepth 100000 in
set_option maxHeartbeats 4000000 in
theorem s_X2_wordOfRow_X7 {l : Launch} {G : mG} {w : mW} {p q : Nat} {B : Bf} (hS : PSt w 15 16 17 18 19 20 p q B) {i : Int} (hi : 0 ≤ i ∧ i < bN B) {k : Int} (hk : 0 ≤ k ∧ k < 64) : Mx l G 2 yX2_wordOfRow cX2_wordOfRow 5 (some .int) [mvR 15, mvI i, mvI k] w (qP (mvI (rowF B i k)) w) := by
  refine Mx.intro (by decide) RX2 rfl [some (mvR 15), some (mvI i), some (mvI k), none, none] (Nat.le_of_ble_eq_true rfl) rfl (fun K hC => ?_)
  obtain ⟨hp, hq, hkp, hkq, h5, h6, hA, hB⟩ := id hS
  have hle := hB.le
  have hI := hB.2.2.1 i hi.1 hi.2
  have hIA := hA.2.1 i hi.1 hi.2
  refine wm_iload_n hC 1 (pc := 0) dX2_wordOfRow_0 rfl rfl ?_
  refine wm_istore_n hC 3 (pc := 1) dX2_wordOfRow_1 rfl (by decide) rfl ?_
  refine wm_aload_n hC 0 (pc := 2) dX2_wordOfRow_2 rfl rfl ?_
  refine wm_iload_n hC 1 (pc := 3) dX2_wordOfRow_3 rfl rfl ?_
  refine wm_pU hC cu_X2_56_X7 kc_X2_lengthOf rfl rfl (s_X2_lengthOf_X7 hS hi) rfl (by decide) rfl (Nat.le_of_ble_eq_true rfl) (pc := 4) dX2_wordOfRow_4 ?_
  refine wm_istore hC  (pc := 7) dX2_wordOfRow_7  (by decide) rfl ?_
  have lp9 : ∀ (n : Nat) (f : Nat) (r : Int), n = f → clm B k 64 i = clm B k f r → (0 ≤ r ∧ r < bN B) → bL B r ≤ f → Wm l G K 2 5 (qP (mvI (rowF B i k)) w) 9 [some (mvR 15), some (mvI i), some (mvI k), some (mvI r), some (mvI (bL B r))] [] w := by
    intro n
    induction n using Nat.strongRecOn with
    | _ n ih =>
    intro f r hn he hr hf
    have hLr := (hB.2.2.1 r hr.1 hr.2).2.2.1
    refine wm_iload hC  (pc := 9) dX2_wordOfRow_9 rfl ?_
    refine wm_iload_n hC 2 (pc := 11) dX2_wordOfRow_11 rfl rfl ?_
    refine wm_iconst hC (pc := 12) dX2_wordOfRow_12 ?_
    refine wm_iadd hC (pc := 13) dX2_wordOfRow_13 ?_
    refine wm_icmp_le hC 32 (pc := 14) dX2_wordOfRow_14 (by decide) (by omega) (by omega) (fun h14 => ?_) (fun h14 => ?_)
    · refine wm_iload_n hC 2 (pc := 32) dX2_wordOfRow_32 rfl rfl ?_
      refine wm_aload_n hC 0 (pc := 33) dX2_wordOfRow_33 rfl rfl ?_
      refine wm_iload_n hC 1 (pc := 34) dX2_wordOfRow_34 rfl rfl ?_
      refine wm_pU hC cu_X2_56_X7 kc_X2_lengthOf rfl rfl (s_X2_lengthOf_X7 hS hi) rfl (by decide) rfl (Nat.le_of_ble_eq_true rfl) (pc := 35) dX2_wordOfRow_35 ?_
      refine wm_icmp_ge hC 52 (pc := 38) dX2_wordOfRow_38 (by decide) (by omega) (by omega) (fun h38 => ?_) (fun h38 => ?_)
      · refine wm_iconst hC (pc := 52) dX2_wordOfRow_52 ?_
        refine wm_iretP hC (pc := 53) dX2_wordOfRow_53 ?_ rfl
        first | (unfold rowF; rw [if_pos h38, he, if_pos (show 0 ≤ r ∧ r < ((64 : Nat) : Int) by omega)]; exact (hA.2.1 r hr.1 hr.2).2.2.2) | (unfold rowF; rw [if_neg (by omega)])
      · rw [clm_done B k f r (by omega)] at he
        refine wm_aload_n hC 0 (pc := 41) dX2_wordOfRow_41 rfl rfl ?_
        refine wm_getR hC fl_X2_24_6 rfl rfl (pc := 42) dX2_wordOfRow_42 ?_
        refine wm_iload_n hC 3 (pc := 45) dX2_wordOfRow_45 rfl rfl ?_
        refine wm_pN hC cn_X2_52 kc_X8_cellOf (s_X8_cellOf rfl (by decide) (by omega)) rfl (by decide) rfl (Nat.le_of_ble_eq_true rfl) (pc := 46) dX2_wordOfRow_46 ?_
        refine wm_goto hC 53 (pc := 49) dX2_wordOfRow_49 (by decide) ?_
        refine wm_iretP hC (pc := 53) dX2_wordOfRow_53 ?_ rfl
        first | (unfold rowF; rw [if_pos h38, he, if_pos (show 0 ≤ r ∧ r < ((64 : Nat) : Int) by omega)]; exact (hA.2.1 r hr.1 hr.2).2.2.2) | (unfold rowF; rw [if_neg (by omega)])
    · have hIr := hB.2.2.1 r hr.1 hr.2
      have hIr4 := hIr.2.2.2 (by omega)
      refine wm_aload_n hC 0 (pc := 17) dX2_wordOfRow_17 rfl rfl ?_
      refine wm_getR hC fl_X2_21_6 rfl rfl (pc := 18) dX2_wordOfRow_18 ?_
      refine wm_iload_n hC 3 (pc := 21) dX2_wordOfRow_21 rfl rfl ?_
      refine wm_pN hC cn_X2_52 kc_X8_cellOf (s_X8_cellOf rfl (by decide) (by omega)) rfl (by decide) rfl (Nat.le_of_ble_eq_true rfl) (pc := 22) dX2_wordOfRow_22 ?_
      rw [if_pos (show 0 ≤ r ∧ r < ((64 : Nat) : Int) by omega), (hA.2.1 r hr.1 hr.2).2.2.1]
      refine wm_istore_n hC 3 (pc := 25) dX2_wordOfRow_25 rfl (by decide) rfl ?_
      refine wm_iinc hC (v := (bL B (bO B r))) (pc := 26) dX2_wordOfRow_26 rfl (by omega) (by decide) rfl ?_
      refine wm_goto hC 9 (pc := 29) dX2_wordOfRow_29 (by decide) ?_
      obtain ⟨f1, rfl⟩ : ∃ f1, f = f1 + 1 := ⟨f - 1, by omega⟩
      exact ih f1 (by omega) f1 (bO B r) rfl (by rw [he]; show (if k + 1 < bL B r then _ else _) = _; rw [if_pos h14]) ⟨hIr4.1.1, by omega⟩ (by omega)
  exact lp9 64 64 i rfl rfl hi (by omega)
set_option maxRecDepth 100000 in
set_option maxHeartbeats 4000000 in
theorem s_X2_tellMore_X7 {l : Launch} {G : mG} {w : mW} {p q : Nat} {B : Bf} (hS : PSt w 15 16 17 18 19 20 p q B) {i : Int} (hi : 0 ≤ i ∧ i < bN B) {c : Int} (hc : c = 3 ∨ c = 4 ∨ (10 ≤ c ∧ c < 74)) : Mx l G 4 yX2_tellMore cX2_tellMore 3 (some .int) [mvR 15, mvI i, mvI c] w (qP (mvI (tellF togT rsnT w p q B i c)) w) := by
  refine Mx.intro (by decide) RX2 rfl [some (mvR 15), some (mvI i), some (mvI c)] (Nat.le_of_ble_eq_true rfl) rfl (fun K hC => ?_)
  obtain ⟨hp, hq, hkp, hkq, h5, h6, hA, hB⟩ := id hS
  have hle := hB.le
  have hI := hB.2.2.1 i hi.1 hi.2
  have hIA := hA.2.1 i hi.1 hi.2
  refine wm_iload_n hC 2 (pc := 0) dX2_tellMore_0 rfl rfl ?_
  by_cases sw1_0 : c = 3
  · refine wm_lookup hC (off := 27) 28 (pc := 1) dX2_tellMore_1 (by decide) (by omega) (by subst sw1_0; rfl) (by decide) ?_
    refine wm_aload_n hC 0 (pc := 28) dX2_tellMore_28 rfl rfl ?_
    refine wm_iload_n hC 1 (pc := 29) dX2_tellMore_29 rfl rfl ?_
    refine wm_pU hC cu_X2_98_X7 kc_X2_reasonOf rfl rfl (s_X2_reasonOf_X7 hS hi) rfl (by decide) rfl (Nat.le_of_ble_eq_true rfl) (pc := 30) dX2_tellMore_30 ?_
    refine wm_iretP hC (pc := 33) dX2_tellMore_33 ?_ rfl
    unfold tellF; rw [if_pos sw1_0]
  by_cases sw1_1 : c = 4
  · refine wm_lookup hC (off := 33) 34 (pc := 1) dX2_tellMore_1 (by decide) (by omega) (by subst sw1_1; rfl) (by decide) ?_
    refine wm_aload_n hC 0 (pc := 34) dX2_tellMore_34 rfl rfl ?_
    refine wm_iload_n hC 1 (pc := 35) dX2_tellMore_35 rfl rfl ?_
    refine wm_pU hC cu_X2_101_X7 kc_X2_firstLackedWord rfl rfl (s_X2_firstLackedWord_X7 hS hi) rfl (by decide) rfl (Nat.le_of_ble_eq_true rfl) (pc := 36) dX2_tellMore_36 ?_
    refine wm_pN hC cn_X2_104 kc_X8_foundOr (s_X8_foundOr (by have hx := fwi_rng (lackF (kdF w p (bP B i / 8)) (msk w p (bP B i / 8)) (msk w q (bP B i % 8))); unfold lckB; split <;> omega)) rfl (by decide) rfl (Nat.le_of_ble_eq_true rfl) (pc := 39) dX2_tellMore_39 ?_
    refine wm_iretP hC (pc := 42) dX2_tellMore_42 ?_ rfl
    unfold tellF; rw [if_neg sw1_0, if_pos sw1_1]
  refine wm_lookup hC (off := 42) 43 (pc := 1) dX2_tellMore_1 (by decide) (by omega) (by simp [Op.lookupswitch.offset, sw1_0, Ne.symm sw1_0, sw1_1, Ne.symm sw1_1]) (by decide) ?_
  refine wm_aload_n hC 0 (pc := 43) dX2_tellMore_43 rfl rfl ?_
  refine wm_iload_n hC 1 (pc := 44) dX2_tellMore_44 rfl rfl ?_
  refine wm_iload_n hC 2 (pc := 45) dX2_tellMore_45 rfl rfl ?_
  refine wm_bipush hC (pc := 46) dX2_tellMore_46 (by decide) ?_
  refine wm_isub hC (pc := 48) dX2_tellMore_48 ?_
  refine wm_pU hC cu_X2_107_X7 kc_X2_wordOfRow rfl rfl (s_X2_wordOfRow_X7 hS hi (by omega)) rfl (by decide) rfl (Nat.le_of_ble_eq_true rfl) (pc := 49) dX2_tellMore_49 ?_
  refine wm_pN hC cn_X2_104 kc_X8_foundOr (s_X8_foundOr (by have hx := rowF_rng hB (k := c - 10) (by omega) hi; omega)) rfl (by decide) rfl (Nat.le_of_ble_eq_true rfl) (pc := 52) dX2_tellMore_52 ?_
  refine wm_iretP hC (pc := 55) dX2_tellMore_55 ?_ rfl
  unfold tellF; rw [if_neg sw1_0, if_neg sw1_1]
set_option maxRecDepth 100000 in
set_option maxHeartbeats 4000000 in
theorem s_X2_pairBehind_X7 {l : Launch} {G : mG} {w : mW} {p q : Nat} {B : Bf} (hS : PSt w 15 16 17 18 19 20 p q B) {i : Int} (hi : 0 ≤ i ∧ i < bN B) {k : Int} (hk : 0 ≤ k ∧ k < 6) : Mx l G 2 yX2_pairBehind cX2_pairBehind 7 (some .int) [mvR 15, mvI i, mvI k] w (qP (mvI (nxF togT w p q (bP B i) k)) w) := by
  refine Mx.intro (by decide) RX2 rfl [some (mvR 15), some (mvI i), some (mvI k), none, none, none, none] (Nat.le_of_ble_eq_true rfl) rfl (fun K hC => ?_)
  obtain ⟨hp, hq, hkp, hkq, h5, h6, hA, hB⟩ := id hS
  have hle := hB.le
  have hI := hB.2.2.1 i hi.1 hi.2
  have hIA := hA.2.1 i hi.1 hi.2
  have hk1 := kd_rng hkp (s := bP B i / 8) (by omega)
  have hk2 := kd_rng hkq (s := bP B i % 8) (by omega)
  have ht1 := tg_rng hkp (s := bP B i / 8) (k := k) (by omega) hk
  have ht2 := tg_rng hkq (s := bP B i % 8) (k := k) (by omega) hk
  refine wm_aload_n hC 0 (pc := 0) dX2_pairBehind_0 rfl rfl ?_
  refine wm_iload_n hC 1 (pc := 1) dX2_pairBehind_1 rfl rfl ?_
  refine wm_pU hC cu_X2_60_X7 kc_X2_stateOfOne rfl rfl (s_X2_stateOfOne_X7 hS hi) rfl (by decide) rfl (Nat.le_of_ble_eq_true rfl) (pc := 2) dX2_pairBehind_2 ?_
  refine wm_istore_n hC 3 (pc := 5) dX2_pairBehind_5 rfl (by decide) rfl ?_
  refine wm_aload_n hC 0 (pc := 6) dX2_pairBehind_6 rfl rfl ?_
  refine wm_iload_n hC 1 (pc := 7) dX2_pairBehind_7 rfl rfl ?_
  refine wm_pU hC cu_X2_63_X7 kc_X2_stateOfOther rfl rfl (s_X2_stateOfOther_X7 hS hi) rfl (by decide) rfl (Nat.le_of_ble_eq_true rfl) (pc := 8) dX2_pairBehind_8 ?_
  refine wm_istore hC  (pc := 11) dX2_pairBehind_11  (by decide) rfl ?_
  refine wm_aload_n hC 0 (pc := 13) dX2_pairBehind_13 rfl rfl ?_
  refine wm_getD hC 5 p fl_X2_27_6 rfl rfl rfl h5 (pc := 14) dX2_pairBehind_14 ?_
  refine wm_iload_n hC 3 (pc := 17) dX2_pairBehind_17 rfl rfl ?_
  refine wm_iload_n hC 2 (pc := 18) dX2_pairBehind_18 rfl rfl ?_
  refine wm_pV hC cv_X2_66 kc_X3_targetOf hp.1 rfl (s_X3_targetOf hp (by omega) (by omega)) rfl (by decide) rfl (Nat.le_of_ble_eq_true rfl) (pc := 19) dX2_pairBehind_19 ?_
  refine wm_istore hC  (pc := 22) dX2_pairBehind_22  (by decide) rfl ?_
  refine wm_aload_n hC 0 (pc := 24) dX2_pairBehind_24 rfl rfl ?_
  refine wm_getD hC 6 q fl_X2_31_6 rfl rfl rfl h6 (pc := 25) dX2_pairBehind_25 ?_
  refine wm_iload hC  (pc := 28) dX2_pairBehind_28 rfl ?_
  refine wm_iload_n hC 2 (pc := 30) dX2_pairBehind_30 rfl rfl ?_
  refine wm_pV hC cv_X2_66 kc_X3_targetOf hq.1 rfl (s_X3_targetOf hq (by omega) (by omega)) rfl (by decide) rfl (Nat.le_of_ble_eq_true rfl) (pc := 31) dX2_pairBehind_31 ?_
  refine wm_istore hC  (pc := 34) dX2_pairBehind_34  (by decide) rfl ?_
  refine wm_iload hC  (pc := 36) dX2_pairBehind_36 rfl ?_
  refine wm_iconst hC (pc := 38) dX2_pairBehind_38 ?_
  refine wm_icmp_eq hC 72 (pc := 39) dX2_pairBehind_39 (by decide) (by unfold tgF at ht1; omega) (by omega) (fun h39 => ?_) (fun h39 => ?_)
  · have e : nxF togT w p q (bP B i) k = -1 := if_pos (Or.inl h39)
    refine wm_iconst hC (pc := 72) dX2_pairBehind_72 ?_
    refine wm_iretP hC (pc := 73) dX2_pairBehind_73 ?_ rfl
    rw [e]
  · refine wm_iload hC  (pc := 42) dX2_pairBehind_42 rfl ?_
    refine wm_iconst hC (pc := 44) dX2_pairBehind_44 ?_
    refine wm_icmp_eq hC 72 (pc := 45) dX2_pairBehind_45 (by decide) (by unfold tgF at ht2; omega) (by omega) (fun h45 => ?_) (fun h45 => ?_)
    · have e : nxF togT w p q (bP B i) k = -1 := if_pos (Or.inr (Or.inl h45))
      refine wm_iconst hC (pc := 72) dX2_pairBehind_72 ?_
      refine wm_iretP hC (pc := 73) dX2_pairBehind_73 ?_ rfl
      rw [e]
    · refine wm_aload_n hC 0 (pc := 48) dX2_pairBehind_48 rfl rfl ?_
      refine wm_aload_n hC 0 (pc := 49) dX2_pairBehind_49 rfl rfl ?_
      refine wm_getD hC 5 p fl_X2_27_6 rfl rfl rfl h5 (pc := 50) dX2_pairBehind_50 ?_
      refine wm_iload_n hC 3 (pc := 53) dX2_pairBehind_53 rfl rfl ?_
      refine wm_pV hC cv_X2_71 kc_X3_kindOf hp.1 rfl (s_X3_kindOf hp (by omega)) rfl (by decide) rfl (Nat.le_of_ble_eq_true rfl) (pc := 54) dX2_pairBehind_54 ?_
      refine wm_aload_n hC 0 (pc := 57) dX2_pairBehind_57 rfl rfl ?_
      refine wm_getD hC 6 q fl_X2_31_6 rfl rfl rfl h6 (pc := 58) dX2_pairBehind_58 ?_
      refine wm_iload hC  (pc := 61) dX2_pairBehind_61 rfl ?_
      refine wm_pV hC cv_X2_71 kc_X3_kindOf hq.1 rfl (s_X3_kindOf hq (by omega)) rfl (by decide) rfl (Nat.le_of_ble_eq_true rfl) (pc := 63) dX2_pairBehind_63 ?_
      refine wm_pU hC cu_X2_74_X7 kc_X7_goTogether rfl rfl (s_X7_goTogether (by unfold kdF at hk1; omega) (by unfold kdF at hk2; omega)) rfl (by decide) rfl (Nat.le_of_ble_eq_true rfl) (pc := 66) dX2_pairBehind_66 ?_
      refine wm_ifb_ne hC 74 (pc := 69) dX2_pairBehind_69 (by decide) (fun h69 => ?_) (fun h69 => ?_)
      · have e : nxF togT w p q (bP B i) k = w (p + 1) (bP B i / 8 * 7 + 1 + k) * 8 + w (q + 1) (bP B i % 8 * 7 + 1 + k) := if_neg (fun hh => by
          rcases hh with hh | hh | hh
          · exact h39 hh
          · exact h45 hh
          · exact absurd (h69.symm.trans hh) (by decide))
        refine wm_iload hC  (pc := 74) dX2_pairBehind_74 rfl ?_
        refine wm_bipush hC (pc := 76) dX2_pairBehind_76 (by decide) ?_
        refine wm_imul hC (pc := 78) dX2_pairBehind_78 ?_
        refine wm_iload hC  (pc := 79) dX2_pairBehind_79 rfl ?_
        refine wm_iadd hC (pc := 81) dX2_pairBehind_81 ?_
        refine wm_iretP hC (pc := 82) dX2_pairBehind_82 ?_ rfl
        rw [e]
      · have e : nxF togT w p q (bP B i) k = -1 := if_pos (Or.inr (Or.inr h69))
        refine wm_iconst hC (pc := 72) dX2_pairBehind_72 ?_
        refine wm_iretP hC (pc := 73) dX2_pairBehind_73 ?_ rfl
        rw [e]
set_option maxRecDepth 100000 in
set_option maxHeartbeats 4000000 in
theorem s_X2_positionBehind_X7 {l : Launch} {G : mG} {w : mW} {p q : Nat} {B : Bf} (hS : PSt w 15 16 17 18 19 20 p q B) {i : Int} (hi : 0 ≤ i ∧ i < bN B) {k : Int} (hk : 0 ≤ k ∧ k < 6) : Mx l G 3 yX2_positionBehind cX2_positionBehind 3 (some .int) [mvR 15, mvI i, mvI k] w (qP (mvI (posF togT w p q B i k)) w) := by
  refine Mx.intro (by decide) RX2 rfl [some (mvR 15), some (mvI i), some (mvI k)] (Nat.le_of_ble_eq_true rfl) rfl (fun K hC => ?_)
  obtain ⟨hp, hq, hkp, hkq, h5, h6, hA, hB⟩ := id hS
  have hle := hB.le
  have hI := hB.2.2.1 i hi.1 hi.2
  have hIA := hA.2.1 i hi.1 hi.2
  have hx := nxF_ok (tog := togT) hkp hkq (bP B i) k (by omega) (by omega) hk.1 hk.2
  refine wm_aload_n hC 0 (pc := 0) dX2_positionBehind_0 rfl rfl ?_
  refine wm_getR hC fl_X2_15_6 rfl rfl (pc := 1) dX2_positionBehind_1 ?_
  refine wm_aload_n hC 0 (pc := 4) dX2_positionBehind_4 rfl rfl ?_
  refine wm_iload_n hC 1 (pc := 5) dX2_positionBehind_5 rfl rfl ?_
  refine wm_iload_n hC 2 (pc := 6) dX2_positionBehind_6 rfl rfl ?_
  refine wm_pU hC cu_X2_48_X7 kc_X2_pairBehind rfl rfl (s_X2_pairBehind_X7 hS hi hk) rfl (by decide) rfl (Nat.le_of_ble_eq_true rfl) (pc := 7) dX2_positionBehind_7 ?_
  refine wm_pN hC cn_X2_52 kc_X8_cellOf (s_X8_cellOf rfl (by decide) (by omega)) rfl (by decide) rfl (Nat.le_of_ble_eq_true rfl) (pc := 10) dX2_positionBehind_10 ?_
  refine wm_iretP hC (pc := 13) dX2_positionBehind_13 ?_ rfl
  unfold posF
  by_cases h : nxF togT w p q (bP B i) k = -1
  · rw [if_neg (by omega), if_pos h]
  · rw [if_pos (by omega), if_neg h]; exact hA.2.2 _ (by omega) (by omega)
set_option maxRecDepth 100000 in
set_option maxHeartbeats 4000000 in
theorem s_X2_add_X7 {l : Launch} {G : mG} {w : mW} {t ln og k : Int} (ht : 0 ≤ t ∧ t < 64) (hn : 0 ≤ w 15 7 ∧ w 15 7 < 64) : Mx l G 0 yX2_add cX2_add 5 none [mvR 15, mvI t, mvI ln, mvI og, mvI k] w (qV (fun w' => w' = addW w 15 16 17 18 19 20 t ln og k)) := by
  refine Mx.intro (by decide) RX2 rfl [some (mvR 15), some (mvI t), some (mvI ln), some (mvI og), some (mvI k)] (Nat.le_of_ble_eq_true rfl) rfl (fun K hC => ?_)
  refine wm_iload_n hC 1 (pc := 0) dX2_add_0 rfl rfl ?_
  refine wm_if_lt hC 80 (pc := 1) dX2_add_1 (by decide) (by omega) (fun h1 => ?_) (fun h1 => ?_)
  · omega
  · refine wm_iload_n hC 1 (pc := 4) dX2_add_4 rfl rfl ?_
    refine wm_bipush hC (pc := 5) dX2_add_5 (by decide) ?_
    refine wm_icmp_ge hC 80 (pc := 7) dX2_add_7 (by decide) (by omega) (by omega) (fun h7 => ?_) (fun h7 => ?_)
    · omega
    · refine wm_aload_n hC 0 (pc := 10) dX2_add_10 rfl rfl ?_
      refine wm_getI hC 15 7 fl_X2_40_6 rfl rfl rfl (pc := 11) dX2_add_11 ?_
      refine wm_bipush hC (pc := 14) dX2_add_14 (by decide) ?_
      refine wm_icmp_ge hC 80 (pc := 16) dX2_add_16 (by decide) (by omega) (by omega) (fun h16 => ?_) (fun h16 => ?_)
      · omega
      · refine wm_aload_n hC 0 (pc := 19) dX2_add_19 rfl rfl ?_
        refine wm_getR hC fl_X2_9_6 rfl rfl (pc := 20) dX2_add_20 ?_
        refine wm_aload_n hC 0 (pc := 23) dX2_add_23 rfl rfl ?_
        refine wm_getI hC 15 7 fl_X2_40_6 rfl rfl rfl (pc := 24) dX2_add_24 ?_
        refine wm_iload_n hC 1 (pc := 27) dX2_add_27 rfl rfl ?_
        refine wm_iastore hC rfl (by omega) (by decide) (pc := 28) dX2_add_28 ?_
        refine wm_aload_n hC 0 (pc := 29) dX2_add_29 rfl rfl ?_
        refine wm_getR hC fl_X2_18_6 rfl rfl (pc := 30) dX2_add_30 ?_
        refine wm_aload_n hC 0 (pc := 33) dX2_add_33 rfl rfl ?_
        refine wm_getI hC 15 7 fl_X2_40_6 rfl rfl rfl (pc := 34) dX2_add_34 ?_
        simp only [mup_ne (show (15 : Nat) ≠ 16 by decide), mup_ne (show (15 : Nat) ≠ 17 by decide), mup_ne (show (15 : Nat) ≠ 18 by decide), mup_ne (show (15 : Nat) ≠ 19 by decide), mup_ne (show (15 : Nat) ≠ 20 by decide)]
        refine wm_iload_n hC 2 (pc := 37) dX2_add_37 rfl rfl ?_
        refine wm_iastore hC rfl (by omega) (by decide) (pc := 38) dX2_add_38 ?_
        refine wm_aload_n hC 0 (pc := 39) dX2_add_39 rfl rfl ?_
        refine wm_getR hC fl_X2_21_6 rfl rfl (pc := 40) dX2_add_40 ?_
        refine wm_aload_n hC 0 (pc := 43) dX2_add_43 rfl rfl ?_
        refine wm_getI hC 15 7 fl_X2_40_6 rfl rfl rfl (pc := 44) dX2_add_44 ?_
        simp only [mup_ne (show (15 : Nat) ≠ 16 by decide), mup_ne (show (15 : Nat) ≠ 17 by decide), mup_ne (show (15 : Nat) ≠ 18 by decide), mup_ne (show (15 : Nat) ≠ 19 by decide), mup_ne (show (15 : Nat) ≠ 20 by decide)]
        refine wm_iload_n hC 3 (pc := 47) dX2_add_47 rfl rfl ?_
        refine wm_iastore hC rfl (by omega) (by decide) (pc := 48) dX2_add_48 ?_
        refine wm_aload_n hC 0 (pc := 49) dX2_add_49 rfl rfl ?_
        refine wm_getR hC fl_X2_24_6 rfl rfl (pc := 50) dX2_add_50 ?_
        refine wm_aload_n hC 0 (pc := 53) dX2_add_53 rfl rfl ?_
        refine wm_getI hC 15 7 fl_X2_40_6 rfl rfl rfl (pc := 54) dX2_add_54 ?_
        simp only [mup_ne (show (15 : Nat) ≠ 16 by decide), mup_ne (show (15 : Nat) ≠ 17 by decide), mup_ne (show (15 : Nat) ≠ 18 by decide), mup_ne (show (15 : Nat) ≠ 19 by decide), mup_ne (show (15 : Nat) ≠ 20 by decide)]
        refine wm_iload hC  (pc := 57) dX2_add_57 rfl ?_
        refine wm_iastore hC rfl (by omega) (by decide) (pc := 59) dX2_add_59 ?_
        refine wm_aload_n hC 0 (pc := 60) dX2_add_60 rfl rfl ?_
        refine wm_getR hC fl_X2_15_6 rfl rfl (pc := 61) dX2_add_61 ?_
        refine wm_iload_n hC 1 (pc := 64) dX2_add_64 rfl rfl ?_
        refine wm_aload_n hC 0 (pc := 65) dX2_add_65 rfl rfl ?_
        refine wm_getI hC 15 7 fl_X2_40_6 rfl rfl rfl (pc := 66) dX2_add_66 ?_
        simp only [mup_ne (show (15 : Nat) ≠ 16 by decide), mup_ne (show (15 : Nat) ≠ 17 by decide), mup_ne (show (15 : Nat) ≠ 18 by decide), mup_ne (show (15 : Nat) ≠ 19 by decide), mup_ne (show (15 : Nat) ≠ 20 by decide)]
        refine wm_iastore hC rfl (by omega) (by decide) (pc := 69) dX2_add_69 ?_
        refine wm_aload_n hC 0 (pc := 70) dX2_add_70 rfl rfl ?_
        refine wm_dup hC (pc := 71) dX2_add_71 rfl ?_
        refine wm_getI hC 15 7 fl_X2_40_6 rfl rfl rfl (pc := 72) dX2_add_72 ?_
        simp only [mup_ne (show (15 : Nat) ≠ 16 by decide), mup_ne (show (15 : Nat) ≠ 17 by decide), mup_ne (show (15 : Nat) ≠ 18 by decide), mup_ne (show (15 : Nat) ≠ 19 by decide), mup_ne (show (15 : Nat) ≠ 20 by decide)]
        refine wm_iconst hC (pc := 75) dX2_add_75 ?_
        refine wm_iadd hC (pc := 76) dX2_add_76 ?_
        refine wm_putI hC 15 7 fp_X2_40_6 rfl rfl rfl (pc := 77) dX2_add_77 ?_
        refine wm_retV hC (pc := 80) dX2_add_80 ?_
        rfl
theorem walk0_15 (w : mW) (p q : Nat) : walkI w (addW (mup (mfill (mup (mup w 15 5 (p : Int)) 15 6 (q : Int)) 17 64 (-1)) 15 7 0) 15 16 17 18 19 20 0 0 (-1) (-1)) 15 16 17 18 19 20 p q b0 := by
  refine ⟨fun a ha => ?_, by simp [addW, mup, mfill], by simp [addW, mup, mfill], ?_⟩
  · unfold addW
    rw [mup_ne (by omega), mup_ne (by omega), mup_ne (by omega), mup_ne (by omega), mup_ne (by omega), mup_ne (by omega), mup_ne (by omega), mfill_ne (by omega), mup_ne (by omega), mup_ne (by omega)]
  · refine agr_add (B := (0, fun _ => 0, fun _ => -1, fun _ => 0, fun _ => 0, fun _ => 0)) (u := mup (mfill (mup (mup w 15 5 (p : Int)) 15 6 (q : Int)) 17 64 (-1)) 15 7 0) ⟨by simp [mup], fun i h1 h2 => ?_, fun t h1 h2 => ?_⟩ (by simp [addW, mup]) (fun i => by simp [addW, mup]) (fun i => by simp [addW, mup]) (fun i => by simp [addW, mup]) (fun i => by simp [addW, mup]) (fun i => by simp [addW, mup])
    · have h2' : i < (0 : Nat) := h2
      omega
    · show mup (mfill (mup (mup w 15 5 (p : Int)) 15 6 (q : Int)) 17 64 (-1)) 15 7 0 17 t = -1
      rw [mup_ne (by decide)]; unfold mfill; rw [if_pos (by omega)]
set_option maxRecDepth 100000 in
set_option maxHeartbeats 4000000 in
theorem s_X2_walk_X7 {l : Launch} {G : mG} {w : mW} {p q : Nat} (hp : PlanIx p) (hq : PlanIx q) (hpb : p + 1 < 15) (hqb : q + 1 < 15) (hkp : PlanOK w p) (hkq : PlanOK w q) : Mx l G 3 yX2_walk cX2_walk 6 none [mvR 15, mvR p, mvR q] w (qV (fun w' => walkI w w' 15 16 17 18 19 20 p q (bfs (nxF togT w p q)))) := by
  refine Mx.intro (by decide) RX2 rfl [some (mvR 15), some (mvR p), some (mvR q), none, none, none] (Nat.le_of_ble_eq_true rfl) rfl (fun K hC => ?_)
  have hnx : NxOK (nxF togT w p q) := nxF_ok hkp hkq
  refine wm_aload_n hC 0 (pc := 0) dX2_walk_0 rfl rfl ?_
  refine wm_aload_n hC 1 (pc := 1) dX2_walk_1 rfl rfl ?_
  refine wm_putD hC 15 5 fp_X2_27_6 rfl rfl rfl (pc := 2) dX2_walk_2 ?_
  refine wm_aload_n hC 0 (pc := 5) dX2_walk_5 rfl rfl ?_
  refine wm_aload_n hC 2 (pc := 6) dX2_walk_6 rfl rfl ?_
  refine wm_putD hC 15 6 fp_X2_31_6 rfl rfl rfl (pc := 7) dX2_walk_7 ?_
  refine wm_aload_n hC 0 (pc := 10) dX2_walk_10 rfl rfl ?_
  refine wm_getR hC fl_X2_15_6 rfl rfl (pc := 11) dX2_walk_11 ?_
  refine wm_iconst hC (pc := 14) dX2_walk_14 ?_
  refine wm_vS hC cs_X2_34 kc_J7_fill_53178 (s_J7_fill_53178 rfl (by decide)) rfl (by decide) rfl (Nat.le_of_ble_eq_true rfl) (pc := 15) dX2_walk_15 (fun w15 hw15 => ?_)
  subst hw15
  refine wm_aload_n hC 0 (pc := 18) dX2_walk_18 rfl rfl ?_
  refine wm_iconst hC (pc := 19) dX2_walk_19 ?_
  refine wm_putI hC 15 7 fp_X2_40_6 rfl rfl rfl (pc := 20) dX2_walk_20 ?_
  refine wm_aload_n hC 0 (pc := 23) dX2_walk_23 rfl rfl ?_
  refine wm_iconst hC (pc := 24) dX2_walk_24 ?_
  refine wm_iconst hC (pc := 25) dX2_walk_25 ?_
  refine wm_iconst hC (pc := 26) dX2_walk_26 ?_
  refine wm_iconst hC (pc := 27) dX2_walk_27 ?_
  refine wm_vU hC cu_X2_44_X7 kc_X2_add rfl rfl (s_X2_add_X7 (by omega) (by rw [mup_at]; decide)) rfl (by decide) rfl (Nat.le_of_ble_eq_true rfl) (pc := 28) dX2_walk_28 (fun w28 hw28 => ?_)
  subst hw28
  refine wm_iconst hC (pc := 31) dX2_walk_31 ?_
  refine wm_istore_n hC 3 (pc := 32) dX2_walk_32 rfl (by decide) rfl ?_
  have lp33 : ∀ (n : Nat) (at_ : Nat) (u : mW) (o4 o5 : Option mV), n = 64 - at_ → at_ ≤ 64 → walkI w u 15 16 17 18 19 20 p q (bfsN (nxF togT w p q) at_) → Wm l G K 3 6 (qV (fun w' => walkI w w' 15 16 17 18 19 20 p q (bfs (nxF togT w p q)))) 33 [some (mvR 15), some (mvR p), some (mvR q), some (mvI (at_ : Int)), o4, o5] [] u := by
    intro n
    induction n using Nat.strongRecOn with
    | _ n ih =>
    intro at_ u o4 o5 hn hat hW
    obtain ⟨hKu, h5u, h6u, hA⟩ := id hW
    have hB := bfsN_inv hnx at_
    have hle := hB.le
    refine wm_iload_n hC 3 (pc := 33) dX2_walk_33 rfl rfl ?_
    refine wm_aload_n hC 0 (pc := 34) dX2_walk_34 rfl rfl ?_
    refine wm_getI hC 15 7 fl_X2_40_6 rfl rfl rfl (pc := 35) dX2_walk_35 ?_
    refine wm_icmp_ge hC 113 (pc := 38) dX2_walk_38 (by decide) (by omega) (by rw [hA.1]; omega) (fun h38 => ?_) (fun h38 => ?_)
    · rw [hA.1] at h38
      refine wm_retV hC (pc := 113) dX2_walk_113 ?_
      have e : bfs (nxF togT w p q) = bfsN (nxF togT w p q) at_ := bfsN_stop (by omega) 64 hat
      rw [e]; exact hW
    · rw [hA.1] at h38
      refine wm_iload_n hC 3 (pc := 41) dX2_walk_41 rfl rfl ?_
      refine wm_bipush hC (pc := 42) dX2_walk_42 (by decide) ?_
      refine wm_icmp_ge hC 113 (pc := 44) dX2_walk_44 (by decide) (by omega) (by omega) (fun h44 => ?_) (fun h44 => ?_)
      · refine wm_retV hC (pc := 113) dX2_walk_113 ?_
        have e : bfs (nxF togT w p q) = bfsN (nxF togT w p q) at_ := bfsN_stop (by omega) 64 hat
        rw [e]; exact hW
      · refine wm_iconst hC (pc := 47) dX2_walk_47 ?_
        refine wm_istore hC  (pc := 48) dX2_walk_48  (by decide) rfl ?_
        have lp50 : ∀ (n : Nat) (k : Nat) (u2 : mW) (o6 : Option mV) (ho : mok [none, none, none, none, none, o6] 5 = true ∧ mok [none, none, none, none, some (mvI 0), o6] 5 = true), n = 6 - k → k ≤ 6 → walkI w u2 15 16 17 18 19 20 p q (inn (nxF togT w p q) (bfsN (nxF togT w p q) at_) at_ k) → Wm l G K 3 6 (qV (fun w' => walkI w w' 15 16 17 18 19 20 p q (bfs (nxF togT w p q)))) 50 [some (mvR 15), some (mvR p), some (mvR q), some (mvI (at_ : Int)), some (mvI (k : Int)), o6] [] u2 := by
          intro n
          induction n using Nat.strongRecOn with
          | _ n ih =>
          intro k u2 o6 ho hm hk6 hW2
          rename_i n0 ih0
          have hB2 : BInv (inn (nxF togT w p q) (bfsN (nxF togT w p q) at_) at_ k) ∧ bN (bfsN (nxF togT w p q) at_) ≤ bN (inn (nxF togT w p q) (bfsN (nxF togT w p q) at_) at_ k) := inn_inv hnx hB (by omega) k hk6
          obtain ⟨hB2, hgrow⟩ := hB2
          have hle2 := hB2.le
          refine wm_iload hC  (pc := 50) dX2_walk_50 rfl ?_
          refine wm_bipush hC (pc := 52) dX2_walk_52 (by decide) ?_
          refine wm_icmp_ge hC 107 (pc := 54) dX2_walk_54 (by decide) (by omega) (by omega) (fun h54 => ?_) (fun h54 => ?_)
          · refine wm_iinc hC (pc := 107) dX2_walk_107 rfl rfl (by decide) rfl ?_
            refine wm_goto hC 33 (pc := 110) dX2_walk_110 (by decide) ?_
            obtain rfl : k = 6 := by omega
            have e : bfsN (nxF togT w p q) (at_ + 1) = inn (nxF togT w p q) (bfsN (nxF togT w p q) at_) at_ 6 := if_pos (by omega)
            exact ih0 _ (by omega) (at_ + 1) u2 _ _ rfl (by omega) (by rw [e]; exact hW2)
          · refine wm_aload_n hC 0 (pc := 57) dX2_walk_57 rfl rfl ?_
            refine wm_iload_n hC 3 (pc := 58) dX2_walk_58 rfl rfl ?_
            refine wm_iload hC  (pc := 59) dX2_walk_59 rfl ?_
            obtain ⟨hK2, h52, h62, hA2⟩ := id hW2
            have hPS : PSt u2 15 16 17 18 19 20 p q (inn (nxF togT w p q) (bfsN (nxF togT w p q) at_) at_ k) := ⟨hp, hq, hkp.congr (hK2 _ (Or.inl (by omega))), hkq.congr (hK2 _ (Or.inl (by omega))), h52, h62, hA2, hB2⟩
            refine wm_pU hC cu_X2_48_X7 kc_X2_pairBehind rfl rfl (s_X2_pairBehind_X7 hPS ⟨by omega, by omega⟩ ⟨by omega, by omega⟩) rfl (by decide) rfl (Nat.le_of_ble_eq_true rfl) (pc := 61) dX2_walk_61 ?_
            rw [nxF_congr (hK2 _ (Or.inl (by omega))) (hK2 _ (Or.inl (by omega)))]
            have hr := hnx (bP (inn (nxF togT w p q) (bfsN (nxF togT w p q) at_) at_ k) at_) k (hB2.2.2.1 at_ (by omega) (by omega)).1.1 (hB2.2.2.1 at_ (by omega) (by omega)).1.2 (by omega) (by omega)
            refine wm_istore hC  (pc := 64) dX2_walk_64  (by decide) rfl ?_
            refine wm_iload hC  (pc := 66) dX2_walk_66 rfl ?_
            refine wm_iconst hC (pc := 68) dX2_walk_68 ?_
            refine wm_icmp_eq hC 101 (pc := 69) dX2_walk_69 (by decide) (by omega) (by omega) (fun h69 => ?_) (fun h69 => ?_)
            · have hW3 : walkI w u2 15 16 17 18 19 20 p q (inn (nxF togT w p q) (bfsN (nxF togT w p q) at_) at_ (k + 1)) := by
                have e : inn (nxF togT w p q) (bfsN (nxF togT w p q) at_) at_ (k + 1) = (inn (nxF togT w p q) (bfsN (nxF togT w p q) at_) at_ k) := if_pos (Or.inl h69)
                rw [e]; exact hW2
              refine wm_iinc hC (pc := 101) dX2_walk_101 rfl rfl (by decide) rfl ?_
              refine wm_goto hC 50 (pc := 104) dX2_walk_104 (by decide) ?_
              exact ih _ (by omega) (k + 1) _ _ ⟨rfl, rfl⟩ rfl (by omega) hW3
            · refine wm_aload_n hC 0 (pc := 72) dX2_walk_72 rfl rfl ?_
              refine wm_getR hC fl_X2_15_6 rfl rfl (pc := 73) dX2_walk_73 ?_
              refine wm_iload hC  (pc := 76) dX2_walk_76 rfl ?_
              refine wm_pN hC cn_X2_52 kc_X8_cellOf (s_X8_cellOf rfl (by decide) (by omega)) rfl (by decide) rfl (Nat.le_of_ble_eq_true rfl) (pc := 78) dX2_walk_78 ?_
              refine wm_iconst hC (pc := 81) dX2_walk_81 ?_
              refine wm_icmp_ne hC 101 (pc := 82) dX2_walk_82 (by decide) (by rw [if_pos (show 0 ≤ (nxF togT w p q) (bP (inn (nxF togT w p q) (bfsN (nxF togT w p q) at_) at_ k) at_) k ∧ (nxF togT w p q) (bP (inn (nxF togT w p q) (bfsN (nxF togT w p q) at_) at_ k) at_) k < ((64 : Nat) : Int) by omega), hA2.2.2 _ (by omega) (by omega)]; have := hB2.2.2.2.1 ((nxF togT w p q) (bP (inn (nxF togT w p q) (bfsN (nxF togT w p q) at_) at_ k) at_) k) (by omega) (by omega); omega) (by omega) (fun h82 => ?_) (fun h82 => ?_)
              · rw [if_pos (by omega), hA2.2.2 _ (by omega) (by omega)] at h82
                have hW3 : walkI w u2 15 16 17 18 19 20 p q (inn (nxF togT w p q) (bfsN (nxF togT w p q) at_) at_ (k + 1)) := by
                  have e : inn (nxF togT w p q) (bfsN (nxF togT w p q) at_) at_ (k + 1) = (inn (nxF togT w p q) (bfsN (nxF togT w p q) at_) at_ k) := if_pos (Or.inr h82)
                  rw [e]; exact hW2
                refine wm_iinc hC (pc := 101) dX2_walk_101 rfl rfl (by decide) rfl ?_
                refine wm_goto hC 50 (pc := 104) dX2_walk_104 (by decide) ?_
                exact ih _ (by omega) (k + 1) _ _ ⟨rfl, rfl⟩ rfl (by omega) hW3
              · rw [if_pos (by omega), hA2.2.2 _ (by omega) (by omega)] at h82
                have hlt := hB2.lt (t := (nxF togT w p q) (bP (inn (nxF togT w p q) (bfsN (nxF togT w p q) at_) at_ k) at_) k) (by omega) (by omega) h82
                have hn7 := hA2.1
                refine wm_aload_n hC 0 (pc := 85) dX2_walk_85 rfl rfl ?_
                refine wm_iload hC  (pc := 86) dX2_walk_86 rfl ?_
                refine wm_aload_n hC 0 (pc := 88) dX2_walk_88 rfl rfl ?_
                refine wm_iload_n hC 3 (pc := 89) dX2_walk_89 rfl rfl ?_
                refine wm_pU hC cu_X2_56_X7 kc_X2_lengthOf rfl rfl (s_X2_lengthOf_X7 hPS ⟨by omega, by omega⟩) rfl (by decide) rfl (Nat.le_of_ble_eq_true rfl) (pc := 90) dX2_walk_90 ?_
                refine wm_iconst hC (pc := 93) dX2_walk_93 ?_
                refine wm_iadd hC (pc := 94) dX2_walk_94 ?_
                refine wm_iload_n hC 3 (pc := 95) dX2_walk_95 rfl rfl ?_
                refine wm_iload hC  (pc := 96) dX2_walk_96 rfl ?_
                refine wm_vU hC cu_X2_44_X7 kc_X2_add rfl rfl (s_X2_add_X7 (by omega) (by omega)) rfl (by decide) rfl (Nat.le_of_ble_eq_true rfl) (pc := 98) dX2_walk_98 (fun w98 hw98 => ?_)
                subst hw98
                have e : inn (nxF togT w p q) (bfsN (nxF togT w p q) at_) at_ (k + 1) = addB (inn (nxF togT w p q) (bfsN (nxF togT w p q) at_) at_ k) ((nxF togT w p q) (bP (inn (nxF togT w p q) (bfsN (nxF togT w p q) at_) at_ k) at_) k) (bL (inn (nxF togT w p q) (bfsN (nxF togT w p q) at_) at_ k) at_ + 1) at_ k := if_neg (fun hh => by
                  rcases hh with hh | hh
                  · exact h69 hh
                  · exact hh h82)
                have hW3 : walkI w (addW u2 15 16 17 18 19 20 ((nxF togT w p q) (bP (inn (nxF togT w p q) (bfsN (nxF togT w p q) at_) at_ k) at_) k) (bL (inn (nxF togT w p q) (bfsN (nxF togT w p q) at_) at_ k) at_ + 1) at_ k) 15 16 17 18 19 20 p q (inn (nxF togT w p q) (bfsN (nxF togT w p q) at_) at_ (k + 1)) := by
                  rw [e]
                  refine ⟨fun a ha => ?_, by simp [addW, mup, h52], by simp [addW, mup, h62], agr_add hA2 (by simp [addW, mup]) (fun i => by simp [addW, mup]) (fun i => by simp [addW, mup]) (fun i => by simp [addW, mup]) (fun i => by simp [addW, mup]) (fun i => by simp [addW, mup])⟩
                  unfold addW
                  rw [mup_ne (by omega), mup_ne (by omega), mup_ne (by omega), mup_ne (by omega), mup_ne (by omega), mup_ne (by omega)]
                  exact hK2 a ha
                refine wm_iinc hC (pc := 101) dX2_walk_101 rfl rfl (by decide) rfl ?_
                refine wm_goto hC 50 (pc := 104) dX2_walk_104 (by decide) ?_
                exact ih _ (by omega) (k + 1) _ _ ⟨rfl, rfl⟩ rfl (by omega) hW3
        exact lp50 _ 0 u _ ⟨rfl, rfl⟩ rfl (by omega) hW
  exact lp33 _ 0 _ none none rfl (by omega) (walk0_15 w p q)
/-! the pair object at 25 -/
set_option maxRecDepth 100000 in
set_option maxHeartbeats 4000000 in
theorem s_X2_size_X6 {l : Launch} {G : mG} {w : mW} {p q : Nat} {B : Bf} (hS : PSt w 25 26 27 28 29 30 p q B) : Mx l G 0 yX2_size cX2_size 1 (some .int) [mvR 25] w (qP (mvI (bN B : Int)) w) := by
  refine Mx.intro (by decide) RX2 rfl [some (mvR 25)] (Nat.le_of_ble_eq_true rfl) rfl (fun K hC => ?_)
  obtain ⟨hp, hq, hkp, hkq, h5, h6, hA, hB⟩ := id hS
  have hle := hB.le
  refine wm_aload_n hC 0 (pc := 0) dX2_size_0 rfl rfl ?_
  refine wm_getI hC 25 7 fl_X2_40_5 rfl rfl rfl (pc := 1) dX2_size_1 ?_
  refine wm_iretP hC (pc := 4) dX2_size_4 ?_ rfl
  exact hA.1
set_option maxRecDepth 100000 in
set_option maxHeartbeats 4000000 in
theorem s_X2_has_X6 {l : Launch} {G : mG} {w : mW} {p q : Nat} {B : Bf} (hS : PSt w 25 26 27 28 29 30 p q B) {i : Int} (hi : -2147483648 ≤ i ∧ i < 2147483648) : Mx l G 0 yX2_has cX2_has 2 (some .boolean) [mvR 25, mvI i] w (qP (mvI (mb (decide (0 ≤ i ∧ i < (bN B : Int))))) w) := by
  refine Mx.intro (by decide) RX2 rfl [some (mvR 25), some (mvI i)] (Nat.le_of_ble_eq_true rfl) rfl (fun K hC => ?_)
  obtain ⟨hp, hq, hkp, hkq, h5, h6, hA, hB⟩ := id hS
  have hle := hB.le
  refine wm_iload_n hC 1 (pc := 0) dX2_has_0 rfl rfl ?_
  refine wm_if_lt hC 16 (pc := 1) dX2_has_1 (by decide) (by omega) (fun h1 => ?_) (fun h1 => ?_)
  · refine wm_iconst hC (pc := 16) dX2_has_16 ?_
    refine wm_zretP hC (pc := 17) dX2_has_17 ?_ rfl
    first | exact ((mb_0 _).mpr (decide_eq_false (by omega))).symm | exact ((mb_1 _).mpr (decide_eq_true (by omega))).symm
  · refine wm_iload_n hC 1 (pc := 4) dX2_has_4 rfl rfl ?_
    refine wm_aload_n hC 0 (pc := 5) dX2_has_5 rfl rfl ?_
    refine wm_getI hC 25 7 fl_X2_40_5 rfl rfl rfl (pc := 6) dX2_has_6 ?_
    rw [hA.1]
    refine wm_icmp_ge hC 16 (pc := 9) dX2_has_9 (by decide) (by omega) (by omega) (fun h9 => ?_) (fun h9 => ?_)
    · refine wm_iconst hC (pc := 16) dX2_has_16 ?_
      refine wm_zretP hC (pc := 17) dX2_has_17 ?_ rfl
      first | exact ((mb_0 _).mpr (decide_eq_false (by omega))).symm | exact ((mb_1 _).mpr (decide_eq_true (by omega))).symm
    · refine wm_iconst hC (pc := 12) dX2_has_12 ?_
      refine wm_goto hC 17 (pc := 13) dX2_has_13 (by decide) ?_
      refine wm_zretP hC (pc := 17) dX2_has_17 ?_ rfl
      first | exact ((mb_0 _).mpr (decide_eq_false (by omega))).symm | exact ((mb_1 _).mpr (decide_eq_true (by omega))).symm
set_option maxRecDepth 100000 in
set_option maxHeartbeats 4000000 in
theorem s_X2_stateOfOne_X6 {l : Launch} {G : mG} {w : mW} {p q : Nat} {B : Bf} (hS : PSt w 25 26 27 28 29 30 p q B) {i : Int} (hi : 0 ≤ i ∧ i < bN B) : Mx l G 1 yX2_stateOfOne cX2_stateOfOne 2 (some .int) [mvR 25, mvI i] w (qP (mvI (bP B i / 8)) w) := by
  refine Mx.intro (by decide) RX2 rfl [some (mvR 25), some (mvI i)] (Nat.le_of_ble_eq_true rfl) rfl (fun K hC => ?_)
  obtain ⟨hp, hq, hkp, hkq, h5, h6, hA, hB⟩ := id hS
  have hle := hB.le
  have hI := hB.2.2.1 i hi.1 hi.2
  have hIA := hA.2.1 i hi.1 hi.2
  refine wm_aload_n hC 0 (pc := 0) dX2_stateOfOne_0 rfl rfl ?_
  refine wm_getR hC fl_X2_9_5 rfl rfl (pc := 1) dX2_stateOfOne_1 ?_
  refine wm_iload_n hC 1 (pc := 4) dX2_stateOfOne_4 rfl rfl ?_
  refine wm_pN hC cn_X2_52 kc_X8_cellOf (s_X8_cellOf rfl (by decide) (by omega)) rfl (by decide) rfl (Nat.le_of_ble_eq_true rfl) (pc := 5) dX2_stateOfOne_5 ?_
  rw [if_pos (show 0 ≤ i ∧ i < ((64 : Nat) : Int) by omega)]
  rw [hIA.1]
  refine wm_bipush hC (pc := 8) dX2_stateOfOne_8 (by decide) ?_
  refine wm_idiv hC (pc := 10) dX2_stateOfOne_10 (by omega) (by omega) ?_
  refine wm_iretP hC (pc := 11) dX2_stateOfOne_11 ?_ rfl
  rfl
set_option maxRecDepth 100000 in
set_option maxHeartbeats 4000000 in
theorem s_X2_stateOfOther_X6 {l : Launch} {G : mG} {w : mW} {p q : Nat} {B : Bf} (hS : PSt w 25 26 27 28 29 30 p q B) {i : Int} (hi : 0 ≤ i ∧ i < bN B) : Mx l G 1 yX2_stateOfOther cX2_stateOfOther 2 (some .int) [mvR 25, mvI i] w (qP (mvI (bP B i % 8)) w) := by
  refine Mx.intro (by decide) RX2 rfl [some (mvR 25), some (mvI i)] (Nat.le_of_ble_eq_true rfl) rfl (fun K hC => ?_)
  obtain ⟨hp, hq, hkp, hkq, h5, h6, hA, hB⟩ := id hS
  have hle := hB.le
  have hI := hB.2.2.1 i hi.1 hi.2
  have hIA := hA.2.1 i hi.1 hi.2
  refine wm_aload_n hC 0 (pc := 0) dX2_stateOfOther_0 rfl rfl ?_
  refine wm_getR hC fl_X2_9_5 rfl rfl (pc := 1) dX2_stateOfOther_1 ?_
  refine wm_iload_n hC 1 (pc := 4) dX2_stateOfOther_4 rfl rfl ?_
  refine wm_pN hC cn_X2_52 kc_X8_cellOf (s_X8_cellOf rfl (by decide) (by omega)) rfl (by decide) rfl (Nat.le_of_ble_eq_true rfl) (pc := 5) dX2_stateOfOther_5 ?_
  rw [if_pos (show 0 ≤ i ∧ i < ((64 : Nat) : Int) by omega)]
  rw [hIA.1]
  refine wm_bipush hC (pc := 8) dX2_stateOfOther_8 (by decide) ?_
  refine wm_irem hC (pc := 10) dX2_stateOfOther_10 (by omega) (by omega) ?_
  refine wm_iretP hC (pc := 11) dX2_stateOfOther_11 ?_ rfl
  rfl
set_option maxRecDepth 100000 in
set_option maxHeartbeats 4000000 in
theorem s_X2_lengthOf_X6 {l : Launch} {G : mG} {w : mW} {p q : Nat} {B : Bf} (hS : PSt w 25 26 27 28 29 30 p q B) {i : Int} (hi : 0 ≤ i ∧ i < bN B) : Mx l G 1 yX2_lengthOf cX2_lengthOf 2 (some .int) [mvR 25, mvI i] w (qP (mvI (bL B i)) w) := by
  refine Mx.intro (by decide) RX2 rfl [some (mvR 25), some (mvI i)] (Nat.le_of_ble_eq_true rfl) rfl (fun K hC => ?_)
  obtain ⟨hp, hq, hkp, hkq, h5, h6, hA, hB⟩ := id hS
  have hle := hB.le
  have hI := hB.2.2.1 i hi.1 hi.2
  have hIA := hA.2.1 i hi.1 hi.2
  refine wm_aload_n hC 0 (pc := 0) dX2_lengthOf_0 rfl rfl ?_
  refine wm_getR hC fl_X2_18_5 rfl rfl (pc := 1) dX2_lengthOf_1 ?_
  refine wm_iload_n hC 1 (pc := 4) dX2_lengthOf_4 rfl rfl ?_
  refine wm_pN hC cn_X2_52 kc_X8_cellOf (s_X8_cellOf rfl (by decide) (by omega)) rfl (by decide) rfl (Nat.le_of_ble_eq_true rfl) (pc := 5) dX2_lengthOf_5 ?_
  refine wm_iretP hC (pc := 8) dX2_lengthOf_8 ?_ rfl
  rw [if_pos (show 0 ≤ i ∧ i < ((64 : Nat) : Int) by omega)]
  exact hIA.2.1
set_option maxRecDepth 100000 in
set_option maxHeartbeats 4000000 in
theorem s_X2_kindOfOne_X6 {l : Launch} {G : mG} {w : mW} {p q : Nat} {B : Bf} (hS : PSt w 25 26 27 28 29 30 p q B) {i : Int} (hi : 0 ≤ i ∧ i < bN B) : Mx l G 2 yX2_kindOfOne cX2_kindOfOne 2 (some .int) [mvR 25, mvI i] w (qP (mvI (kdF w p (bP B i / 8))) w) := by
  refine Mx.intro (by decide) RX2 rfl [some (mvR 25), some (mvI i)] (Nat.le_of_ble_eq_true rfl) rfl (fun K hC => ?_)
  obtain ⟨hp, hq, hkp, hkq, h5, h6, hA, hB⟩ := id hS
  have hle := hB.le
  have hI := hB.2.2.1 i hi.1 hi.2
  have hIA := hA.2.1 i hi.1 hi.2
  refine wm_aload_n hC 0 (pc := 0) dX2_kindOfOne_0 rfl rfl ?_
  refine wm_getD hC 5 p fl_X2_27_5 rfl rfl rfl h5 (pc := 1) dX2_kindOfOne_1 ?_
  refine wm_aload_n hC 0 (pc := 4) dX2_kindOfOne_4 rfl rfl ?_
  refine wm_iload_n hC 1 (pc := 5) dX2_kindOfOne_5 rfl rfl ?_
  refine wm_pU hC cu_X2_60_X6 kc_X2_stateOfOne rfl rfl (s_X2_stateOfOne_X6 hS hi) rfl (by decide) rfl (Nat.le_of_ble_eq_true rfl) (pc := 6) dX2_kindOfOne_6 ?_
  refine wm_pV hC cv_X2_71 kc_X3_kindOf hp.1 rfl (s_X3_kindOf hp (by omega)) rfl (by decide) rfl (Nat.le_of_ble_eq_true rfl) (pc := 9) dX2_kindOfOne_9 ?_
  refine wm_iretP hC (pc := 12) dX2_kindOfOne_12 ?_ rfl
  rfl
set_option maxRecDepth 100000 in
set_option maxHeartbeats 4000000 in
theorem s_X2_kindOfOther_X6 {l : Launch} {G : mG} {w : mW} {p q : Nat} {B : Bf} (hS : PSt w 25 26 27 28 29 30 p q B) {i : Int} (hi : 0 ≤ i ∧ i < bN B) : Mx l G 2 yX2_kindOfOther cX2_kindOfOther 2 (some .int) [mvR 25, mvI i] w (qP (mvI (kdF w q (bP B i % 8))) w) := by
  refine Mx.intro (by decide) RX2 rfl [some (mvR 25), some (mvI i)] (Nat.le_of_ble_eq_true rfl) rfl (fun K hC => ?_)
  obtain ⟨hp, hq, hkp, hkq, h5, h6, hA, hB⟩ := id hS
  have hle := hB.le
  have hI := hB.2.2.1 i hi.1 hi.2
  have hIA := hA.2.1 i hi.1 hi.2
  refine wm_aload_n hC 0 (pc := 0) dX2_kindOfOther_0 rfl rfl ?_
  refine wm_getD hC 6 q fl_X2_31_5 rfl rfl rfl h6 (pc := 1) dX2_kindOfOther_1 ?_
  refine wm_aload_n hC 0 (pc := 4) dX2_kindOfOther_4 rfl rfl ?_
  refine wm_iload_n hC 1 (pc := 5) dX2_kindOfOther_5 rfl rfl ?_
  refine wm_pU hC cu_X2_63_X6 kc_X2_stateOfOther rfl rfl (s_X2_stateOfOther_X6 hS hi) rfl (by decide) rfl (Nat.le_of_ble_eq_true rfl) (pc := 6) dX2_kindOfOther_6 ?_
  refine wm_pV hC cv_X2_71 kc_X3_kindOf hq.1 rfl (s_X3_kindOf hq (by omega)) rfl (by decide) rfl (Nat.le_of_ble_eq_true rfl) (pc := 9) dX2_kindOfOther_9 ?_
  refine wm_iretP hC (pc := 12) dX2_kindOfOther_12 ?_ rfl
  rfl
set_option maxRecDepth 100000 in
set_option maxHeartbeats 4000000 in
theorem s_X2_reasonOf_X6 {l : Launch} {G : mG} {w : mW} {p q : Nat} {B : Bf} (hS : PSt w 25 26 27 28 29 30 p q B) {i : Int} (hi : 0 ≤ i ∧ i < bN B) : Mx l G 3 yX2_reasonOf cX2_reasonOf 4 (some .int) [mvR 25, mvI i] w (qP (mvI (rsnB rsnS w p q B i)) w) := by
  refine Mx.intro (by decide) RX2 rfl [some (mvR 25), some (mvI i), none, none] (Nat.le_of_ble_eq_true rfl) rfl (fun K hC => ?_)
  obtain ⟨hp, hq, hkp, hkq, h5, h6, hA, hB⟩ := id hS
  have hle := hB.le
  have hI := hB.2.2.1 i hi.1 hi.2
  have hIA := hA.2.1 i hi.1 hi.2
  have hk1 := kd_rng hkp (s := bP B i / 8) (by omega)
  have hk2 := kd_rng hkq (s := bP B i % 8) (by omega)
  refine wm_aload_n hC 0 (pc := 0) dX2_reasonOf_0 rfl rfl ?_
  refine wm_iload_n hC 1 (pc := 1) dX2_reasonOf_1 rfl rfl ?_
  refine wm_pU hC cu_X2_60_X6 kc_X2_stateOfOne rfl rfl (s_X2_stateOfOne_X6 hS hi) rfl (by decide) rfl (Nat.le_of_ble_eq_true rfl) (pc := 2) dX2_reasonOf_2 ?_
  refine wm_istore_n hC 2 (pc := 5) dX2_reasonOf_5 rfl (by decide) rfl ?_
  refine wm_aload_n hC 0 (pc := 6) dX2_reasonOf_6 rfl rfl ?_
  refine wm_iload_n hC 1 (pc := 7) dX2_reasonOf_7 rfl rfl ?_
  refine wm_pU hC cu_X2_63_X6 kc_X2_stateOfOther rfl rfl (s_X2_stateOfOther_X6 hS hi) rfl (by decide) rfl (Nat.le_of_ble_eq_true rfl) (pc := 8) dX2_reasonOf_8 ?_
  refine wm_istore_n hC 3 (pc := 11) dX2_reasonOf_11 rfl (by decide) rfl ?_
  refine wm_aload_n hC 0 (pc := 12) dX2_reasonOf_12 rfl rfl ?_
  refine wm_aload_n hC 0 (pc := 13) dX2_reasonOf_13 rfl rfl ?_
  refine wm_getD hC 5 p fl_X2_27_5 rfl rfl rfl h5 (pc := 14) dX2_reasonOf_14 ?_
  refine wm_iload_n hC 2 (pc := 17) dX2_reasonOf_17 rfl rfl ?_
  refine wm_pV hC cv_X2_71 kc_X3_kindOf hp.1 rfl (s_X3_kindOf hp (by omega)) rfl (by decide) rfl (Nat.le_of_ble_eq_true rfl) (pc := 18) dX2_reasonOf_18 ?_
  refine wm_aload_n hC 0 (pc := 21) dX2_reasonOf_21 rfl rfl ?_
  refine wm_getD hC 5 p fl_X2_27_5 rfl rfl rfl h5 (pc := 22) dX2_reasonOf_22 ?_
  refine wm_iload_n hC 2 (pc := 25) dX2_reasonOf_25 rfl rfl ?_
  refine wm_pV hC cv_X2_78 kc_X3_wordsOf hp.1 rfl (s_X3_wordsOf hp (by omega) hkp) rfl (by decide) rfl (Nat.le_of_ble_eq_true rfl) (pc := 26) dX2_reasonOf_26 ?_
  refine wm_aload_n hC 0 (pc := 29) dX2_reasonOf_29 rfl rfl ?_
  refine wm_getD hC 6 q fl_X2_31_5 rfl rfl rfl h6 (pc := 30) dX2_reasonOf_30 ?_
  refine wm_iload_n hC 3 (pc := 33) dX2_reasonOf_33 rfl rfl ?_
  refine wm_pV hC cv_X2_71 kc_X3_kindOf hq.1 rfl (s_X3_kindOf hq (by omega)) rfl (by decide) rfl (Nat.le_of_ble_eq_true rfl) (pc := 34) dX2_reasonOf_34 ?_
  refine wm_aload_n hC 0 (pc := 37) dX2_reasonOf_37 rfl rfl ?_
  refine wm_getD hC 6 q fl_X2_31_5 rfl rfl rfl h6 (pc := 38) dX2_reasonOf_38 ?_
  refine wm_iload_n hC 3 (pc := 41) dX2_reasonOf_41 rfl rfl ?_
  refine wm_pV hC cv_X2_78 kc_X3_wordsOf hq.1 rfl (s_X3_wordsOf hq (by omega) hkq) rfl (by decide) rfl (Nat.le_of_ble_eq_true rfl) (pc := 42) dX2_reasonOf_42 ?_
  refine wm_pU hC cu_X2_81_X6 kc_X6_reasonFor rfl rfl (s_X6_reasonFor hk1 hk2 (msk_lt _ _ _) (msk_lt _ _ _)) rfl (by decide) rfl (Nat.le_of_ble_eq_true rfl) (pc := 45) dX2_reasonOf_45 ?_
  refine wm_iretP hC (pc := 48) dX2_reasonOf_48 ?_ rfl
  rfl
set_option maxRecDepth 100000 in
set_option maxHeartbeats 4000000 in
theorem s_X2_firstLackedWord_X6 {l : Launch} {G : mG} {w : mW} {p q : Nat} {B : Bf} (hS : PSt w 25 26 27 28 29 30 p q B) {i : Int} (hi : 0 ≤ i ∧ i < bN B) : Mx l G 3 yX2_firstLackedWord cX2_firstLackedWord 5 (some .int) [mvR 25, mvI i] w (qP (mvI (lckB togS w p q B i)) w) := by
  refine Mx.intro (by decide) RX2 rfl [some (mvR 25), some (mvI i), none, none, none] (Nat.le_of_ble_eq_true rfl) rfl (fun K hC => ?_)
  obtain ⟨hp, hq, hkp, hkq, h5, h6, hA, hB⟩ := id hS
  have hle := hB.le
  have hI := hB.2.2.1 i hi.1 hi.2
  have hIA := hA.2.1 i hi.1 hi.2
  have hk1 := kd_rng hkp (s := bP B i / 8) (by omega)
  have hk2 := kd_rng hkq (s := bP B i % 8) (by omega)
  refine wm_aload_n hC 0 (pc := 0) dX2_firstLackedWord_0 rfl rfl ?_
  refine wm_iload_n hC 1 (pc := 1) dX2_firstLackedWord_1 rfl rfl ?_
  refine wm_pU hC cu_X2_85_X6 kc_X2_kindOfOne rfl rfl (s_X2_kindOfOne_X6 hS hi) rfl (by decide) rfl (Nat.le_of_ble_eq_true rfl) (pc := 2) dX2_firstLackedWord_2 ?_
  refine wm_istore_n hC 2 (pc := 5) dX2_firstLackedWord_5 rfl (by decide) rfl ?_
  refine wm_aload_n hC 0 (pc := 6) dX2_firstLackedWord_6 rfl rfl ?_
  refine wm_iload_n hC 2 (pc := 7) dX2_firstLackedWord_7 rfl rfl ?_
  refine wm_aload_n hC 0 (pc := 8) dX2_firstLackedWord_8 rfl rfl ?_
  refine wm_iload_n hC 1 (pc := 9) dX2_firstLackedWord_9 rfl rfl ?_
  refine wm_pU hC cu_X2_88_X6 kc_X2_kindOfOther rfl rfl (s_X2_kindOfOther_X6 hS hi) rfl (by decide) rfl (Nat.le_of_ble_eq_true rfl) (pc := 10) dX2_firstLackedWord_10 ?_
  refine wm_pU hC cu_X2_74_X6 kc_X6_goTogether rfl rfl (s_X6_goTogether (by omega) (by omega)) rfl (by decide) rfl (Nat.le_of_ble_eq_true rfl) (pc := 13) dX2_firstLackedWord_13 ?_
  refine wm_ifb_ne hC 21 (pc := 16) dX2_firstLackedWord_16 (by decide) (fun h16 => ?_) (fun h16 => ?_)
  · refine wm_aload_n hC 0 (pc := 21) dX2_firstLackedWord_21 rfl rfl ?_
    refine wm_getD hC 5 p fl_X2_27_5 rfl rfl rfl h5 (pc := 22) dX2_firstLackedWord_22 ?_
    refine wm_aload_n hC 0 (pc := 25) dX2_firstLackedWord_25 rfl rfl ?_
    refine wm_iload_n hC 1 (pc := 26) dX2_firstLackedWord_26 rfl rfl ?_
    refine wm_pU hC cu_X2_60_X6 kc_X2_stateOfOne rfl rfl (s_X2_stateOfOne_X6 hS hi) rfl (by decide) rfl (Nat.le_of_ble_eq_true rfl) (pc := 27) dX2_firstLackedWord_27 ?_
    refine wm_pV hC cv_X2_78 kc_X3_wordsOf hp.1 rfl (s_X3_wordsOf hp (by omega) hkp) rfl (by decide) rfl (Nat.le_of_ble_eq_true rfl) (pc := 30) dX2_firstLackedWord_30 ?_
    refine wm_istore_n hC 3 (pc := 33) dX2_firstLackedWord_33 rfl (by decide) rfl ?_
    refine wm_aload_n hC 0 (pc := 34) dX2_firstLackedWord_34 rfl rfl ?_
    refine wm_getD hC 6 q fl_X2_31_5 rfl rfl rfl h6 (pc := 35) dX2_firstLackedWord_35 ?_
    refine wm_aload_n hC 0 (pc := 38) dX2_firstLackedWord_38 rfl rfl ?_
    refine wm_iload_n hC 1 (pc := 39) dX2_firstLackedWord_39 rfl rfl ?_
    refine wm_pU hC cu_X2_63_X6 kc_X2_stateOfOther rfl rfl (s_X2_stateOfOther_X6 hS hi) rfl (by decide) rfl (Nat.le_of_ble_eq_true rfl) (pc := 40) dX2_firstLackedWord_40 ?_
    refine wm_pV hC cv_X2_78 kc_X3_wordsOf hq.1 rfl (s_X3_wordsOf hq (by omega) hkq) rfl (by decide) rfl (Nat.le_of_ble_eq_true rfl) (pc := 43) dX2_firstLackedWord_43 ?_
    refine wm_istore hC  (pc := 46) dX2_firstLackedWord_46  (by decide) rfl ?_
    refine wm_iload_n hC 2 (pc := 48) dX2_firstLackedWord_48 rfl rfl ?_
    refine wm_iload_n hC 3 (pc := 49) dX2_firstLackedWord_49 rfl rfl ?_
    refine wm_iload hC  (pc := 50) dX2_firstLackedWord_50 rfl ?_
    refine wm_pS hC cs_X2_91 kc_X2_lackedWords (s_X2_lackedWords (by omega)) rfl (by decide) rfl (Nat.le_of_ble_eq_true rfl) (pc := 52) dX2_firstLackedWord_52 ?_
    refine wm_pN hC cn_X2_95 kc_X8_firstWordIn (s_X8_firstWordIn (lackF_lt _ (msk_lt w p (bP B i / 8)) (msk_lt w q (bP B i % 8)))) rfl (by decide) rfl (Nat.le_of_ble_eq_true rfl) (pc := 55) dX2_firstLackedWord_55 ?_
    refine wm_iretP hC (pc := 58) dX2_firstLackedWord_58 ?_ rfl
    unfold lckB
    rw [h16]; rfl
  · refine wm_iconst hC (pc := 19) dX2_firstLackedWord_19 ?_
    refine wm_iretP hC (pc := 20) dX2_firstLackedWord_20 ?_ rfl
    unfold lckB
    rw [h16]; rfl
set_option maxRecDepth 100000 in
set_option maxHeartbeats 4000000 in
theorem s_X2_firstFaulty_X6 {l : Launch} {G : mG} {w : mW} {p q : Nat} {B : Bf} (hS : PSt w 25 26 27 28 29 30 p q B) : Mx l G 4 yX2_firstFaulty cX2_firstFaulty 2 (some .int) [mvR 25] w (qP (mvI (faultB rsnS w p q B)) w) := by
  refine Mx.intro (by decide) RX2 rfl [some (mvR 25), none] (Nat.le_of_ble_eq_true rfl) rfl (fun K hC => ?_)
  obtain ⟨hp, hq, hkp, hkq, h5, h6, hA, hB⟩ := id hS
  have hle := hB.le
  refine wm_iconst hC (pc := 0) dX2_firstFaulty_0 ?_
  refine wm_istore_n hC 1 (pc := 1) dX2_firstFaulty_1 rfl (by decide) rfl ?_
  have lp2 : ∀ (n : Nat) (i : Nat), n = bN B - i → i ≤ bN B → faultB rsnS w p q B = ffst (fun i => decide (¬ rsnB rsnS w p q B i = 0)) (bN B - i) i → Wm l G K 4 2 (qP (mvI (faultB rsnS w p q B)) w) 2 [some (mvR 25), some (mvI (i : Int))] [] w := by
    intro n
    induction n using Nat.strongRecOn with
    | _ n ih =>
    intro i hn hi he
    refine wm_iload_n hC 1 (pc := 2) dX2_firstFaulty_2 rfl rfl ?_
    refine wm_aload_n hC 0 (pc := 3) dX2_firstFaulty_3 rfl rfl ?_
    refine wm_getI hC 25 7 fl_X2_40_5 rfl rfl rfl (pc := 4) dX2_firstFaulty_4 ?_
    refine wm_icmp_ge hC 26 (pc := 7) dX2_firstFaulty_7 (by decide) (by omega) (by rw [hA.1]; omega) (fun h7 => ?_) (fun h7 => ?_)
    · rw [hA.1] at h7
      refine wm_iconst hC (pc := 26) dX2_firstFaulty_26 ?_
      refine wm_iretP hC (pc := 27) dX2_firstFaulty_27 ?_ rfl
      have : i = bN B := by omega
      subst this
      rw [he, Nat.sub_self]; rfl
    · rw [hA.1] at h7
      refine wm_aload_n hC 0 (pc := 10) dX2_firstFaulty_10 rfl rfl ?_
      refine wm_iload_n hC 1 (pc := 11) dX2_firstFaulty_11 rfl rfl ?_
      refine wm_pU hC cu_X2_98_X6 kc_X2_reasonOf rfl rfl (s_X2_reasonOf_X6 hS (by omega)) rfl (by decide) rfl (Nat.le_of_ble_eq_true rfl) (pc := 12) dX2_firstFaulty_12 ?_
      refine wm_if_eq hC 20 (pc := 15) dX2_firstFaulty_15 (by decide) (by have := rsnS_rng (kdF w p (bP B i / 8)) (msk w p (bP B i / 8)) (kdF w q (bP B i % 8)) (msk w q (bP B i % 8)); unfold rsnB; omega) (fun h15 => ?_) (fun h15 => ?_)
      · refine wm_iinc hC (pc := 20) dX2_firstFaulty_20 rfl rfl (by decide) rfl ?_
        refine wm_goto hC 2 (pc := 23) dX2_firstFaulty_23 (by decide) ?_
        exact ih _ (by omega) (i + 1) rfl (by omega) (by rw [he, show bN B - i = (bN B - (i + 1)) + 1 by omega]; simp [ffst, h15])
      · refine wm_iload_n hC 1 (pc := 18) dX2_firstFaulty_18 rfl rfl ?_
        refine wm_iretP hC (pc := 19) dX2_firstFaulty_19 ?_ rfl
        rw [he, show bN B - i = (bN B - (i + 1)) + 1 by omega]; simp [ffst, h15]
  exact lp2 _ 0 rfl (by omega) rfl
set_option maxRecDepth 100000 in
set_option maxHeartbeats 4000000 in
theorem s_X2_wordOfRow_X6 {l : Launch} {G : mG} {w : mW} {p q : Nat} {B : Bf} (hS : PSt w 25 26 27 28 29 30 p q B) {i : Int} (hi : 0 ≤ i ∧ i < bN B) {k : Int} (hk : 0 ≤ k ∧ k < 64) : Mx l G 2 yX2_wordOfRow cX2_wordOfRow 5 (some .int) [mvR 25, mvI i, mvI k] w (qP (mvI (rowF B i k)) w) := by
  refine Mx.intro (by decide) RX2 rfl [some (mvR 25), some (mvI i), some (mvI k), none, none] (Nat.le_of_ble_eq_true rfl) rfl (fun K hC => ?_)
  obtain ⟨hp, hq, hkp, hkq, h5, h6, hA, hB⟩ := id hS
  have hle := hB.le
  have hI := hB.2.2.1 i hi.1 hi.2
  have hIA := hA.2.1 i hi.1 hi.2
  refine wm_iload_n hC 1 (pc := 0) dX2_wordOfRow_0 rfl rfl ?_
  refine wm_istore_n hC 3 (pc := 1) dX2_wordOfRow_1 rfl (by decide) rfl ?_
  refine wm_aload_n hC 0 (pc := 2) dX2_wordOfRow_2 rfl rfl ?_
  refine wm_iload_n hC 1 (pc := 3) dX2_wordOfRow_3 rfl rfl ?_
  refine wm_pU hC cu_X2_56_X6 kc_X2_lengthOf rfl rfl (s_X2_lengthOf_X6 hS hi) rfl (by decide) rfl (Nat.le_of_ble_eq_true rfl) (pc := 4) dX2_wordOfRow_4 ?_
  refine wm_istore hC  (pc := 7) dX2_wordOfRow_7  (by decide) rfl ?_
  have lp9 : ∀ (n : Nat) (f : Nat) (r : Int), n = f → clm B k 64 i = clm B k f r → (0 ≤ r ∧ r < bN B) → bL B r ≤ f → Wm l G K 2 5 (qP (mvI (rowF B i k)) w) 9 [some (mvR 25), some (mvI i), some (mvI k), some (mvI r), some (mvI (bL B r))] [] w := by
    intro n
    induction n using Nat.strongRecOn with
    | _ n ih =>
    intro f r hn he hr hf
    have hLr := (hB.2.2.1 r hr.1 hr.2).2.2.1
    refine wm_iload hC  (pc := 9) dX2_wordOfRow_9 rfl ?_
    refine wm_iload_n hC 2 (pc := 11) dX2_wordOfRow_11 rfl rfl ?_
    refine wm_iconst hC (pc := 12) dX2_wordOfRow_12 ?_
    refine wm_iadd hC (pc := 13) dX2_wordOfRow_13 ?_
    refine wm_icmp_le hC 32 (pc := 14) dX2_wordOfRow_14 (by decide) (by omega) (by omega) (fun h14 => ?_) (fun h14 => ?_)
    · refine wm_iload_n hC 2 (pc := 32) dX2_wordOfRow_32 rfl rfl ?_
      refine wm_aload_n hC 0 (pc := 33) dX2_wordOfRow_33 rfl rfl ?_
      refine wm_iload_n hC 1 (pc := 34) dX2_wordOfRow_34 rfl rfl ?_
      refine wm_pU hC cu_X2_56_X6 kc_X2_lengthOf rfl rfl (s_X2_lengthOf_X6 hS hi) rfl (by decide) rfl (Nat.le_of_ble_eq_true rfl) (pc := 35) dX2_wordOfRow_35 ?_
      refine wm_icmp_ge hC 52 (pc := 38) dX2_wordOfRow_38 (by decide) (by omega) (by omega) (fun h38 => ?_) (fun h38 => ?_)
      · refine wm_iconst hC (pc := 52) dX2_wordOfRow_52 ?_
        refine wm_iretP hC (pc := 53) dX2_wordOfRow_53 ?_ rfl
        first | (unfold rowF; rw [if_pos h38, he, if_pos (show 0 ≤ r ∧ r < ((64 : Nat) : Int) by omega)]; exact (hA.2.1 r hr.1 hr.2).2.2.2) | (unfold rowF; rw [if_neg (by omega)])
      · rw [clm_done B k f r (by omega)] at he
        refine wm_aload_n hC 0 (pc := 41) dX2_wordOfRow_41 rfl rfl ?_
        refine wm_getR hC fl_X2_24_5 rfl rfl (pc := 42) dX2_wordOfRow_42 ?_
        refine wm_iload_n hC 3 (pc := 45) dX2_wordOfRow_45 rfl rfl ?_
        refine wm_pN hC cn_X2_52 kc_X8_cellOf (s_X8_cellOf rfl (by decide) (by omega)) rfl (by decide) rfl (Nat.le_of_ble_eq_true rfl) (pc := 46) dX2_wordOfRow_46 ?_
        refine wm_goto hC 53 (pc := 49) dX2_wordOfRow_49 (by decide) ?_
        refine wm_iretP hC (pc := 53) dX2_wordOfRow_53 ?_ rfl
        first | (unfold rowF; rw [if_pos h38, he, if_pos (show 0 ≤ r ∧ r < ((64 : Nat) : Int) by omega)]; exact (hA.2.1 r hr.1 hr.2).2.2.2) | (unfold rowF; rw [if_neg (by omega)])
    · have hIr := hB.2.2.1 r hr.1 hr.2
      have hIr4 := hIr.2.2.2 (by omega)
      refine wm_aload_n hC 0 (pc := 17) dX2_wordOfRow_17 rfl rfl ?_
      refine wm_getR hC fl_X2_21_5 rfl rfl (pc := 18) dX2_wordOfRow_18 ?_
      refine wm_iload_n hC 3 (pc := 21) dX2_wordOfRow_21 rfl rfl ?_
      refine wm_pN hC cn_X2_52 kc_X8_cellOf (s_X8_cellOf rfl (by decide) (by omega)) rfl (by decide) rfl (Nat.le_of_ble_eq_true rfl) (pc := 22) dX2_wordOfRow_22 ?_
      rw [if_pos (show 0 ≤ r ∧ r < ((64 : Nat) : Int) by omega), (hA.2.1 r hr.1 hr.2).2.2.1]
      refine wm_istore_n hC 3 (pc := 25) dX2_wordOfRow_25 rfl (by decide) rfl ?_
      refine wm_iinc hC (v := (bL B (bO B r))) (pc := 26) dX2_wordOfRow_26 rfl (by omega) (by decide) rfl ?_
      refine wm_goto hC 9 (pc := 29) dX2_wordOfRow_29 (by decide) ?_
      obtain ⟨f1, rfl⟩ : ∃ f1, f = f1 + 1 := ⟨f - 1, by omega⟩
      exact ih f1 (by omega) f1 (bO B r) rfl (by rw [he]; show (if k + 1 < bL B r then _ else _) = _; rw [if_pos h14]) ⟨hIr4.1.1, by omega⟩ (by omega)
  exact lp9 64 64 i rfl rfl hi (by omega)
set_option maxRecDepth 100000 in
set_option maxHeartbeats 4000000 in
theorem s_X2_tellMore_X6 {l : Launch} {G : mG} {w : mW} {p q : Nat} {B : Bf} (hS : PSt w 25 26 27 28 29 30 p q B) {i : Int} (hi : 0 ≤ i ∧ i < bN B) {c : Int} (hc : c = 3 ∨ c = 4 ∨ (10 ≤ c ∧ c < 74)) : Mx l G 4 yX2_tellMore cX2_tellMore 3 (some .int) [mvR 25, mvI i, mvI c] w (qP (mvI (tellF togS rsnS w p q B i c)) w) := by
  refine Mx.intro (by decide) RX2 rfl [some (mvR 25), some (mvI i), some (mvI c)] (Nat.le_of_ble_eq_true rfl) rfl (fun K hC => ?_)
  obtain ⟨hp, hq, hkp, hkq, h5, h6, hA, hB⟩ := id hS
  have hle := hB.le
  have hI := hB.2.2.1 i hi.1 hi.2
  have hIA := hA.2.1 i hi.1 hi.2
  refine wm_iload_n hC 2 (pc := 0) dX2_tellMore_0 rfl rfl ?_
  by_cases sw1_0 : c = 3
  · refine wm_lookup hC (off := 27) 28 (pc := 1) dX2_tellMore_1 (by decide) (by omega) (by subst sw1_0; rfl) (by decide) ?_
    refine wm_aload_n hC 0 (pc := 28) dX2_tellMore_28 rfl rfl ?_
    refine wm_iload_n hC 1 (pc := 29) dX2_tellMore_29 rfl rfl ?_
    refine wm_pU hC cu_X2_98_X6 kc_X2_reasonOf rfl rfl (s_X2_reasonOf_X6 hS hi) rfl (by decide) rfl (Nat.le_of_ble_eq_true rfl) (pc := 30) dX2_tellMore_30 ?_
    refine wm_iretP hC (pc := 33) dX2_tellMore_33 ?_ rfl
    unfold tellF; rw [if_pos sw1_0]
  by_cases sw1_1 : c = 4
  · refine wm_lookup hC (off := 33) 34 (pc := 1) dX2_tellMore_1 (by decide) (by omega) (by subst sw1_1; rfl) (by decide) ?_
    refine wm_aload_n hC 0 (pc := 34) dX2_tellMore_34 rfl rfl ?_
    refine wm_iload_n hC 1 (pc := 35) dX2_tellMore_35 rfl rfl ?_
    refine wm_pU hC cu_X2_101_X6 kc_X2_firstLackedWord rfl rfl (s_X2_firstLackedWord_X6 hS hi) rfl (by decide) rfl (Nat.le_of_ble_eq_true rfl) (pc := 36) dX2_tellMore_36 ?_
    refine wm_pN hC cn_X2_104 kc_X8_foundOr (s_X8_foundOr (by have hx := fwi_rng (lackF (kdF w p (bP B i / 8)) (msk w p (bP B i / 8)) (msk w q (bP B i % 8))); unfold lckB; split <;> omega)) rfl (by decide) rfl (Nat.le_of_ble_eq_true rfl) (pc := 39) dX2_tellMore_39 ?_
    refine wm_iretP hC (pc := 42) dX2_tellMore_42 ?_ rfl
    unfold tellF; rw [if_neg sw1_0, if_pos sw1_1]
  refine wm_lookup hC (off := 42) 43 (pc := 1) dX2_tellMore_1 (by decide) (by omega) (by simp [Op.lookupswitch.offset, sw1_0, Ne.symm sw1_0, sw1_1, Ne.symm sw1_1]) (by decide) ?_
  refine wm_aload_n hC 0 (pc := 43) dX2_tellMore_43 rfl rfl ?_
  refine wm_iload_n hC 1 (pc := 44) dX2_tellMore_44 rfl rfl ?_
  refine wm_iload_n hC 2 (pc := 45) dX2_tellMore_45 rfl rfl ?_
  refine wm_bipush hC (pc := 46) dX2_tellMore_46 (by decide) ?_
  refine wm_isub hC (pc := 48) dX2_tellMore_48 ?_
  refine wm_pU hC cu_X2_107_X6 kc_X2_wordOfRow rfl rfl (s_X2_wordOfRow_X6 hS hi (by omega)) rfl (by decide) rfl (Nat.le_of_ble_eq_true rfl) (pc := 49) dX2_tellMore_49 ?_
  refine wm_pN hC cn_X2_104 kc_X8_foundOr (s_X8_foundOr (by have hx := rowF_rng hB (k := c - 10) (by omega) hi; omega)) rfl (by decide) rfl (Nat.le_of_ble_eq_true rfl) (pc := 52) dX2_tellMore_52 ?_
  refine wm_iretP hC (pc := 55) dX2_tellMore_55 ?_ rfl
  unfold tellF; rw [if_neg sw1_0, if_neg sw1_1]
set_option maxRecDepth 100000 in
set_option maxHeartbeats 4000000 in
theorem s_X2_pairBehind_X6 {l : Launch} {G : mG} {w : mW} {p q : Nat} {B : Bf} (hS : PSt w 25 26 27 28 29 30 p q B) {i : Int} (hi : 0 ≤ i ∧ i < bN B) {k : Int} (hk : 0 ≤ k ∧ k < 6) : Mx l G 2 yX2_pairBehind cX2_pairBehind 7 (some .int) [mvR 25, mvI i, mvI k] w (qP (mvI (nxF togS w p q (bP B i) k)) w) := by
  refine Mx.intro (by decide) RX2 rfl [some (mvR 25), some (mvI i), some (mvI k), none, none, none, none] (Nat.le_of_ble_eq_true rfl) rfl (fun K hC => ?_)
  obtain ⟨hp, hq, hkp, hkq, h5, h6, hA, hB⟩ := id hS
  have hle := hB.le
  have hI := hB.2.2.1 i hi.1 hi.2
  have hIA := hA.2.1 i hi.1 hi.2
  have hk1 := kd_rng hkp (s := bP B i / 8) (by omega)
  have hk2 := kd_rng hkq (s := bP B i % 8) (by omega)
  have ht1 := tg_rng hkp (s := bP B i / 8) (k := k) (by omega) hk
  have ht2 := tg_rng hkq (s := bP B i % 8) (k := k) (by omega) hk
  refine wm_aload_n hC 0 (pc := 0) dX2_pairBehind_0 rfl rfl ?_
  refine wm_iload_n hC 1 (pc := 1) dX2_pairBehind_1 rfl rfl ?_
  refine wm_pU hC cu_X2_60_X6 kc_X2_stateOfOne rfl rfl (s_X2_stateOfOne_X6 hS hi) rfl (by decide) rfl (Nat.le_of_ble_eq_true rfl) (pc := 2) dX2_pairBehind_2 ?_
  refine wm_istore_n hC 3 (pc := 5) dX2_pairBehind_5 rfl (by decide) rfl ?_
  refine wm_aload_n hC 0 (pc := 6) dX2_pairBehind_6 rfl rfl ?_
  refine wm_iload_n hC 1 (pc := 7) dX2_pairBehind_7 rfl rfl ?_
  refine wm_pU hC cu_X2_63_X6 kc_X2_stateOfOther rfl rfl (s_X2_stateOfOther_X6 hS hi) rfl (by decide) rfl (Nat.le_of_ble_eq_true rfl) (pc := 8) dX2_pairBehind_8 ?_
  refine wm_istore hC  (pc := 11) dX2_pairBehind_11  (by decide) rfl ?_
  refine wm_aload_n hC 0 (pc := 13) dX2_pairBehind_13 rfl rfl ?_
  refine wm_getD hC 5 p fl_X2_27_5 rfl rfl rfl h5 (pc := 14) dX2_pairBehind_14 ?_
  refine wm_iload_n hC 3 (pc := 17) dX2_pairBehind_17 rfl rfl ?_
  refine wm_iload_n hC 2 (pc := 18) dX2_pairBehind_18 rfl rfl ?_
  refine wm_pV hC cv_X2_66 kc_X3_targetOf hp.1 rfl (s_X3_targetOf hp (by omega) (by omega)) rfl (by decide) rfl (Nat.le_of_ble_eq_true rfl) (pc := 19) dX2_pairBehind_19 ?_
  refine wm_istore hC  (pc := 22) dX2_pairBehind_22  (by decide) rfl ?_
  refine wm_aload_n hC 0 (pc := 24) dX2_pairBehind_24 rfl rfl ?_
  refine wm_getD hC 6 q fl_X2_31_5 rfl rfl rfl h6 (pc := 25) dX2_pairBehind_25 ?_
  refine wm_iload hC  (pc := 28) dX2_pairBehind_28 rfl ?_
  refine wm_iload_n hC 2 (pc := 30) dX2_pairBehind_30 rfl rfl ?_
  refine wm_pV hC cv_X2_66 kc_X3_targetOf hq.1 rfl (s_X3_targetOf hq (by omega) (by omega)) rfl (by decide) rfl (Nat.le_of_ble_eq_true rfl) (pc := 31) dX2_pairBehind_31 ?_
  refine wm_istore hC  (pc := 34) dX2_pairBehind_34  (by decide) rfl ?_
  refine wm_iload hC  (pc := 36) dX2_pairBehind_36 rfl ?_
  refine wm_iconst hC (pc := 38) dX2_pairBehind_38 ?_
  refine wm_icmp_eq hC 72 (pc := 39) dX2_pairBehind_39 (by decide) (by unfold tgF at ht1; omega) (by omega) (fun h39 => ?_) (fun h39 => ?_)
  · have e : nxF togS w p q (bP B i) k = -1 := if_pos (Or.inl h39)
    refine wm_iconst hC (pc := 72) dX2_pairBehind_72 ?_
    refine wm_iretP hC (pc := 73) dX2_pairBehind_73 ?_ rfl
    rw [e]
  · refine wm_iload hC  (pc := 42) dX2_pairBehind_42 rfl ?_
    refine wm_iconst hC (pc := 44) dX2_pairBehind_44 ?_
    refine wm_icmp_eq hC 72 (pc := 45) dX2_pairBehind_45 (by decide) (by unfold tgF at ht2; omega) (by omega) (fun h45 => ?_) (fun h45 => ?_)
    · have e : nxF togS w p q (bP B i) k = -1 := if_pos (Or.inr (Or.inl h45))
      refine wm_iconst hC (pc := 72) dX2_pairBehind_72 ?_
      refine wm_iretP hC (pc := 73) dX2_pairBehind_73 ?_ rfl
      rw [e]
    · refine wm_aload_n hC 0 (pc := 48) dX2_pairBehind_48 rfl rfl ?_
      refine wm_aload_n hC 0 (pc := 49) dX2_pairBehind_49 rfl rfl ?_
      refine wm_getD hC 5 p fl_X2_27_5 rfl rfl rfl h5 (pc := 50) dX2_pairBehind_50 ?_
      refine wm_iload_n hC 3 (pc := 53) dX2_pairBehind_53 rfl rfl ?_
      refine wm_pV hC cv_X2_71 kc_X3_kindOf hp.1 rfl (s_X3_kindOf hp (by omega)) rfl (by decide) rfl (Nat.le_of_ble_eq_true rfl) (pc := 54) dX2_pairBehind_54 ?_
      refine wm_aload_n hC 0 (pc := 57) dX2_pairBehind_57 rfl rfl ?_
      refine wm_getD hC 6 q fl_X2_31_5 rfl rfl rfl h6 (pc := 58) dX2_pairBehind_58 ?_
      refine wm_iload hC  (pc := 61) dX2_pairBehind_61 rfl ?_
      refine wm_pV hC cv_X2_71 kc_X3_kindOf hq.1 rfl (s_X3_kindOf hq (by omega)) rfl (by decide) rfl (Nat.le_of_ble_eq_true rfl) (pc := 63) dX2_pairBehind_63 ?_
      refine wm_pU hC cu_X2_74_X6 kc_X6_goTogether rfl rfl (s_X6_goTogether (by unfold kdF at hk1; omega) (by unfold kdF at hk2; omega)) rfl (by decide) rfl (Nat.le_of_ble_eq_true rfl) (pc := 66) dX2_pairBehind_66 ?_
      refine wm_ifb_ne hC 74 (pc := 69) dX2_pairBehind_69 (by decide) (fun h69 => ?_) (fun h69 => ?_)
      · have e : nxF togS w p q (bP B i) k = w (p + 1) (bP B i / 8 * 7 + 1 + k) * 8 + w (q + 1) (bP B i % 8 * 7 + 1 + k) := if_neg (fun hh => by
          rcases hh with hh | hh | hh
          · exact h39 hh
          · exact h45 hh
          · exact absurd (h69.symm.trans hh) (by decide))
        refine wm_iload hC  (pc := 74) dX2_pairBehind_74 rfl ?_
        refine wm_bipush hC (pc := 76) dX2_pairBehind_76 (by decide) ?_
        refine wm_imul hC (pc := 78) dX2_pairBehind_78 ?_
        refine wm_iload hC  (pc := 79) dX2_pairBehind_79 rfl ?_
        refine wm_iadd hC (pc := 81) dX2_pairBehind_81 ?_
        refine wm_iretP hC (pc := 82) dX2_pairBehind_82 ?_ rfl
        rw [e]
      · have e : nxF togS w p q (bP B i) k = -1 := if_pos (Or.inr (Or.inr h69))
        refine wm_iconst hC (pc := 72) dX2_pairBehind_72 ?_
        refine wm_iretP hC (pc := 73) dX2_pairBehind_73 ?_ rfl
        rw [e]
set_option maxRecDepth 100000 in
set_option maxHeartbeats 4000000 in
theorem s_X2_positionBehind_X6 {l : Launch} {G : mG} {w : mW} {p q : Nat} {B : Bf} (hS : PSt w 25 26 27 28 29 30 p q B) {i : Int} (hi : 0 ≤ i ∧ i < bN B) {k : Int} (hk : 0 ≤ k ∧ k < 6) : Mx l G 3 yX2_positionBehind cX2_positionBehind 3 (some .int) [mvR 25, mvI i, mvI k] w (qP (mvI (posF togS w p q B i k)) w) := by
  refine Mx.intro (by decide) RX2 rfl [some (mvR 25), some (mvI i), some (mvI k)] (Nat.le_of_ble_eq_true rfl) rfl (fun K hC => ?_)
  obtain ⟨hp, hq, hkp, hkq, h5, h6, hA, hB⟩ := id hS
  have hle := hB.le
  have hI := hB.2.2.1 i hi.1 hi.2
  have hIA := hA.2.1 i hi.1 hi.2
  have hx := nxF_ok (tog := togS) hkp hkq (bP B i) k (by omega) (by omega) hk.1 hk.2
  refine wm_aload_n hC 0 (pc := 0) dX2_positionBehind_0 rfl rfl ?_
  refine wm_getR hC fl_X2_15_5 rfl rfl (pc := 1) dX2_positionBehind_1 ?_
  refine wm_aload_n hC 0 (pc := 4) dX2_positionBehind_4 rfl rfl ?_
  refine wm_iload_n hC 1 (pc := 5) dX2_positionBehind_5 rfl rfl ?_
  refine wm_iload_n hC 2 (pc := 6) dX2_positionBehind_6 rfl rfl ?_
  refine wm_pU hC cu_X2_48_X6 kc_X2_pairBehind rfl rfl (s_X2_pairBehind_X6 hS hi hk) rfl (by decide) rfl (Nat.le_of_ble_eq_true rfl) (pc := 7) dX2_positionBehind_7 ?_
  refine wm_pN hC cn_X2_52 kc_X8_cellOf (s_X8_cellOf rfl (by decide) (by omega)) rfl (by decide) rfl (Nat.le_of_ble_eq_true rfl) (pc := 10) dX2_positionBehind_10 ?_
  refine wm_iretP hC (pc := 13) dX2_positionBehind_13 ?_ rfl
  unfold posF
  by_cases h : nxF togS w p q (bP B i) k = -1
  · rw [if_neg (by omega), if_pos h]
  · rw [if_pos (by omega), if_neg h]; exact hA.2.2 _ (by omega) (by omega)
set_option maxRecDepth 100000 in
set_option maxHeartbeats 4000000 in
theorem s_X2_add_X6 {l : Launch} {G : mG} {w : mW} {t ln og k : Int} (ht : 0 ≤ t ∧ t < 64) (hn : 0 ≤ w 25 7 ∧ w 25 7 < 64) : Mx l G 0 yX2_add cX2_add 5 none [mvR 25, mvI t, mvI ln, mvI og, mvI k] w (qV (fun w' => w' = addW w 25 26 27 28 29 30 t ln og k)) := by
  refine Mx.intro (by decide) RX2 rfl [some (mvR 25), some (mvI t), some (mvI ln), some (mvI og), some (mvI k)] (Nat.le_of_ble_eq_true rfl) rfl (fun K hC => ?_)
  refine wm_iload_n hC 1 (pc := 0) dX2_add_0 rfl rfl ?_
  refine wm_if_lt hC 80 (pc := 1) dX2_add_1 (by decide) (by omega) (fun h1 => ?_) (fun h1 => ?_)
  · omega
  · refine wm_iload_n hC 1 (pc := 4) dX2_add_4 rfl rfl ?_
    refine wm_bipush hC (pc := 5) dX2_add_5 (by decide) ?_
    refine wm_icmp_ge hC 80 (pc := 7) dX2_add_7 (by decide) (by omega) (by omega) (fun h7 => ?_) (fun h7 => ?_)
    · omega
    · refine wm_aload_n hC 0 (pc := 10) dX2_add_10 rfl rfl ?_
      refine wm_getI hC 25 7 fl_X2_40_5 rfl rfl rfl (pc := 11) dX2_add_11 ?_
      refine wm_bipush hC (pc := 14) dX2_add_14 (by decide) ?_
      refine wm_icmp_ge hC 80 (pc := 16) dX2_add_16 (by decide) (by omega) (by omega) (fun h16 => ?_) (fun h16 => ?_)
      · omega
      · refine wm_aload_n hC 0 (pc := 19) dX2_add_19 rfl rfl ?_
        refine wm_getR hC fl_X2_9_5 rfl rfl (pc := 20) dX2_add_20 ?_
        refine wm_aload_n hC 0 (pc := 23) dX2_add_23 rfl rfl ?_
        refine wm_getI hC 25 7 fl_X2_40_5 rfl rfl rfl (pc := 24) dX2_add_24 ?_
        refine wm_iload_n hC 1 (pc := 27) dX2_add_27 rfl rfl ?_
        refine wm_iastore hC rfl (by omega) (by decide) (pc := 28) dX2_add_28 ?_
        refine wm_aload_n hC 0 (pc := 29) dX2_add_29 rfl rfl ?_
        refine wm_getR hC fl_X2_18_5 rfl rfl (pc := 30) dX2_add_30 ?_
        refine wm_aload_n hC 0 (pc := 33) dX2_add_33 rfl rfl ?_
        refine wm_getI hC 25 7 fl_X2_40_5 rfl rfl rfl (pc := 34) dX2_add_34 ?_
        simp only [mup_ne (show (25 : Nat) ≠ 26 by decide), mup_ne (show (25 : Nat) ≠ 27 by decide), mup_ne (show (25 : Nat) ≠ 28 by decide), mup_ne (show (25 : Nat) ≠ 29 by decide), mup_ne (show (25 : Nat) ≠ 30 by decide)]
        refine wm_iload_n hC 2 (pc := 37) dX2_add_37 rfl rfl ?_
        refine wm_iastore hC rfl (by omega) (by decide) (pc := 38) dX2_add_38 ?_
        refine wm_aload_n hC 0 (pc := 39) dX2_add_39 rfl rfl ?_
        refine wm_getR hC fl_X2_21_5 rfl rfl (pc := 40) dX2_add_40 ?_
        refine wm_aload_n hC 0 (pc := 43) dX2_add_43 rfl rfl ?_
        refine wm_getI hC 25 7 fl_X2_40_5 rfl rfl rfl (pc := 44) dX2_add_44 ?_
        simp only [mup_ne (show (25 : Nat) ≠ 26 by decide), mup_ne (show (25 : Nat) ≠ 27 by decide), mup_ne (show (25 : Nat) ≠ 28 by decide), mup_ne (show (25 : Nat) ≠ 29 by decide), mup_ne (show (25 : Nat) ≠ 30 by decide)]
        refine wm_iload_n hC 3 (pc := 47) dX2_add_47 rfl rfl ?_
        refine wm_iastore hC rfl (by omega) (by decide) (pc := 48) dX2_add_48 ?_
        refine wm_aload_n hC 0 (pc := 49) dX2_add_49 rfl rfl ?_
        refine wm_getR hC fl_X2_24_5 rfl rfl (pc := 50) dX2_add_50 ?_
        refine wm_aload_n hC 0 (pc := 53) dX2_add_53 rfl rfl ?_
        refine wm_getI hC 25 7 fl_X2_40_5 rfl rfl rfl (pc := 54) dX2_add_54 ?_
        simp only [mup_ne (show (25 : Nat) ≠ 26 by decide), mup_ne (show (25 : Nat) ≠ 27 by decide), mup_ne (show (25 : Nat) ≠ 28 by decide), mup_ne (show (25 : Nat) ≠ 29 by decide), mup_ne (show (25 : Nat) ≠ 30 by decide)]
        refine wm_iload hC  (pc := 57) dX2_add_57 rfl ?_
        refine wm_iastore hC rfl (by omega) (by decide) (pc := 59) dX2_add_59 ?_
        refine wm_aload_n hC 0 (pc := 60) dX2_add_60 rfl rfl ?_
        refine wm_getR hC fl_X2_15_5 rfl rfl (pc := 61) dX2_add_61 ?_
        refine wm_iload_n hC 1 (pc := 64) dX2_add_64 rfl rfl ?_
        refine wm_aload_n hC 0 (pc := 65) dX2_add_65 rfl rfl ?_
        refine wm_getI hC 25 7 fl_X2_40_5 rfl rfl rfl (pc := 66) dX2_add_66 ?_
        simp only [mup_ne (show (25 : Nat) ≠ 26 by decide), mup_ne (show (25 : Nat) ≠ 27 by decide), mup_ne (show (25 : Nat) ≠ 28 by decide), mup_ne (show (25 : Nat) ≠ 29 by decide), mup_ne (show (25 : Nat) ≠ 30 by decide)]
        refine wm_iastore hC rfl (by omega) (by decide) (pc := 69) dX2_add_69 ?_
        refine wm_aload_n hC 0 (pc := 70) dX2_add_70 rfl rfl ?_
        refine wm_dup hC (pc := 71) dX2_add_71 rfl ?_
        refine wm_getI hC 25 7 fl_X2_40_5 rfl rfl rfl (pc := 72) dX2_add_72 ?_
        simp only [mup_ne (show (25 : Nat) ≠ 26 by decide), mup_ne (show (25 : Nat) ≠ 27 by decide), mup_ne (show (25 : Nat) ≠ 28 by decide), mup_ne (show (25 : Nat) ≠ 29 by decide), mup_ne (show (25 : Nat) ≠ 30 by decide)]
        refine wm_iconst hC (pc := 75) dX2_add_75 ?_
        refine wm_iadd hC (pc := 76) dX2_add_76 ?_
        refine wm_putI hC 25 7 fp_X2_40_5 rfl rfl rfl (pc := 77) dX2_add_77 ?_
        refine wm_retV hC (pc := 80) dX2_add_80 ?_
        rfl
theorem walk0_25 (w : mW) (p q : Nat) : walkI w (addW (mup (mfill (mup (mup w 25 5 (p : Int)) 25 6 (q : Int)) 27 64 (-1)) 25 7 0) 25 26 27 28 29 30 0 0 (-1) (-1)) 25 26 27 28 29 30 p q b0 := by
  refine ⟨fun a ha => ?_, by simp [addW, mup, mfill], by simp [addW, mup, mfill], ?_⟩
  · unfold addW
    rw [mup_ne (by omega), mup_ne (by omega), mup_ne (by omega), mup_ne (by omega), mup_ne (by omega), mup_ne (by omega), mup_ne (by omega), mfill_ne (by omega), mup_ne (by omega), mup_ne (by omega)]
  · refine agr_add (B := (0, fun _ => 0, fun _ => -1, fun _ => 0, fun _ => 0, fun _ => 0)) (u := mup (mfill (mup (mup w 25 5 (p : Int)) 25 6 (q : Int)) 27 64 (-1)) 25 7 0) ⟨by simp [mup], fun i h1 h2 => ?_, fun t h1 h2 => ?_⟩ (by simp [addW, mup]) (fun i => by simp [addW, mup]) (fun i => by simp [addW, mup]) (fun i => by simp [addW, mup]) (fun i => by simp [addW, mup]) (fun i => by simp [addW, mup])
    · have h2' : i < (0 : Nat) := h2
      omega
    · show mup (mfill (mup (mup w 25 5 (p : Int)) 25 6 (q : Int)) 27 64 (-1)) 25 7 0 27 t = -1
      rw [mup_ne (by decide)]; unfold mfill; rw [if_pos (by omega)]
set_option maxRecDepth 100000 in
set_option maxHeartbeats 4000000 in
theorem s_X2_walk_X6 {l : Launch} {G : mG} {w : mW} {p q : Nat} (hp : PlanIx p) (hq : PlanIx q) (hpb : p + 1 < 25) (hqb : q + 1 < 25) (hkp : PlanOK w p) (hkq : PlanOK w q) : Mx l G 3 yX2_walk cX2_walk 6 none [mvR 25, mvR p, mvR q] w (qV (fun w' => walkI w w' 25 26 27 28 29 30 p q (bfs (nxF togS w p q)))) := by
  refine Mx.intro (by decide) RX2 rfl [some (mvR 25), some (mvR p), some (mvR q), none, none, none] (Nat.le_of_ble_eq_true rfl) rfl (fun K hC => ?_)
  have hnx : NxOK (nxF togS w p q) := nxF_ok hkp hkq
  refine wm_aload_n hC 0 (pc := 0) dX2_walk_0 rfl rfl ?_
  refine wm_aload_n hC 1 (pc := 1) dX2_walk_1 rfl rfl ?_
  refine wm_putD hC 25 5 fp_X2_27_5 rfl rfl rfl (pc := 2) dX2_walk_2 ?_
  refine wm_aload_n hC 0 (pc := 5) dX2_walk_5 rfl rfl ?_
  refine wm_aload_n hC 2 (pc := 6) dX2_walk_6 rfl rfl ?_
  refine wm_putD hC 25 6 fp_X2_31_5 rfl rfl rfl (pc := 7) dX2_walk_7 ?_
  refine wm_aload_n hC 0 (pc := 10) dX2_walk_10 rfl rfl ?_
  refine wm_getR hC fl_X2_15_5 rfl rfl (pc := 11) dX2_walk_11 ?_
  refine wm_iconst hC (pc := 14) dX2_walk_14 ?_
  refine wm_vS hC cs_X2_34 kc_J7_fill_53178 (s_J7_fill_53178 rfl (by decide)) rfl (by decide) rfl (Nat.le_of_ble_eq_true rfl) (pc := 15) dX2_walk_15 (fun w15 hw15 => ?_)
  subst hw15
  refine wm_aload_n hC 0 (pc := 18) dX2_walk_18 rfl rfl ?_
  refine wm_iconst hC (pc := 19) dX2_walk_19 ?_
  refine wm_putI hC 25 7 fp_X2_40_5 rfl rfl rfl (pc := 20) dX2_walk_20 ?_
  refine wm_aload_n hC 0 (pc := 23) dX2_walk_23 rfl rfl ?_
  refine wm_iconst hC (pc := 24) dX2_walk_24 ?_
  refine wm_iconst hC (pc := 25) dX2_walk_25 ?_
  refine wm_iconst hC (pc := 26) dX2_walk_26 ?_
  refine wm_iconst hC (pc := 27) dX2_walk_27 ?_
  refine wm_vU hC cu_X2_44_X6 kc_X2_add rfl rfl (s_X2_add_X6 (by omega) (by rw [mup_at]; decide)) rfl (by decide) rfl (Nat.le_of_ble_eq_true rfl) (pc := 28) dX2_walk_28 (fun w28 hw28 => ?_)
  subst hw28
  refine wm_iconst hC (pc := 31) dX2_walk_31 ?_
  refine wm_istore_n hC 3 (pc := 32) dX2_walk_32 rfl (by decide) rfl ?_
  have lp33 : ∀ (n : Nat) (at_ : Nat) (u : mW) (o4 o5 : Option mV), n = 64 - at_ → at_ ≤ 64 → walkI w u 25 26 27 28 29 30 p q (bfsN (nxF togS w p q) at_) → Wm l G K 3 6 (qV (fun w' => walkI w w' 25 26 27 28 29 30 p q (bfs (nxF togS w p q)))) 33 [some (mvR 25), some (mvR p), some (mvR q), some (mvI (at_ : Int)), o4, o5] [] u := by
    intro n
    induction n using Nat.strongRecOn with
    | _ n ih =>
    intro at_ u o4 o5 hn hat hW
    obtain ⟨hKu, h5u, h6u, hA⟩ := id hW
    have hB := bfsN_inv hnx at_
    have hle := hB.le
    refine wm_iload_n hC 3 (pc := 33) dX2_walk_33 rfl rfl ?_
    refine wm_aload_n hC 0 (pc := 34) dX2_walk_34 rfl rfl ?_
    refine wm_getI hC 25 7 fl_X2_40_5 rfl rfl rfl (pc := 35) dX2_walk_35 ?_
    refine wm_icmp_ge hC 113 (pc := 38) dX2_walk_38 (by decide) (by omega) (by rw [hA.1]; omega) (fun h38 => ?_) (fun h38 => ?_)
    · rw [hA.1] at h38
      refine wm_retV hC (pc := 113) dX2_walk_113 ?_
      have e : bfs (nxF togS w p q) = bfsN (nxF togS w p q) at_ := bfsN_stop (by omega) 64 hat
      rw [e]; exact hW
    · rw [hA.1] at h38
      refine wm_iload_n hC 3 (pc := 41) dX2_walk_41 rfl rfl ?_
      refine wm_bipush hC (pc := 42) dX2_walk_42 (by decide) ?_
      refine wm_icmp_ge hC 113 (pc := 44) dX2_walk_44 (by decide) (by omega) (by omega) (fun h44 => ?_) (fun h44 => ?_)
      · refine wm_retV hC (pc := 113) dX2_walk_113 ?_
        have e : bfs (nxF togS w p q) = bfsN (nxF togS w p q) at_ := bfsN_stop (by omega) 64 hat
        rw [e]; exact hW
      · refine wm_iconst hC (pc := 47) dX2_walk_47 ?_
        refine wm_istore hC  (pc := 48) dX2_walk_48  (by decide) rfl ?_
        have lp50 : ∀ (n : Nat) (k : Nat) (u2 : mW) (o6 : Option mV) (ho : mok [none, none, none, none, none, o6] 5 = true ∧ mok [none, none, none, none, some (mvI 0), o6] 5 = true), n = 6 - k → k ≤ 6 → walkI w u2 25 26 27 28 29 30 p q (inn (nxF togS w p q) (bfsN (nxF togS w p q) at_) at_ k) → Wm l G K 3 6 (qV (fun w' => walkI w w' 25 26 27 28 29 30 p q (bfs (nxF togS w p q)))) 50 [some (mvR 25), some (mvR p), some (mvR q), some (mvI (at_ : Int)), some (mvI (k : Int)), o6] [] u2 := by
          intro n
          induction n using Nat.strongRecOn with
          | _ n ih =>
          intro k u2 o6 ho hm hk6 hW2
          rename_i n0 ih0
          have hB2 : BInv (inn (nxF togS w p q) (bfsN (nxF togS w p q) at_) at_ k) ∧ bN (bfsN (nxF togS w p q) at_) ≤ bN (inn (nxF togS w p q) (bfsN (nxF togS w p q) at_) at_ k) := inn_inv hnx hB (by omega) k hk6
          obtain ⟨hB2, hgrow⟩ := hB2
          have hle2 := hB2.le
          refine wm_iload hC  (pc := 50) dX2_walk_50 rfl ?_
          refine wm_bipush hC (pc := 52) dX2_walk_52 (by decide) ?_
          refine wm_icmp_ge hC 107 (pc := 54) dX2_walk_54 (by decide) (by omega) (by omega) (fun h54 => ?_) (fun h54 => ?_)
          · refine wm_iinc hC (pc := 107) dX2_walk_107 rfl rfl (by decide) rfl ?_
            refine wm_goto hC 33 (pc := 110) dX2_walk_110 (by decide) ?_
            obtain rfl : k = 6 := by omega
            have e : bfsN (nxF togS w p q) (at_ + 1) = inn (nxF togS w p q) (bfsN (nxF togS w p q) at_) at_ 6 := if_pos (by omega)
            exact ih0 _ (by omega) (at_ + 1) u2 _ _ rfl (by omega) (by rw [e]; exact hW2)
          · refine wm_aload_n hC 0 (pc := 57) dX2_walk_57 rfl rfl ?_
            refine wm_iload_n hC 3 (pc := 58) dX2_walk_58 rfl rfl ?_
            refine wm_iload hC  (pc := 59) dX2_walk_59 rfl ?_
            obtain ⟨hK2, h52, h62, hA2⟩ := id hW2
            have hPS : PSt u2 25 26 27 28 29 30 p q (inn (nxF togS w p q) (bfsN (nxF togS w p q) at_) at_ k) := ⟨hp, hq, hkp.congr (hK2 _ (Or.inl (by omega))), hkq.congr (hK2 _ (Or.inl (by omega))), h52, h62, hA2, hB2⟩
            refine wm_pU hC cu_X2_48_X6 kc_X2_pairBehind rfl rfl (s_X2_pairBehind_X6 hPS ⟨by omega, by omega⟩ ⟨by omega, by omega⟩) rfl (by decide) rfl (Nat.le_of_ble_eq_true rfl) (pc := 61) dX2_walk_61 ?_
            rw [nxF_congr (hK2 _ (Or.inl (by omega))) (hK2 _ (Or.inl (by omega)))]
            have hr := hnx (bP (inn (nxF togS w p q) (bfsN (nxF togS w p q) at_) at_ k) at_) k (hB2.2.2.1 at_ (by omega) (by omega)).1.1 (hB2.2.2.1 at_ (by omega) (by omega)).1.2 (by omega) (by omega)
            refine wm_istore hC  (pc := 64) dX2_walk_64  (by decide) rfl ?_
            refine wm_iload hC  (pc := 66) dX2_walk_66 rfl ?_
            refine wm_iconst hC (pc := 68) dX2_walk_68 ?_
            refine wm_icmp_eq hC 101 (pc := 69) dX2_walk_69 (by decide) (by omega) (by omega) (fun h69 => ?_) (fun h69 => ?_)
            · have hW3 : walkI w u2 25 26 27 28 29 30 p q (inn (nxF togS w p q) (bfsN (nxF togS w p q) at_) at_ (k + 1)) := by
                have e : inn (nxF togS w p q) (bfsN (nxF togS w p q) at_) at_ (k + 1) = (inn (nxF togS w p q) (bfsN (nxF togS w p q) at_) at_ k) := if_pos (Or.inl h69)
                rw [e]; exact hW2
              refine wm_iinc hC (pc := 101) dX2_walk_101 rfl rfl (by decide) rfl ?_
              refine wm_goto hC 50 (pc := 104) dX2_walk_104 (by decide) ?_
              exact ih _ (by omega) (k + 1) _ _ ⟨rfl, rfl⟩ rfl (by omega) hW3
            · refine wm_aload_n hC 0 (pc := 72) dX2_walk_72 rfl rfl ?_
              refine wm_getR hC fl_X2_15_5 rfl rfl (pc := 73) dX2_walk_73 ?_
              refine wm_iload hC  (pc := 76) dX2_walk_76 rfl ?_
              refine wm_pN hC cn_X2_52 kc_X8_cellOf (s_X8_cellOf rfl (by decide) (by omega)) rfl (by decide) rfl (Nat.le_of_ble_eq_true rfl) (pc := 78) dX2_walk_78 ?_
              refine wm_iconst hC (pc := 81) dX2_walk_81 ?_
              refine wm_icmp_ne hC 101 (pc := 82) dX2_walk_82 (by decide) (by rw [if_pos (show 0 ≤ (nxF togS w p q) (bP (inn (nxF togS w p q) (bfsN (nxF togS w p q) at_) at_ k) at_) k ∧ (nxF togS w p q) (bP (inn (nxF togS w p q) (bfsN (nxF togS w p q) at_) at_ k) at_) k < ((64 : Nat) : Int) by omega), hA2.2.2 _ (by omega) (by omega)]; have := hB2.2.2.2.1 ((nxF togS w p q) (bP (inn (nxF togS w p q) (bfsN (nxF togS w p q) at_) at_ k) at_) k) (by omega) (by omega); omega) (by omega) (fun h82 => ?_) (fun h82 => ?_)
              · rw [if_pos (by omega), hA2.2.2 _ (by omega) (by omega)] at h82
                have hW3 : walkI w u2 25 26 27 28 29 30 p q (inn (nxF togS w p q) (bfsN (nxF togS w p q) at_) at_ (k + 1)) := by
                  have e : inn (nxF togS w p q) (bfsN (nxF togS w p q) at_) at_ (k + 1) = (inn (nxF togS w p q) (bfsN (nxF togS w p q) at_) at_ k) := if_pos (Or.inr h82)
                  rw [e]; exact hW2
                refine wm_iinc hC (pc := 101) dX2_walk_101 rfl rfl (by decide) rfl ?_
                refine wm_goto hC 50 (pc := 104) dX2_walk_104 (by decide) ?_
                exact ih _ (by omega) (k + 1) _ _ ⟨rfl, rfl⟩ rfl (by omega) hW3
              · rw [if_pos (by omega), hA2.2.2 _ (by omega) (by omega)] at h82
                have hlt := hB2.lt (t := (nxF togS w p q) (bP (inn (nxF togS w p q) (bfsN (nxF togS w p q) at_) at_ k) at_) k) (by omega) (by omega) h82
                have hn7 := hA2.1
                refine wm_aload_n hC 0 (pc := 85) dX2_walk_85 rfl rfl ?_
                refine wm_iload hC  (pc := 86) dX2_walk_86 rfl ?_
                refine wm_aload_n hC 0 (pc := 88) dX2_walk_88 rfl rfl ?_
                refine wm_iload_n hC 3 (pc := 89) dX2_walk_89 rfl rfl ?_
                refine wm_pU hC cu_X2_56_X6 kc_X2_lengthOf rfl rfl (s_X2_lengthOf_X6 hPS ⟨by omega, by omega⟩) rfl (by decide) rfl (Nat.le_of_ble_eq_true rfl) (pc := 90) dX2_walk_90 ?_
                refine wm_iconst hC (pc := 93) dX2_walk_93 ?_
                refine wm_iadd hC (pc := 94) dX2_walk_94 ?_
                refine wm_iload_n hC 3 (pc := 95) dX2_walk_95 rfl rfl ?_
                refine wm_iload hC  (pc := 96) dX2_walk_96 rfl ?_
                refine wm_vU hC cu_X2_44_X6 kc_X2_add rfl rfl (s_X2_add_X6 (by omega) (by omega)) rfl (by decide) rfl (Nat.le_of_ble_eq_true rfl) (pc := 98) dX2_walk_98 (fun w98 hw98 => ?_)
                subst hw98
                have e : inn (nxF togS w p q) (bfsN (nxF togS w p q) at_) at_ (k + 1) = addB (inn (nxF togS w p q) (bfsN (nxF togS w p q) at_) at_ k) ((nxF togS w p q) (bP (inn (nxF togS w p q) (bfsN (nxF togS w p q) at_) at_ k) at_) k) (bL (inn (nxF togS w p q) (bfsN (nxF togS w p q) at_) at_ k) at_ + 1) at_ k := if_neg (fun hh => by
                  rcases hh with hh | hh
                  · exact h69 hh
                  · exact hh h82)
                have hW3 : walkI w (addW u2 25 26 27 28 29 30 ((nxF togS w p q) (bP (inn (nxF togS w p q) (bfsN (nxF togS w p q) at_) at_ k) at_) k) (bL (inn (nxF togS w p q) (bfsN (nxF togS w p q) at_) at_ k) at_ + 1) at_ k) 25 26 27 28 29 30 p q (inn (nxF togS w p q) (bfsN (nxF togS w p q) at_) at_ (k + 1)) := by
                  rw [e]
                  refine ⟨fun a ha => ?_, by simp [addW, mup, h52], by simp [addW, mup, h62], agr_add hA2 (by simp [addW, mup]) (fun i => by simp [addW, mup]) (fun i => by simp [addW, mup]) (fun i => by simp [addW, mup]) (fun i => by simp [addW, mup]) (fun i => by simp [addW, mup])⟩
                  unfold addW
                  rw [mup_ne (by omega), mup_ne (by omega), mup_ne (by omega), mup_ne (by omega), mup_ne (by omega), mup_ne (by omega)]
                  exact hK2 a ha
                refine wm_iinc hC (pc := 101) dX2_walk_101 rfl rfl (by decide) rfl ?_
                refine wm_goto hC 50 (pc := 104) dX2_walk_104 (by decide) ?_
                exact ih _ (by omega) (k + 1) _ _ ⟨rfl, rfl⟩ rfl (by omega) hW3
        exact lp50 _ 0 u _ ⟨rfl, rfl⟩ rfl (by omega) hW
  exact lp33 _ 0 _ none none rfl (by omega) (walk0_25 w p q)
