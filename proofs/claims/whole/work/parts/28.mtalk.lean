/-! the reference: what is told of talks, how many there are -/
/-- the reference's known ones over a list of pairs, as far as it goes -/
def RKw (U : mW) (P Q : Nat) (B : Bf) (u : mW) : Prop := ∃ w : mW, WInv w u (posF togT U P Q B) (endB U P Q B) (bN B) ∧ Done u (posF togT U P Q B) (bN B) (-1)
def RTk (U : mW) (P Q : Nat) (c z : Int) : Prop := ∀ B : Bf, B = bT U P Q → (c = 0 → z = (bN B : Int)) ∧ (c = 1 → z = ((cnt (fun i => decide (¬ rsnB rsnT U P Q B i = 0)) (bN B) : Nat) : Int)) ∧ (c = 2 → z = ((cnt (fun i => endB U P Q B i) (bN B) : Nat) : Int)) ∧ (c = 3 → ∃ u, RKw U P Q B u ∧ z = if KC u (bN B) = bN B then 0 else 1) ∧ (c = 4 → z = if fewB U P Q B = -1 then -1000004 else fewB U P Q B) ∧ (c = 5 → z = ((wor (fun i : Nat => 2 ^ (bP B i / 8).toNat) (bN B) : Nat) : Int)) ∧ (c = 6 → z = ((wor (fun i : Nat => 2 ^ (bP B i % 8).toNat) (bN B) : Nat) : Int))
def RTs (U : mW) (P Q : Nat) (z : Int) : Prop := ∀ B : Bf, B = bT U P Q → ∃ u, RKw U P Q B u ∧ z = if KC u (bN B) = bN B then (if 1000000000000000 < u 41 0 then -1000003 else u 41 0) else -1000002
theorem WInv.keep {w v u : mW} {sx : Int → Int → Int} {en : Int → Bool} {n : Int} (h : WInv v u sx en n) (hk : rkeep w v) : rkeep w u :=
  ⟨fun a h1 h2 => (h.1 a (by omega) (by omega)).trans (hk.1 a h1 h2), fun b hb => by rw [h.1 31 (by decide) (by decide)]; exact hk.2 b hb⟩
set_option maxRecDepth 100000 in
set_option maxHeartbeats 400000 in
theorem s_X9_talk {l : Launch} {G : mG} {w : mW} {a b c : Int} (hI : RInv w) (ha : -2147483648 ≤ a ∧ a < 2147483648) (hb : -2147483648 ≤ b ∧ b < 2147483648) (hc : -2147483648 ≤ c ∧ c < 2147483648) : Mx l G 7 yX9_talk cX9_talk 4 (some .int) [mvR 31, mvI a, mvI b, mvI c] w (qI (fun z w' => (¬ (0 ≤ a ∧ a < 3 ∧ 0 ≤ b ∧ b < 3 ∧ 0 ≤ c ∧ c ≤ 6) ∧ z = -1000001 ∧ w' = w) ∨ ((0 ≤ a ∧ a < 3 ∧ 0 ≤ b ∧ b < 3 ∧ 0 ≤ c ∧ c ≤ 6) ∧ RTk (rv w) (2 * a.toNat + 1) (2 * b.toNat + 1) c z ∧ rkeep w w'))) := by
  refine Mx.intro (by decide) RX9 rfl [some (mvR 31), some (mvI a), some (mvI b), some (mvI c)] (Nat.le_of_ble_eq_true rfl) rfl (fun K hC => ?_)
  refine wm_iload_n hC 1 (pc := 0) dX9_talk_0 rfl rfl ?_
  refine wm_pS hC cs_X9_74 kc_X9_isPlan (s_X9_isPlan (by omega)) rfl (by decide) rfl (Nat.le_of_ble_eq_true rfl) (pc := 1) dX9_talk_1 ?_
  refine wm_ifd_eq hC 24 (pc := 4) dX9_talk_4 (by decide) (fun h4 => ?_) (fun h4 => ?_)
  · refine wm_ldc hC (-1000001) kI_X9_81 (pc := 24) dX9_talk_24 ?_
    refine wm_iretI hC (pc := 26) dX9_talk_26 ?_
    left
    exact ⟨by omega, rfl, rfl⟩
  · refine wm_iload_n hC 2 (pc := 7) dX9_talk_7 rfl rfl ?_
    refine wm_pS hC cs_X9_74 kc_X9_isPlan (s_X9_isPlan (by omega)) rfl (by decide) rfl (Nat.le_of_ble_eq_true rfl) (pc := 8) dX9_talk_8 ?_
    refine wm_ifd_eq hC 24 (pc := 11) dX9_talk_11 (by decide) (fun h11 => ?_) (fun h11 => ?_)
    · refine wm_ldc hC (-1000001) kI_X9_81 (pc := 24) dX9_talk_24 ?_
      refine wm_iretI hC (pc := 26) dX9_talk_26 ?_
      left
      exact ⟨by omega, rfl, rfl⟩
    · refine wm_iload_n hC 3 (pc := 14) dX9_talk_14 rfl rfl ?_
      refine wm_iconst hC (pc := 15) dX9_talk_15 ?_
      refine wm_bipush hC (pc := 16) dX9_talk_16 (by decide) ?_
      refine wm_pS hC cs_X9_59 kc_X9_in (s_X9_in (by omega) (by omega) (by omega)) rfl (by decide) rfl (Nat.le_of_ble_eq_true rfl) (pc := 18) dX9_talk_18 ?_
      refine wm_ifd_ne hC 27 (pc := 21) dX9_talk_21 (by decide) (fun h21 => ?_) (fun h21 => ?_)
      · obtain ⟨p, rfl⟩ : ∃ p : Nat, a = (p : Int) := ⟨a.toNat, by omega⟩
        have hp : p < 3 := by omega
        obtain ⟨q, rfl⟩ : ∃ q : Nat, b = (q : Int) := ⟨b.toNat, by omega⟩
        have hq : q < 3 := by omega
        refine wm_aload_n hC 0 (pc := 27) dX9_talk_27 rfl rfl ?_
        refine wm_iload_n hC 1 (pc := 28) dX9_talk_28 rfl rfl ?_
        refine wm_iload_n hC 2 (pc := 29) dX9_talk_29 rfl rfl ?_
        refine wm_iconst hC (pc := 30) dX9_talk_30 ?_
        refine wm_vV hC cv_X9_154 kc_X9_goThrough rfl rfl (s_X9_goThrough hp hq hI.1 (tk := true)) rfl (by decide) rfl (Nat.le_of_ble_eq_true rfl) (pc := 31) dX9_talk_31 (fun w31 hw31 => ?_)
        have hS := hw31.stT hI.1 hp hq
        have hX := sxC_pos (hI.1.ok hp) (hI.1.ok hq)
        have hk := hw31.keep
        have ev : rv w31 = rv w := rv_congr (rwalk_keep hw31)
        clear hw31
        obtain ⟨B, hB0⟩ : ∃ B, B = bT (rv w) (2 * p + 1) (2 * q + 1) := ⟨_, rfl⟩
        rw [← hB0] at hS hX
        have hle := hS.2.2.2.2.le
        have h1le := hS.2.2.2.2.1
        refine wm_iload_n hC 3 (pc := 34) dX9_talk_34 rfl rfl ?_
        by_cases sw35_0 : c = 0
        · refine wm_tableIn hC 68 (0) (pc := 35) dX9_talk_35 sw35_0 (by decide) rfl (by decide) ?_
          refine wm_aload_n hC 0 (pc := 68) dX9_talk_68 rfl rfl ?_
          refine wm_getI hC 31 11 fl_X9_122_8 rfl rfl rfl (pc := 69) dX9_talk_69 ?_
          rw [hS.2.2.2.1.1]
          refine wm_iretI hC (pc := 72) dX9_talk_72 ?_
          right
          refine ⟨by omega, ?_, hk⟩
          rw [Int.toNat_natCast p, Int.toNat_natCast q]
          intro B1 hB1
          rw [hB1.trans hB0.symm]
          exact ⟨(fun _ => rfl), (fun h => by omega), (fun h => by omega), (fun h => by omega), (fun h => by omega), (fun h => by omega), (fun h => by omega)⟩
        by_cases sw35_1 : c = 1
        · refine wm_tableIn hC 73 (1) (pc := 35) dX9_talk_35 sw35_1 (by decide) rfl (by decide) ?_
          refine wm_aload_n hC 0 (pc := 73) dX9_talk_73 rfl rfl ?_
          refine wm_iload_n hC 1 (pc := 74) dX9_talk_74 rfl rfl ?_
          refine wm_iload_n hC 2 (pc := 75) dX9_talk_75 rfl rfl ?_
          refine wm_pV hC cv_X9_174 kc_X9_stuckOnes rfl rfl (s_X9_stuckOnes hS) rfl (by decide) rfl (Nat.le_of_ble_eq_true rfl) (pc := 76) dX9_talk_76 ?_
          refine wm_iretI hC (pc := 79) dX9_talk_79 ?_
          right
          refine ⟨by omega, ?_, hk⟩
          rw [Int.toNat_natCast p, Int.toNat_natCast q]
          intro B1 hB1
          rw [hB1.trans hB0.symm]
          exact ⟨(fun h => by omega), (fun _ => by rw [ev]), (fun h => by omega), (fun h => by omega), (fun h => by omega), (fun h => by omega), (fun h => by omega)⟩
        by_cases sw35_2 : c = 2
        · refine wm_tableIn hC 80 (2) (pc := 35) dX9_talk_35 sw35_2 (by decide) rfl (by decide) ?_
          refine wm_aload_n hC 0 (pc := 80) dX9_talk_80 rfl rfl ?_
          refine wm_iload_n hC 1 (pc := 81) dX9_talk_81 rfl rfl ?_
          refine wm_iload_n hC 2 (pc := 82) dX9_talk_82 rfl rfl ?_
          refine wm_pV hC cv_X9_177 kc_X9_ends rfl rfl (s_X9_ends hS) rfl (by decide) rfl (Nat.le_of_ble_eq_true rfl) (pc := 83) dX9_talk_83 ?_
          refine wm_iretI hC (pc := 86) dX9_talk_86 ?_
          right
          refine ⟨by omega, ?_, hk⟩
          rw [Int.toNat_natCast p, Int.toNat_natCast q]
          intro B1 hB1
          rw [hB1.trans hB0.symm]
          exact ⟨(fun h => by omega), (fun h => by omega), (fun _ => by rw [ev]), (fun h => by omega), (fun h => by omega), (fun h => by omega), (fun h => by omega)⟩
        by_cases sw35_3 : c = 3
        · refine wm_tableIn hC 87 (3) (pc := 35) dX9_talk_35 sw35_3 (by decide) rfl (by decide) ?_
          refine wm_aload_n hC 0 (pc := 87) dX9_talk_87 rfl rfl ?_
          refine wm_iload_n hC 1 (pc := 88) dX9_talk_88 rfl rfl ?_
          refine wm_iload_n hC 2 (pc := 89) dX9_talk_89 rfl rfl ?_
          refine wm_iV hC cv_X9_180 kc_X9_countsAll rfl rfl (s_X9_countsAll hS (by rw [ev]; exact hX)) rfl (by decide) rfl (Nat.le_of_ble_eq_true rfl) (pc := 90) dX9_talk_90 (fun z90 w90 hw90 => ?_)
          obtain ⟨hz90, hW90, hD90⟩ := hw90
          rw [hz90]
          have hk90 := hW90.keep hk
          rw [ev] at hW90 hD90
          refine wm_ifb_eq hC 100 (pc := 93) dX9_talk_93 (by decide) (fun h93 => ?_) (fun h93 => ?_)
          · refine wm_iconst hC (pc := 100) dX9_talk_100 ?_
            refine wm_iretI hC (pc := 101) dX9_talk_101 ?_
            first | (have hkk : KC w90 (bN B) = bN B := of_decide_eq_true h93) | (have hkk : ¬ KC w90 (bN B) = bN B := of_decide_eq_false h93)
            right
            refine ⟨by omega, ?_, hk90⟩
            rw [Int.toNat_natCast p, Int.toNat_natCast q]
            intro B1 hB1
            rw [hB1.trans hB0.symm]
            exact ⟨(fun h => by omega), (fun h => by omega), (fun h => by omega), (fun _ => ⟨w90, ⟨_, hW90, hD90⟩, by first | rw [if_pos hkk] | rw [if_neg hkk]⟩), (fun h => by omega), (fun h => by omega), (fun h => by omega)⟩
          · refine wm_iconst hC (pc := 96) dX9_talk_96 ?_
            refine wm_goto hC 101 (pc := 97) dX9_talk_97 (by decide) ?_
            refine wm_iretI hC (pc := 101) dX9_talk_101 ?_
            first | (have hkk : KC w90 (bN B) = bN B := of_decide_eq_true h93) | (have hkk : ¬ KC w90 (bN B) = bN B := of_decide_eq_false h93)
            right
            refine ⟨by omega, ?_, hk90⟩
            rw [Int.toNat_natCast p, Int.toNat_natCast q]
            intro B1 hB1
            rw [hB1.trans hB0.symm]
            exact ⟨(fun h => by omega), (fun h => by omega), (fun h => by omega), (fun _ => ⟨w90, ⟨_, hW90, hD90⟩, by first | rw [if_pos hkk] | rw [if_neg hkk]⟩), (fun h => by omega), (fun h => by omega), (fun h => by omega)⟩
        by_cases sw35_4 : c = 4
        · refine wm_tableIn hC 102 (4) (pc := 35) dX9_talk_35 sw35_4 (by decide) rfl (by decide) ?_
          refine wm_aload_n hC 0 (pc := 102) dX9_talk_102 rfl rfl ?_
          refine wm_iload_n hC 1 (pc := 103) dX9_talk_103 rfl rfl ?_
          refine wm_iload_n hC 2 (pc := 104) dX9_talk_104 rfl rfl ?_
          refine wm_pV hC cv_X9_183 kc_X9_fewest rfl rfl (s_X9_fewest hS) rfl (by decide) rfl (Nat.le_of_ble_eq_true rfl) (pc := 105) dX9_talk_105 ?_
          refine wm_iretI hC (pc := 108) dX9_talk_108 ?_
          right
          refine ⟨by omega, ?_, hk⟩
          rw [Int.toNat_natCast p, Int.toNat_natCast q]
          intro B1 hB1
          rw [hB1.trans hB0.symm]
          exact ⟨(fun h => by omega), (fun h => by omega), (fun h => by omega), (fun h => by omega), (fun _ => by rw [ev]), (fun h => by omega), (fun h => by omega)⟩
        refine wm_tableOut hC 109 (pc := 35) dX9_talk_35 (by decide) (by omega) (by omega) ?_
        refine wm_aload_n hC 0 (pc := 109) dX9_talk_109 rfl rfl ?_
        refine wm_iload_n hC 3 (pc := 110) dX9_talk_110 rfl rfl ?_
        refine wm_iconst hC (pc := 111) dX9_talk_111 ?_
        refine wm_icmp_ne hC 119 (pc := 112) dX9_talk_112 (by decide) (by omega) (by omega) (fun h112 => ?_) (fun h112 => ?_)
        · refine wm_iconst hC (pc := 119) dX9_talk_119 ?_
          first | refine wm_pV hC cv_X9_186 kc_X9_comeTo rfl rfl (s_X9_comeTo_1 hS) rfl (by decide) rfl (Nat.le_of_ble_eq_true rfl) (pc := 120) dX9_talk_120 ?_ | refine wm_pV hC cv_X9_186 kc_X9_comeTo rfl rfl (s_X9_comeTo_0 hS) rfl (by decide) rfl (Nat.le_of_ble_eq_true rfl) (pc := 120) dX9_talk_120 ?_
          refine wm_iretI hC (pc := 123) dX9_talk_123 ?_
          by_cases hc5 : c = 5
          · first
            | exact absurd hc5 h112
            | (right
               refine ⟨by omega, ?_, hk⟩
               rw [Int.toNat_natCast p, Int.toNat_natCast q]
               intro B1 hB1
               rw [hB1.trans hB0.symm]
               exact ⟨(fun h => by omega), (fun h => by omega), (fun h => by omega), (fun h => by omega), (fun h => by omega), (fun _ => rfl), (fun h => by omega)⟩)
          · first
            | exact absurd h112 hc5
            | (right
               refine ⟨by omega, ?_, hk⟩
               rw [Int.toNat_natCast p, Int.toNat_natCast q]
               intro B1 hB1
               rw [hB1.trans hB0.symm]
               exact ⟨(fun h => by omega), (fun h => by omega), (fun h => by omega), (fun h => by omega), (fun h => by omega), (fun h => by omega), (fun _ => rfl)⟩)
        · refine wm_iconst hC (pc := 115) dX9_talk_115 ?_
          refine wm_goto hC 120 (pc := 116) dX9_talk_116 (by decide) ?_
          first | refine wm_pV hC cv_X9_186 kc_X9_comeTo rfl rfl (s_X9_comeTo_1 hS) rfl (by decide) rfl (Nat.le_of_ble_eq_true rfl) (pc := 120) dX9_talk_120 ?_ | refine wm_pV hC cv_X9_186 kc_X9_comeTo rfl rfl (s_X9_comeTo_0 hS) rfl (by decide) rfl (Nat.le_of_ble_eq_true rfl) (pc := 120) dX9_talk_120 ?_
          refine wm_iretI hC (pc := 123) dX9_talk_123 ?_
          by_cases hc5 : c = 5
          · first
            | exact absurd hc5 h112
            | (right
               refine ⟨by omega, ?_, hk⟩
               rw [Int.toNat_natCast p, Int.toNat_natCast q]
               intro B1 hB1
               rw [hB1.trans hB0.symm]
               exact ⟨(fun h => by omega), (fun h => by omega), (fun h => by omega), (fun h => by omega), (fun h => by omega), (fun _ => rfl), (fun h => by omega)⟩)
          · first
            | exact absurd h112 hc5
            | (right
               refine ⟨by omega, ?_, hk⟩
               rw [Int.toNat_natCast p, Int.toNat_natCast q]
               intro B1 hB1
               rw [hB1.trans hB0.symm]
               exact ⟨(fun h => by omega), (fun h => by omega), (fun h => by omega), (fun h => by omega), (fun h => by omega), (fun h => by omega), (fun _ => rfl)⟩)
      · refine wm_ldc hC (-1000001) kI_X9_81 (pc := 24) dX9_talk_24 ?_
        refine wm_iretI hC (pc := 26) dX9_talk_26 ?_
        left
        exact ⟨by omega, rfl, rfl⟩
set_option maxRecDepth 100000 in
set_option maxHeartbeats 400000 in
theorem s_X9_talks {l : Launch} {G : mG} {w : mW} {a b : Int} (hI : RInv w) (ha : -2147483648 ≤ a ∧ a < 2147483648) (hb : -2147483648 ≤ b ∧ b < 2147483648) : Mx l G 7 yX9_talks cX9_talks 3 (some .long) [mvR 31, mvI a, mvI b] w (qJ (fun z w' => (¬ (0 ≤ a ∧ a < 3 ∧ 0 ≤ b ∧ b < 3) ∧ z = -1000001 ∧ w' = w) ∨ ((0 ≤ a ∧ a < 3 ∧ 0 ≤ b ∧ b < 3) ∧ RTs (rv w) (2 * a.toNat + 1) (2 * b.toNat + 1) z ∧ rkeep w w'))) := by
  refine Mx.intro (by decide) RX9 rfl [some (mvR 31), some (mvI a), some (mvI b)] (Nat.le_of_ble_eq_true rfl) rfl (fun K hC => ?_)
  refine wm_iload_n hC 1 (pc := 0) dX9_talks_0 rfl rfl ?_
  refine wm_pS hC cs_X9_74 kc_X9_isPlan (s_X9_isPlan (by omega)) rfl (by decide) rfl (Nat.le_of_ble_eq_true rfl) (pc := 1) dX9_talks_1 ?_
  refine wm_ifd_eq hC 14 (pc := 4) dX9_talks_4 (by decide) (fun h4 => ?_) (fun h4 => ?_)
  · refine wm_ldc2 hC (-1000001) kJ_X9_190 (pc := 14) dX9_talks_14 ?_
    refine wm_lretJ hC (pc := 17) dX9_talks_17 ?_
    left
    exact ⟨by omega, rfl, rfl⟩
  · refine wm_iload_n hC 2 (pc := 7) dX9_talks_7 rfl rfl ?_
    refine wm_pS hC cs_X9_74 kc_X9_isPlan (s_X9_isPlan (by omega)) rfl (by decide) rfl (Nat.le_of_ble_eq_true rfl) (pc := 8) dX9_talks_8 ?_
    refine wm_ifd_ne hC 18 (pc := 11) dX9_talks_11 (by decide) (fun h11 => ?_) (fun h11 => ?_)
    · obtain ⟨p, rfl⟩ : ∃ p : Nat, a = (p : Int) := ⟨a.toNat, by omega⟩
      have hp : p < 3 := by omega
      obtain ⟨q, rfl⟩ : ∃ q : Nat, b = (q : Int) := ⟨b.toNat, by omega⟩
      have hq : q < 3 := by omega
      refine wm_aload_n hC 0 (pc := 18) dX9_talks_18 rfl rfl ?_
      refine wm_iload_n hC 1 (pc := 19) dX9_talks_19 rfl rfl ?_
      refine wm_iload_n hC 2 (pc := 20) dX9_talks_20 rfl rfl ?_
      refine wm_iconst hC (pc := 21) dX9_talks_21 ?_
      refine wm_vV hC cv_X9_154 kc_X9_goThrough rfl rfl (s_X9_goThrough hp hq hI.1 (tk := true)) rfl (by decide) rfl (Nat.le_of_ble_eq_true rfl) (pc := 22) dX9_talks_22 (fun w22 hw22 => ?_)
      have hS := hw22.stT hI.1 hp hq
      have hX := sxC_pos (hI.1.ok hp) (hI.1.ok hq)
      have hk := hw22.keep
      have ev : rv w22 = rv w := rv_congr (rwalk_keep hw22)
      clear hw22
      obtain ⟨B, hB0⟩ : ∃ B, B = bT (rv w) (2 * p + 1) (2 * q + 1) := ⟨_, rfl⟩
      rw [← hB0] at hS hX
      have hle := hS.2.2.2.2.le
      have h1le := hS.2.2.2.2.1
      refine wm_aload_n hC 0 (pc := 25) dX9_talks_25 rfl rfl ?_
      refine wm_iload_n hC 1 (pc := 26) dX9_talks_26 rfl rfl ?_
      refine wm_iload_n hC 2 (pc := 27) dX9_talks_27 rfl rfl ?_
      refine wm_iV hC cv_X9_180 kc_X9_countsAll rfl rfl (s_X9_countsAll hS (by rw [ev]; exact hX)) rfl (by decide) rfl (Nat.le_of_ble_eq_true rfl) (pc := 28) dX9_talks_28 (fun z28 w28 hw28 => ?_)
      obtain ⟨hz28, hW28, hD28⟩ := hw28
      rw [hz28]
      have hk28 := hW28.keep hk
      rw [ev] at hW28 hD28
      have hr41 := (hW28.2.1 0 (by omega) (by omega)).2
      refine wm_ifb_ne hC 38 (pc := 31) dX9_talks_31 (by decide) (fun h31 => ?_) (fun h31 => ?_)
      · have hkk : KC w28 (bN B) = bN B := of_decide_eq_true h31
        refine wm_aload_n hC 0 (pc := 38) dX9_talks_38 rfl rfl ?_
        refine wm_getR hC fl_X9_38_8 rfl rfl (pc := 39) dX9_talks_39 ?_
        refine wm_iconst hC (pc := 42) dX9_talks_42 ?_
        refine wm_laload hC rfl (by omega) (by decide) (pc := 43) dX9_talks_43 ?_
        refine wm_ldc2 hC (1000000000000000) kJ_X9_167 (pc := 44) dX9_talks_44 ?_
        refine wm_lcmp hC (pc := 47) dX9_talks_47 (by omega) (by omega) ?_
        refine wm_if_le hC 57 (pc := 48) dX9_talks_48 (by decide) (by unfold mcmp; (repeat' split) <;> omega) (fun h48 => ?_) (fun h48 => ?_)
        · have hle2 : ¬ 1000000000000000 < w28 41 0 := by unfold mcmp at h48; (repeat' split at h48) <;> omega
          refine wm_aload_n hC 0 (pc := 57) dX9_talks_57 rfl rfl ?_
          refine wm_getR hC fl_X9_38_8 rfl rfl (pc := 58) dX9_talks_58 ?_
          refine wm_iconst hC (pc := 61) dX9_talks_61 ?_
          refine wm_laload hC rfl (by omega) (by decide) (pc := 62) dX9_talks_62 ?_
          refine wm_lretJ hC (pc := 63) dX9_talks_63 ?_
          right
          refine ⟨by omega, ?_, hk28⟩
          rw [Int.toNat_natCast p, Int.toNat_natCast q]
          intro B1 hB1
          rw [hB1.trans hB0.symm]
          exact ⟨w28, ⟨_, hW28, hD28⟩, by first | rw [if_pos hkk, if_pos hgt] | rw [if_pos hkk, if_neg hle2]⟩
        · have hgt : 1000000000000000 < w28 41 0 := by unfold mcmp at h48; (repeat' split at h48) <;> omega
          refine wm_ldc2 hC (-1000003) kJ_X9_194 (pc := 51) dX9_talks_51 ?_
          refine wm_goto hC 63 (pc := 54) dX9_talks_54 (by decide) ?_
          refine wm_lretJ hC (pc := 63) dX9_talks_63 ?_
          right
          refine ⟨by omega, ?_, hk28⟩
          rw [Int.toNat_natCast p, Int.toNat_natCast q]
          intro B1 hB1
          rw [hB1.trans hB0.symm]
          exact ⟨w28, ⟨_, hW28, hD28⟩, by first | rw [if_pos hkk, if_pos hgt] | rw [if_pos hkk, if_neg hle2]⟩
      · have hkk : ¬ KC w28 (bN B) = bN B := of_decide_eq_false h31
        refine wm_ldc2 hC (-1000002) kJ_X9_192 (pc := 34) dX9_talks_34 ?_
        refine wm_lretJ hC (pc := 37) dX9_talks_37 ?_
        right
        refine ⟨by omega, ?_, hk28⟩
        rw [Int.toNat_natCast p, Int.toNat_natCast q]
        intro B1 hB1
        rw [hB1.trans hB0.symm]
        exact ⟨w28, ⟨_, hW28, hD28⟩, by rw [if_neg hkk]⟩
    · refine wm_ldc2 hC (-1000001) kJ_X9_190 (pc := 14) dX9_talks_14 ?_
      refine wm_lretJ hC (pc := 17) dX9_talks_17 ?_
      left
      exact ⟨by omega, rfl, rfl⟩
