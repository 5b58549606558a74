/-! LEAVES of MirroredTalks; the plans -/
theorem wm_ifd_eq {l : Launch} {G : mG} {K : mK} {d nL : Nat} {own : String} {cc : ByteArray} {ret : Option FieldType} {Q : Option mV → mW → Prop} {pc : Nat} {L : List (Option mV)} {st : List mV} {w : mW} (hC : mC G K nL own cc ret) (tgt : Nat) {P : Prop} [Decidable P] {off : Int} (hdg : decode cc pc = .ok (.ifCond .eq off, 3)) (hoff : (pc : Int) + off = (tgt : Int)) (ht : ¬ P → Wm l G K d nL Q tgt L st w) (hf : P → Wm l G K d nL Q (pc + 3) L st w) : Wm l G K d nL Q pc L (mvI (mb (decide P)) :: st) w :=
  wm_ifb_eq hC tgt hdg hoff (fun h => ht (of_decide_eq_false h)) (fun h => hf (of_decide_eq_true h))
theorem wm_ifd_ne {l : Launch} {G : mG} {K : mK} {d nL : Nat} {own : String} {cc : ByteArray} {ret : Option FieldType} {Q : Option mV → mW → Prop} {pc : Nat} {L : List (Option mV)} {st : List mV} {w : mW} (hC : mC G K nL own cc ret) (tgt : Nat) {P : Prop} [Decidable P] {off : Int} (hdg : decode cc pc = .ok (.ifCond .ne off, 3)) (hoff : (pc : Int) + off = (tgt : Int)) (ht : P → Wm l G K d nL Q tgt L st w) (hf : ¬ P → Wm l G K d nL Q (pc + 3) L st w) : Wm l G K d nL Q pc L (mvI (mb (decide P)) :: st) w :=
  wm_ifb_ne hC tgt hdg hoff (fun h => ht (of_decide_eq_true h)) (fun h => hf (of_decide_eq_false h))
/-- sets as bits -/
def wmask (f : Nat → Bool) : Nat → Nat
  | 0 => 0
  | n + 1 => if f n then wmask f n ||| 2 ^ n else wmask f n
def wor (f : Nat → Nat) : Nat → Nat
  | 0 => 0
  | n + 1 => wor f n ||| f n
theorem wmask_lt (f : Nat → Bool) : ∀ n, wmask f n < 2 ^ n
  | 0 => Nat.one_pos
  | n + 1 => by
    have h := wmask_lt f n
    have h2 : 2 ^ (n + 1) = 2 ^ n * 2 := Nat.pow_succ 2 n
    unfold wmask
    split
    · exact Nat.or_lt_two_pow (by omega) (by omega)
    · omega
theorem wor_lt (f : Nat → Nat) (b : Nat) (hf : ∀ n, f n < 2 ^ b) : ∀ n, wor f n < 2 ^ b
  | 0 => Nat.two_pow_pos b
  | n + 1 => Nat.or_lt_two_pow (wor_lt f b hf n) (hf n)
theorem mtb (s k : Nat) : (s / 2 ^ k) &&& 1 = (s.testBit k).toNat := by
  rw [Nat.and_one_is_mod, Nat.testBit_eq_decide_div_mod_eq]
  rcases Nat.mod_two_eq_zero_or_one (s / 2 ^ k) with h | h <;> simp [h]
set_option maxRecDepth 100000 in
set_option maxHeartbeats 4000000 in
theorem s_X8_isPlan {l : Launch} {G : mG} {w : mW} {z : Int} (hz : -2147483648 ≤ z ∧ z < 2147483648) : Mx l G 0 yX8_isPlan cX8_isPlan 1 (some .boolean) [mvI z] w (qP (mvI (mb (decide (0 ≤ z ∧ z < 3)))) w) := by
  refine Mx.intro (by decide) RX8 rfl [some (mvI z)] (Nat.le_of_ble_eq_true rfl) rfl (fun K hC => ?_)
  refine wm_iload_n hC 0 (pc := 0) dX8_isPlan_0 rfl rfl ?_
  refine wm_if_lt hC 13 (pc := 1) dX8_isPlan_1 (by decide) (by omega) (fun h1 => ?_) (fun h1 => ?_)
  · refine wm_iconst hC (pc := 13) dX8_isPlan_13 ?_
    refine wm_zretP hC (pc := 14) dX8_isPlan_14 ?_ rfl
    first | exact ((mb_0 _).mpr (decide_eq_false (by omega))).symm | exact ((mb_1 _).mpr (decide_eq_true (by omega))).symm
  · refine wm_iload_n hC 0 (pc := 4) dX8_isPlan_4 rfl rfl ?_
    refine wm_iconst hC (pc := 5) dX8_isPlan_5 ?_
    refine wm_icmp_ge hC 13 (pc := 6) dX8_isPlan_6 (by decide) (by omega) (by omega) (fun h6 => ?_) (fun h6 => ?_)
    · refine wm_iconst hC (pc := 13) dX8_isPlan_13 ?_
      refine wm_zretP hC (pc := 14) dX8_isPlan_14 ?_ rfl
      first | exact ((mb_0 _).mpr (decide_eq_false (by omega))).symm | exact ((mb_1 _).mpr (decide_eq_true (by omega))).symm
    · refine wm_iconst hC (pc := 9) dX8_isPlan_9 ?_
      refine wm_goto hC 14 (pc := 10) dX8_isPlan_10 (by decide) ?_
      refine wm_zretP hC (pc := 14) dX8_isPlan_14 ?_ rfl
      first | exact ((mb_0 _).mpr (decide_eq_false (by omega))).symm | exact ((mb_1 _).mpr (decide_eq_true (by omega))).symm
set_option maxRecDepth 100000 in
set_option maxHeartbeats 4000000 in
theorem s_X8_isState {l : Launch} {G : mG} {w : mW} {z : Int} (hz : -2147483648 ≤ z ∧ z < 2147483648) : Mx l G 0 yX8_isState cX8_isState 1 (some .boolean) [mvI z] w (qP (mvI (mb (decide (0 ≤ z ∧ z < 8)))) w) := by
  refine Mx.intro (by decide) RX8 rfl [some (mvI z)] (Nat.le_of_ble_eq_true rfl) rfl (fun K hC => ?_)
  refine wm_iload_n hC 0 (pc := 0) dX8_isState_0 rfl rfl ?_
  refine wm_if_lt hC 14 (pc := 1) dX8_isState_1 (by decide) (by omega) (fun h1 => ?_) (fun h1 => ?_)
  · refine wm_iconst hC (pc := 14) dX8_isState_14 ?_
    refine wm_zretP hC (pc := 15) dX8_isState_15 ?_ rfl
    first | exact ((mb_0 _).mpr (decide_eq_false (by omega))).symm | exact ((mb_1 _).mpr (decide_eq_true (by omega))).symm
  · refine wm_iload_n hC 0 (pc := 4) dX8_isState_4 rfl rfl ?_
    refine wm_bipush hC (pc := 5) dX8_isState_5 (by decide) ?_
    refine wm_icmp_ge hC 14 (pc := 7) dX8_isState_7 (by decide) (by omega) (by omega) (fun h7 => ?_) (fun h7 => ?_)
    · refine wm_iconst hC (pc := 14) dX8_isState_14 ?_
      refine wm_zretP hC (pc := 15) dX8_isState_15 ?_ rfl
      first | exact ((mb_0 _).mpr (decide_eq_false (by omega))).symm | exact ((mb_1 _).mpr (decide_eq_true (by omega))).symm
    · refine wm_iconst hC (pc := 10) dX8_isState_10 ?_
      refine wm_goto hC 15 (pc := 11) dX8_isState_11 (by decide) ?_
      refine wm_zretP hC (pc := 15) dX8_isState_15 ?_ rfl
      first | exact ((mb_0 _).mpr (decide_eq_false (by omega))).symm | exact ((mb_1 _).mpr (decide_eq_true (by omega))).symm
set_option maxRecDepth 100000 in
set_option maxHeartbeats 4000000 in
theorem s_X8_isWord {l : Launch} {G : mG} {w : mW} {z : Int} (hz : -2147483648 ≤ z ∧ z < 2147483648) : Mx l G 0 yX8_isWord cX8_isWord 1 (some .boolean) [mvI z] w (qP (mvI (mb (decide (0 ≤ z ∧ z < 6)))) w) := by
  refine Mx.intro (by decide) RX8 rfl [some (mvI z)] (Nat.le_of_ble_eq_true rfl) rfl (fun K hC => ?_)
  refine wm_iload_n hC 0 (pc := 0) dX8_isWord_0 rfl rfl ?_
  refine wm_if_lt hC 14 (pc := 1) dX8_isWord_1 (by decide) (by omega) (fun h1 => ?_) (fun h1 => ?_)
  · refine wm_iconst hC (pc := 14) dX8_isWord_14 ?_
    refine wm_zretP hC (pc := 15) dX8_isWord_15 ?_ rfl
    first | exact ((mb_0 _).mpr (decide_eq_false (by omega))).symm | exact ((mb_1 _).mpr (decide_eq_true (by omega))).symm
  · refine wm_iload_n hC 0 (pc := 4) dX8_isWord_4 rfl rfl ?_
    refine wm_bipush hC (pc := 5) dX8_isWord_5 (by decide) ?_
    refine wm_icmp_ge hC 14 (pc := 7) dX8_isWord_7 (by decide) (by omega) (by omega) (fun h7 => ?_) (fun h7 => ?_)
    · refine wm_iconst hC (pc := 14) dX8_isWord_14 ?_
      refine wm_zretP hC (pc := 15) dX8_isWord_15 ?_ rfl
      first | exact ((mb_0 _).mpr (decide_eq_false (by omega))).symm | exact ((mb_1 _).mpr (decide_eq_true (by omega))).symm
    · refine wm_iconst hC (pc := 10) dX8_isWord_10 ?_
      refine wm_goto hC 15 (pc := 11) dX8_isWord_11 (by decide) ?_
      refine wm_zretP hC (pc := 15) dX8_isWord_15 ?_ rfl
      first | exact ((mb_0 _).mpr (decide_eq_false (by omega))).symm | exact ((mb_1 _).mpr (decide_eq_true (by omega))).symm
set_option maxRecDepth 100000 in
set_option maxHeartbeats 4000000 in
theorem s_X8_isKind {l : Launch} {G : mG} {w : mW} {z : Int} (hz : -2147483648 ≤ z ∧ z < 2147483648) : Mx l G 0 yX8_isKind cX8_isKind 1 (some .boolean) [mvI z] w (qP (mvI (mb (decide (0 ≤ z ∧ z < 3)))) w) := by
  refine Mx.intro (by decide) RX8 rfl [some (mvI z)] (Nat.le_of_ble_eq_true rfl) rfl (fun K hC => ?_)
  refine wm_iload_n hC 0 (pc := 0) dX8_isKind_0 rfl rfl ?_
  refine wm_if_lt hC 13 (pc := 1) dX8_isKind_1 (by decide) (by omega) (fun h1 => ?_) (fun h1 => ?_)
  · refine wm_iconst hC (pc := 13) dX8_isKind_13 ?_
    refine wm_zretP hC (pc := 14) dX8_isKind_14 ?_ rfl
    first | exact ((mb_0 _).mpr (decide_eq_false (by omega))).symm | exact ((mb_1 _).mpr (decide_eq_true (by omega))).symm
  · refine wm_iload_n hC 0 (pc := 4) dX8_isKind_4 rfl rfl ?_
    refine wm_iconst hC (pc := 5) dX8_isKind_5 ?_
    refine wm_icmp_gt hC 13 (pc := 6) dX8_isKind_6 (by decide) (by omega) (by omega) (fun h6 => ?_) (fun h6 => ?_)
    · refine wm_iconst hC (pc := 13) dX8_isKind_13 ?_
      refine wm_zretP hC (pc := 14) dX8_isKind_14 ?_ rfl
      first | exact ((mb_0 _).mpr (decide_eq_false (by omega))).symm | exact ((mb_1 _).mpr (decide_eq_true (by omega))).symm
    · refine wm_iconst hC (pc := 9) dX8_isKind_9 ?_
      refine wm_goto hC 14 (pc := 10) dX8_isKind_10 (by decide) ?_
      refine wm_zretP hC (pc := 14) dX8_isKind_14 ?_ rfl
      first | exact ((mb_0 _).mpr (decide_eq_false (by omega))).symm | exact ((mb_1 _).mpr (decide_eq_true (by omega))).symm
set_option maxRecDepth 100000 in
set_option maxHeartbeats 4000000 in
theorem s_X8_isPairQuestion {l : Launch} {G : mG} {w : mW} {z : Int} (hz : -2147483648 ≤ z ∧ z < 2147483648) : Mx l G 0 yX8_isPairQuestion cX8_isPairQuestion 1 (some .boolean) [mvI z] w (qP (mvI (mb (decide ((0 ≤ z ∧ z ≤ 4) ∨ (10 ≤ z ∧ z < 74))))) w) := by
  refine Mx.intro (by decide) RX8 rfl [some (mvI z)] (Nat.le_of_ble_eq_true rfl) rfl (fun K hC => ?_)
  refine wm_iload_n hC 0 (pc := 0) dX8_isPairQuestion_0 rfl rfl ?_
  refine wm_if_lt hC 9 (pc := 1) dX8_isPairQuestion_1 (by decide) (by omega) (fun h1 => ?_) (fun h1 => ?_)
  · refine wm_iload_n hC 0 (pc := 9) dX8_isPairQuestion_9 rfl rfl ?_
    refine wm_bipush hC (pc := 10) dX8_isPairQuestion_10 (by decide) ?_
    refine wm_icmp_lt hC 25 (pc := 12) dX8_isPairQuestion_12 (by decide) (by omega) (by omega) (fun h12 => ?_) (fun h12 => ?_)
    · refine wm_iconst hC (pc := 25) dX8_isPairQuestion_25 ?_
      refine wm_zretP hC (pc := 26) dX8_isPairQuestion_26 ?_ rfl
      first | exact ((mb_0 _).mpr (decide_eq_false (by omega))).symm | exact ((mb_1 _).mpr (decide_eq_true (by omega))).symm
    · refine wm_iload_n hC 0 (pc := 15) dX8_isPairQuestion_15 rfl rfl ?_
      refine wm_bipush hC (pc := 16) dX8_isPairQuestion_16 (by decide) ?_
      refine wm_icmp_ge hC 25 (pc := 18) dX8_isPairQuestion_18 (by decide) (by omega) (by omega) (fun h18 => ?_) (fun h18 => ?_)
      · refine wm_iconst hC (pc := 25) dX8_isPairQuestion_25 ?_
        refine wm_zretP hC (pc := 26) dX8_isPairQuestion_26 ?_ rfl
        first | exact ((mb_0 _).mpr (decide_eq_false (by omega))).symm | exact ((mb_1 _).mpr (decide_eq_true (by omega))).symm
      · refine wm_iconst hC (pc := 21) dX8_isPairQuestion_21 ?_
        refine wm_goto hC 26 (pc := 22) dX8_isPairQuestion_22 (by decide) ?_
        refine wm_zretP hC (pc := 26) dX8_isPairQuestion_26 ?_ rfl
        first | exact ((mb_0 _).mpr (decide_eq_false (by omega))).symm | exact ((mb_1 _).mpr (decide_eq_true (by omega))).symm
  · refine wm_iload_n hC 0 (pc := 4) dX8_isPairQuestion_4 rfl rfl ?_
    refine wm_iconst hC (pc := 5) dX8_isPairQuestion_5 ?_
    refine wm_icmp_le hC 21 (pc := 6) dX8_isPairQuestion_6 (by decide) (by omega) (by omega) (fun h6 => ?_) (fun h6 => ?_)
    · refine wm_iconst hC (pc := 21) dX8_isPairQuestion_21 ?_
      refine wm_goto hC 26 (pc := 22) dX8_isPairQuestion_22 (by decide) ?_
      refine wm_zretP hC (pc := 26) dX8_isPairQuestion_26 ?_ rfl
      first | exact ((mb_0 _).mpr (decide_eq_false (by omega))).symm | exact ((mb_1 _).mpr (decide_eq_true (by omega))).symm
    · refine wm_iload_n hC 0 (pc := 9) dX8_isPairQuestion_9 rfl rfl ?_
      refine wm_bipush hC (pc := 10) dX8_isPairQuestion_10 (by decide) ?_
      refine wm_icmp_lt hC 25 (pc := 12) dX8_isPairQuestion_12 (by decide) (by omega) (by omega) (fun h12 => ?_) (fun h12 => ?_)
      · refine wm_iconst hC (pc := 25) dX8_isPairQuestion_25 ?_
        refine wm_zretP hC (pc := 26) dX8_isPairQuestion_26 ?_ rfl
        first | exact ((mb_0 _).mpr (decide_eq_false (by omega))).symm | exact ((mb_1 _).mpr (decide_eq_true (by omega))).symm
      · refine wm_iload_n hC 0 (pc := 15) dX8_isPairQuestion_15 rfl rfl ?_
        refine wm_bipush hC (pc := 16) dX8_isPairQuestion_16 (by decide) ?_
        refine wm_icmp_ge hC 25 (pc := 18) dX8_isPairQuestion_18 (by decide) (by omega) (by omega) (fun h18 => ?_) (fun h18 => ?_)
        · refine wm_iconst hC (pc := 25) dX8_isPairQuestion_25 ?_
          refine wm_zretP hC (pc := 26) dX8_isPairQuestion_26 ?_ rfl
          first | exact ((mb_0 _).mpr (decide_eq_false (by omega))).symm | exact ((mb_1 _).mpr (decide_eq_true (by omega))).symm
        · refine wm_iconst hC (pc := 21) dX8_isPairQuestion_21 ?_
          refine wm_goto hC 26 (pc := 22) dX8_isPairQuestion_22 (by decide) ?_
          refine wm_zretP hC (pc := 26) dX8_isPairQuestion_26 ?_ rfl
          first | exact ((mb_0 _).mpr (decide_eq_false (by omega))).symm | exact ((mb_1 _).mpr (decide_eq_true (by omega))).symm
set_option maxRecDepth 100000 in
set_option maxHeartbeats 4000000 in
theorem s_X8_foundOr {l : Launch} {G : mG} {w : mW} {z : Int} (hz : -2147483648 ≤ z ∧ z < 2147483648) : Mx l G 0 yX8_foundOr cX8_foundOr 1 (some .int) [mvI z] w (qP (mvI (if z = -1 then -1000004 else z)) w) := by
  refine Mx.intro (by decide) RX8 rfl [some (mvI z)] (Nat.le_of_ble_eq_true rfl) rfl (fun K hC => ?_)
  refine wm_iload_n hC 0 (pc := 0) dX8_foundOr_0 rfl rfl ?_
  refine wm_iconst hC (pc := 1) dX8_foundOr_1 ?_
  refine wm_icmp_ne hC 10 (pc := 2) dX8_foundOr_2 (by decide) (by omega) (by omega) (fun h2 => ?_) (fun h2 => ?_)
  · refine wm_iload_n hC 0 (pc := 10) dX8_foundOr_10 rfl rfl ?_
    refine wm_iretP hC (pc := 11) dX8_foundOr_11 ?_ rfl
    first | (rw [if_pos (by omega)]) | (rw [if_neg (by omega)])
  · refine wm_ldc hC (-1000004) kI_X8_151 (pc := 5) dX8_foundOr_5 ?_
    refine wm_goto hC 11 (pc := 7) dX8_foundOr_7 (by decide) ?_
    refine wm_iretP hC (pc := 11) dX8_foundOr_11 ?_ rfl
    first | (rw [if_pos (by omega)]) | (rw [if_neg (by omega)])
set_option maxRecDepth 100000 in
set_option maxHeartbeats 4000000 in
theorem s_X8_holds {l : Launch} {G : mG} {w : mW} {s j : Nat} (hs : s < 2147483648) (hj : j < 32) : Mx l G 0 yX8_holds cX8_holds 2 (some .boolean) [mvI (s : Int), mvI (j : Int)] w (qP (mvI (mb (s.testBit j))) w) := by
  refine Mx.intro (by decide) RX8 rfl [some (mvI (s : Int)), some (mvI (j : Int))] (Nat.le_of_ble_eq_true rfl) rfl (fun K hC => ?_)
  refine wm_iload_n hC 0 (pc := 0) dX8_holds_0 rfl rfl ?_
  refine wm_iload_n hC 1 (pc := 1) dX8_holds_1 rfl rfl ?_
  refine wm_ishr hC s j (pc := 2) dX8_holds_2 rfl rfl (by omega) (by omega) ?_
  refine wm_iconst hC (pc := 3) dX8_holds_3 ?_
  refine wm_iand hC _ 1 (pc := 4) dX8_holds_4 rfl rfl ?_
  refine wm_iconst hC (pc := 5) dX8_holds_5 ?_
  rw [mtb]
  have hbt : (s.testBit j).toNat < 2 := by cases s.testBit j <;> decide
  refine wm_icmp_ne hC 13 (pc := 6) dX8_holds_6 (by decide) (by omega) (by omega) (fun h6 => ?_) (fun h6 => ?_)
  · have e : s.testBit j = false := by cases hb : s.testBit j <;> simp [hb] at h6 ⊢
    refine wm_iconst hC (pc := 13) dX8_holds_13 ?_
    refine wm_zretP hC (pc := 14) dX8_holds_14 ?_ rfl
    rw [e]; rfl
  · have e : s.testBit j = true := by cases hb : s.testBit j <;> simp [hb] at h6 ⊢
    refine wm_iconst hC (pc := 9) dX8_holds_9 ?_
    refine wm_goto hC 14 (pc := 10) dX8_holds_10 (by decide) ?_
    refine wm_zretP hC (pc := 14) dX8_holds_14 ?_ rfl
    rw [e]; rfl
set_option maxRecDepth 100000 in
set_option maxHeartbeats 4000000 in
theorem s_X8_cellOf {l : Launch} {G : mG} {w : mW} {a n : Nat} {z : Int} (ha : mlays[a]? = some (.inr (0, n))) (hn : n ≤ 1000000) (hz : -2147483648 ≤ z ∧ z < 2147483648) : Mx l G 0 yX8_cellOf cX8_cellOf 2 (some .int) [mvR a, mvI z] w (qP (mvI (if 0 ≤ z ∧ z < n then w a z else -1)) w) := by
  refine Mx.intro (by decide) RX8 rfl [some (mvR a), some (mvI z)] (Nat.le_of_ble_eq_true rfl) rfl (fun K hC => ?_)
  refine wm_iload_n hC 1 (pc := 0) dX8_cellOf_0 rfl rfl ?_
  refine wm_if_lt hC 16 (pc := 1) dX8_cellOf_1 (by decide) (by omega) (fun h1 => ?_) (fun h1 => ?_)
  · refine wm_iconst hC (pc := 16) dX8_cellOf_16 ?_
    refine wm_iretP hC (pc := 17) dX8_cellOf_17 ?_ rfl
    first | (rw [if_pos (by omega)]) | (rw [if_neg (by omega)])
  · refine wm_iload_n hC 1 (pc := 4) dX8_cellOf_4 rfl rfl ?_
    refine wm_aload_n hC 0 (pc := 5) dX8_cellOf_5 rfl rfl ?_
    refine wm_alen hC (n : Int) ha rfl rfl (pc := 6) dX8_cellOf_6 ?_
    refine wm_icmp_ge hC 16 (pc := 7) dX8_cellOf_7 (by decide) (by omega) (by omega) (fun h7 => ?_) (fun h7 => ?_)
    · refine wm_iconst hC (pc := 16) dX8_cellOf_16 ?_
      refine wm_iretP hC (pc := 17) dX8_cellOf_17 ?_ rfl
      first | (rw [if_pos (by omega)]) | (rw [if_neg (by omega)])
    · refine wm_aload_n hC 0 (pc := 10) dX8_cellOf_10 rfl rfl ?_
      refine wm_iload_n hC 1 (pc := 11) dX8_cellOf_11 rfl rfl ?_
      refine wm_iaload hC ha (by omega) hn (pc := 12) dX8_cellOf_12 ?_
      refine wm_goto hC 17 (pc := 13) dX8_cellOf_13 (by decide) ?_
      refine wm_iretP hC (pc := 17) dX8_cellOf_17 ?_ rfl
      first | (rw [if_pos (by omega)]) | (rw [if_neg (by omega)])
set_option maxRecDepth 100000 in
set_option maxHeartbeats 4000000 in
theorem s_X8_planAt {l : Launch} {G : mG} {w : mW} {p : Nat} (hp : p < 3) : Mx l G 0 yX8_planAt cX8_planAt 2 (some (.object "MirroredTalks$Plan")) [mvR 0, mvI (p : Int)] w (qP (mvR (2 * p + 1)) w) := by
  refine Mx.intro (by decide) RX8 rfl [some (mvR 0), some (mvI (p : Int))] (Nat.le_of_ble_eq_true rfl) rfl (fun K hC => ?_)
  refine wm_iload_n hC 1 (pc := 0) dX8_planAt_0 rfl rfl ?_
  refine wm_if_ne hC 11 (pc := 1) dX8_planAt_1 (by decide) (by omega) (fun h1 => ?_) (fun h1 => ?_)
  · refine wm_iload_n hC 1 (pc := 11) dX8_planAt_11 rfl rfl ?_
    refine wm_iconst hC (pc := 12) dX8_planAt_12 ?_
    refine wm_icmp_ne hC 23 (pc := 13) dX8_planAt_13 (by decide) (by omega) (by omega) (fun h13 => ?_) (fun h13 => ?_)
    · obtain rfl : p = 2 := by omega
      refine wm_aload_n hC 0 (pc := 23) dX8_planAt_23 rfl rfl ?_
      refine wm_getR hC fl_X8_19_7 rfl rfl (pc := 24) dX8_planAt_24 ?_
      exact wm_aretP hC (pc := 27) dX8_planAt_27 rfl rfl
    · obtain rfl : p = 1 := by omega
      refine wm_aload_n hC 0 (pc := 16) dX8_planAt_16 rfl rfl ?_
      refine wm_getR hC fl_X8_16_7 rfl rfl (pc := 17) dX8_planAt_17 ?_
      refine wm_goto hC 27 (pc := 20) dX8_planAt_20 (by decide) ?_
      exact wm_aretP hC (pc := 27) dX8_planAt_27 rfl rfl
  · obtain rfl : p = 0 := by omega
    refine wm_aload_n hC 0 (pc := 4) dX8_planAt_4 rfl rfl ?_
    refine wm_getR hC fl_X8_10_7 rfl rfl (pc := 5) dX8_planAt_5 ?_
    refine wm_goto hC 27 (pc := 8) dX8_planAt_8 (by decide) ?_
    exact wm_aretP hC (pc := 27) dX8_planAt_27 rfl rfl
