/-! the reference: sums over pairs, counts, typing -/
set_option maxRecDepth 100000 in
set_option maxHeartbeats 400000 in
theorem s_X9_stuckOnes {l : Launch} {G : mG} {w : mW} {p q : Nat} {B : Bf} (hS : RSt2 w p q B) : Mx l G 6 yX9_stuckOnes cX9_stuckOnes 5 (some .int) [mvR 31, mvI (p : Int), mvI (q : Int)] w (qP (mvI ((cnt (fun i => decide (¬ rsnB rsnT (rv w) (2 * p + 1) (2 * q + 1) B i = 0)) (bN B) : Nat) : Int)) w) := by
  refine Mx.intro (by decide) RX9 rfl [some (mvR 31), some (mvI (p : Int)), some (mvI (q : Int)), none, none] (Nat.le_of_ble_eq_true rfl) rfl (fun K hC => ?_)
  obtain ⟨hR, hp, hq, hA, hB⟩ := id hS
  have hle := hB.le
  refine wm_iconst hC (pc := 0) dX9_stuckOnes_0 ?_
  refine wm_istore_n hC 3 (pc := 1) dX9_stuckOnes_1 rfl (by decide) rfl ?_
  refine wm_iconst hC (pc := 2) dX9_stuckOnes_2 ?_
  refine wm_istore hC  (pc := 3) dX9_stuckOnes_3  (by decide) rfl ?_
  have lp5 : ∀ (n : Nat) (i : Nat), n = bN B - i → i ≤ bN B → Wm l G K 6 5 (qP (mvI ((cnt (fun i => decide (¬ rsnB rsnT (rv w) (2 * p + 1) (2 * q + 1) B i = 0)) (bN B) : Nat) : Int)) w) 5 [some (mvR 31), some (mvI (p : Int)), some (mvI (q : Int)), some (mvI ((cnt (fun i => decide (¬ rsnB rsnT (rv w) (2 * p + 1) (2 * q + 1) B i = 0)) i : Nat) : Int)), some (mvI (i : Int))] [] w := by
    intro n
    induction n using Nat.strongRecOn with
    | _ n ih =>
    intro i hn hi
    refine wm_iload hC  (pc := 5) dX9_stuckOnes_5 rfl ?_
    refine wm_aload_n hC 0 (pc := 7) dX9_stuckOnes_7 rfl rfl ?_
    refine wm_getI hC 31 11 fl_X9_122_8 rfl rfl rfl (pc := 8) dX9_stuckOnes_8 ?_
    refine wm_icmp_ge hC 39 (pc := 11) dX9_stuckOnes_11 (by decide) (by omega) (by rw [hA.1]; omega) (fun h11 => ?_) (fun h11 => ?_)
    · rw [hA.1] at h11
      refine wm_iload_n hC 3 (pc := 39) dX9_stuckOnes_39 rfl rfl ?_
      refine wm_iretP hC (pc := 40) dX9_stuckOnes_40 ?_ rfl
      have : i = bN B := by omega
      rw [this]
    · rw [hA.1] at h11
      refine wm_iload_n hC 3 (pc := 14) dX9_stuckOnes_14 rfl rfl ?_
      refine wm_aload_n hC 0 (pc := 15) dX9_stuckOnes_15 rfl rfl ?_
      refine wm_iload_n hC 1 (pc := 16) dX9_stuckOnes_16 rfl rfl ?_
      refine wm_iload_n hC 2 (pc := 17) dX9_stuckOnes_17 rfl rfl ?_
      refine wm_iload hC  (pc := 18) dX9_stuckOnes_18 rfl ?_
      refine wm_pV hC cv_X9_147 kc_X9_why rfl rfl (s_X9_why hS (by omega)) rfl (by decide) rfl (Nat.le_of_ble_eq_true rfl) (pc := 20) dX9_stuckOnes_20 ?_
      have hrr : 0 ≤ rsnB rsnT (rv w) (2 * p + 1) (2 * q + 1) B i ∧ rsnB rsnT (rv w) (2 * p + 1) (2 * q + 1) B i ≤ 5 := rsnT_rng _ _ _ _
      have hst : cnt (fun i => decide (¬ rsnB rsnT (rv w) (2 * p + 1) (2 * q + 1) B i = 0)) (i + 1) = cnt (fun i => decide (¬ rsnB rsnT (rv w) (2 * p + 1) (2 * q + 1) B i = 0)) i + (decide (¬ rsnB rsnT (rv w) (2 * p + 1) (2 * q + 1) B i = 0)).toNat := rfl
      refine wm_if_le hC 30 (pc := 23) dX9_stuckOnes_23 (by decide) (by omega) (fun h23 => ?_) (fun h23 => ?_)
      · have E : cnt (fun i => decide (¬ rsnB rsnT (rv w) (2 * p + 1) (2 * q + 1) B i = 0)) (i + 1) = cnt (fun i => decide (¬ rsnB rsnT (rv w) (2 * p + 1) (2 * q + 1) B i = 0)) i := by rw [hst, decide_eq_false (by omega)]; rfl
        refine wm_iconst hC (pc := 30) dX9_stuckOnes_30 ?_
        refine wm_iadd hC (pc := 31) dX9_stuckOnes_31 ?_
        refine wm_istore_n hC 3 (pc := 32) dX9_stuckOnes_32 rfl (by decide) rfl ?_
        refine wm_iinc hC (pc := 33) dX9_stuckOnes_33 rfl rfl (by decide) rfl ?_
        refine wm_goto hC 5 (pc := 36) dX9_stuckOnes_36 (by decide) ?_
        have hh := ih _ (by omega) (i + 1) rfl (by omega)
        rw [E] at hh
        exact hh
      · have E : cnt (fun i => decide (¬ rsnB rsnT (rv w) (2 * p + 1) (2 * q + 1) B i = 0)) (i + 1) = cnt (fun i => decide (¬ rsnB rsnT (rv w) (2 * p + 1) (2 * q + 1) B i = 0)) i + 1 := by rw [hst, decide_eq_true (by omega)]; rfl
        refine wm_iconst hC (pc := 26) dX9_stuckOnes_26 ?_
        refine wm_goto hC 31 (pc := 27) dX9_stuckOnes_27 (by decide) ?_
        refine wm_iadd hC (pc := 31) dX9_stuckOnes_31 ?_
        refine wm_istore_n hC 3 (pc := 32) dX9_stuckOnes_32 rfl (by decide) rfl ?_
        refine wm_iinc hC (pc := 33) dX9_stuckOnes_33 rfl rfl (by decide) rfl ?_
        refine wm_goto hC 5 (pc := 36) dX9_stuckOnes_36 (by decide) ?_
        have hh := ih _ (by omega) (i + 1) rfl (by omega)
        rw [E] at hh
        exact hh
  exact lp5 _ 0 rfl (by omega)
set_option maxRecDepth 100000 in
set_option maxHeartbeats 400000 in
theorem s_X9_ends {l : Launch} {G : mG} {w : mW} {p q : Nat} {B : Bf} (hS : RSt2 w p q B) : Mx l G 6 yX9_ends cX9_ends 5 (some .int) [mvR 31, mvI (p : Int), mvI (q : Int)] w (qP (mvI ((cnt (fun i => endB (rv w) (2 * p + 1) (2 * q + 1) B i) (bN B) : Nat) : Int)) w) := by
  refine Mx.intro (by decide) RX9 rfl [some (mvR 31), some (mvI (p : Int)), some (mvI (q : Int)), none, none] (Nat.le_of_ble_eq_true rfl) rfl (fun K hC => ?_)
  obtain ⟨hR, hp, hq, hA, hB⟩ := id hS
  have hle := hB.le
  refine wm_iconst hC (pc := 0) dX9_ends_0 ?_
  refine wm_istore_n hC 3 (pc := 1) dX9_ends_1 rfl (by decide) rfl ?_
  refine wm_iconst hC (pc := 2) dX9_ends_2 ?_
  refine wm_istore hC  (pc := 3) dX9_ends_3  (by decide) rfl ?_
  have lp5 : ∀ (n : Nat) (i : Nat), n = bN B - i → i ≤ bN B → Wm l G K 6 5 (qP (mvI ((cnt (fun i => endB (rv w) (2 * p + 1) (2 * q + 1) B i) (bN B) : Nat) : Int)) w) 5 [some (mvR 31), some (mvI (p : Int)), some (mvI (q : Int)), some (mvI ((cnt (fun i => endB (rv w) (2 * p + 1) (2 * q + 1) B i) i : Nat) : Int)), some (mvI (i : Int))] [] w := by
    intro n
    induction n using Nat.strongRecOn with
    | _ n ih =>
    intro i hn hi
    refine wm_iload hC  (pc := 5) dX9_ends_5 rfl ?_
    refine wm_aload_n hC 0 (pc := 7) dX9_ends_7 rfl rfl ?_
    refine wm_getI hC 31 11 fl_X9_122_8 rfl rfl rfl (pc := 8) dX9_ends_8 ?_
    refine wm_icmp_ge hC 39 (pc := 11) dX9_ends_11 (by decide) (by omega) (by rw [hA.1]; omega) (fun h11 => ?_) (fun h11 => ?_)
    · rw [hA.1] at h11
      refine wm_iload_n hC 3 (pc := 39) dX9_ends_39 rfl rfl ?_
      refine wm_iretP hC (pc := 40) dX9_ends_40 ?_ rfl
      have : i = bN B := by omega
      rw [this]
    · rw [hA.1] at h11
      refine wm_iload_n hC 3 (pc := 14) dX9_ends_14 rfl rfl ?_
      refine wm_aload_n hC 0 (pc := 15) dX9_ends_15 rfl rfl ?_
      refine wm_iload_n hC 1 (pc := 16) dX9_ends_16 rfl rfl ?_
      refine wm_iload_n hC 2 (pc := 17) dX9_ends_17 rfl rfl ?_
      refine wm_iload hC  (pc := 18) dX9_ends_18 rfl ?_
      refine wm_pV hC cv_X9_164 kc_X9_isEnd rfl rfl (s_X9_isEnd hS (by omega)) rfl (by decide) rfl (Nat.le_of_ble_eq_true rfl) (pc := 20) dX9_ends_20 ?_
      have hst : cnt (fun i => endB (rv w) (2 * p + 1) (2 * q + 1) B i) (i + 1) = cnt (fun i => endB (rv w) (2 * p + 1) (2 * q + 1) B i) i + (endB (rv w) (2 * p + 1) (2 * q + 1) B i).toNat := rfl
      refine wm_ifb_eq hC 30 (pc := 23) dX9_ends_23 (by decide) (fun h23 => ?_) (fun h23 => ?_)
      · have E : cnt (fun i => endB (rv w) (2 * p + 1) (2 * q + 1) B i) (i + 1) = cnt (fun i => endB (rv w) (2 * p + 1) (2 * q + 1) B i) i := by rw [hst, h23]; rfl
        refine wm_iconst hC (pc := 30) dX9_ends_30 ?_
        refine wm_iadd hC (pc := 31) dX9_ends_31 ?_
        refine wm_istore_n hC 3 (pc := 32) dX9_ends_32 rfl (by decide) rfl ?_
        refine wm_iinc hC (pc := 33) dX9_ends_33 rfl rfl (by decide) rfl ?_
        refine wm_goto hC 5 (pc := 36) dX9_ends_36 (by decide) ?_
        have hh := ih _ (by omega) (i + 1) rfl (by omega)
        rw [E] at hh
        exact hh
      · have E : cnt (fun i => endB (rv w) (2 * p + 1) (2 * q + 1) B i) (i + 1) = cnt (fun i => endB (rv w) (2 * p + 1) (2 * q + 1) B i) i + 1 := by rw [hst, h23]; rfl
        refine wm_iconst hC (pc := 26) dX9_ends_26 ?_
        refine wm_goto hC 31 (pc := 27) dX9_ends_27 (by decide) ?_
        refine wm_iadd hC (pc := 31) dX9_ends_31 ?_
        refine wm_istore_n hC 3 (pc := 32) dX9_ends_32 rfl (by decide) rfl ?_
        refine wm_iinc hC (pc := 33) dX9_ends_33 rfl rfl (by decide) rfl ?_
        refine wm_goto hC 5 (pc := 36) dX9_ends_36 (by decide) ?_
        have hh := ih _ (by omega) (i + 1) rfl (by omega)
        rw [E] at hh
        exact hh
  exact lp5 _ 0 rfl (by omega)
set_option maxRecDepth 100000 in
set_option maxHeartbeats 400000 in
theorem s_X9_fewest {l : Launch} {G : mG} {w : mW} {p q : Nat} {B : Bf} (hS : RSt2 w p q B) : Mx l G 6 yX9_fewest cX9_fewest 4 (some .int) [mvR 31, mvI (p : Int), mvI (q : Int)] w (qP (mvI (if fewB (rv w) (2 * p + 1) (2 * q + 1) B = -1 then -1000004 else fewB (rv w) (2 * p + 1) (2 * q + 1) B)) w) := by
  refine Mx.intro (by decide) RX9 rfl [some (mvR 31), some (mvI (p : Int)), some (mvI (q : Int)), none] (Nat.le_of_ble_eq_true rfl) rfl (fun K hC => ?_)
  obtain ⟨hR, hp, hq, hA, hB⟩ := id hS
  have hle := hB.le
  refine wm_iconst hC (pc := 0) dX9_fewest_0 ?_
  refine wm_istore_n hC 3 (pc := 1) dX9_fewest_1 rfl (by decide) rfl ?_
  have lp2 : ∀ (n : Nat) (i : Nat), n = bN B - i → i ≤ bN B → ffst (fun i => endB (rv w) (2 * p + 1) (2 * q + 1) B i) (bN B) 0 = ffst (fun i => endB (rv w) (2 * p + 1) (2 * q + 1) B i) (bN B - i) i → Wm l G K 6 4 (qP (mvI (if fewB (rv w) (2 * p + 1) (2 * q + 1) B = -1 then -1000004 else fewB (rv w) (2 * p + 1) (2 * q + 1) B)) w) 2 [some (mvR 31), some (mvI (p : Int)), some (mvI (q : Int)), some (mvI (i : Int))] [] w := by
    intro n
    induction n using Nat.strongRecOn with
    | _ n ih =>
    intro i hn hi he
    refine wm_iload_n hC 3 (pc := 2) dX9_fewest_2 rfl rfl ?_
    refine wm_aload_n hC 0 (pc := 3) dX9_fewest_3 rfl rfl ?_
    refine wm_getI hC 31 11 fl_X9_122_8 rfl rfl rfl (pc := 4) dX9_fewest_4 ?_
    refine wm_icmp_ge hC 33 (pc := 7) dX9_fewest_7 (by decide) (by omega) (by rw [hA.1]; omega) (fun h7 => ?_) (fun h7 => ?_)
    · rw [hA.1] at h7
      refine wm_ldc hC (-1000004) kI_X9_121 (pc := 33) dX9_fewest_33 ?_
      refine wm_iretP hC (pc := 35) dX9_fewest_35 ?_ rfl
      have : i = bN B := by omega
      subst this
      rw [Nat.sub_self] at he
      have hv : ffst (fun i => endB (rv w) (2 * p + 1) (2 * q + 1) B i) (bN B) 0 = -1 := he
      have hf : fewB (rv w) (2 * p + 1) (2 * q + 1) B = -1 := by unfold fewB; rw [hv]; rfl
      rw [hf]; rfl
    · rw [hA.1] at h7
      refine wm_aload_n hC 0 (pc := 10) dX9_fewest_10 rfl rfl ?_
      refine wm_iload_n hC 1 (pc := 11) dX9_fewest_11 rfl rfl ?_
      refine wm_iload_n hC 2 (pc := 12) dX9_fewest_12 rfl rfl ?_
      refine wm_iload_n hC 3 (pc := 13) dX9_fewest_13 rfl rfl ?_
      refine wm_pV hC cv_X9_164 kc_X9_isEnd rfl rfl (s_X9_isEnd hS (by omega)) rfl (by decide) rfl (Nat.le_of_ble_eq_true rfl) (pc := 14) dX9_fewest_14 ?_
      refine wm_ifb_eq hC 27 (pc := 17) dX9_fewest_17 (by decide) (fun h17 => ?_) (fun h17 => ?_)
      · refine wm_iinc hC (pc := 27) dX9_fewest_27 rfl rfl (by decide) rfl ?_
        refine wm_goto hC 2 (pc := 30) dX9_fewest_30 (by decide) ?_
        exact ih _ (by omega) (i + 1) rfl (by omega) (by rw [he, show bN B - i = (bN B - (i + 1)) + 1 by omega]; exact if_neg (fun q => absurd (h17.symm.trans q) (by decide)))
      · refine wm_aload_n hC 0 (pc := 20) dX9_fewest_20 rfl rfl ?_
        refine wm_getR hC fl_X9_32_8 rfl rfl (pc := 21) dX9_fewest_21 ?_
        refine wm_iload_n hC 3 (pc := 24) dX9_fewest_24 rfl rfl ?_
        refine wm_iaload hC rfl (by omega) (by decide) (pc := 25) dX9_fewest_25 ?_
        refine wm_iretP hC (pc := 26) dX9_fewest_26 ?_ rfl
        have hv : ffst (fun i => endB (rv w) (2 * p + 1) (2 * q + 1) B i) (bN B) 0 = (i : Int) := by rw [he, show bN B - i = (bN B - (i + 1)) + 1 by omega]; exact if_pos h17
        have hf : fewB (rv w) (2 * p + 1) (2 * q + 1) B = bL B (i : Int) := by unfold fewB; rw [hv, if_neg (by omega)]
        have hI := hB.2.2.1 i (by omega) (by omega)
        rw [hf, if_neg (by omega)]; exact (hA.2.1 i (by omega) (by omega)).2.1
  exact lp2 _ 0 rfl (by omega) rfl
set_option maxRecDepth 100000 in
set_option maxHeartbeats 400000 in
theorem s_X9_comeTo_1 {l : Launch} {G : mG} {w : mW} {p q : Nat} {B : Bf} (hS : RSt2 w p q B) : Mx l G 0 yX9_comeTo cX9_comeTo 4 (some .int) [mvR 31, mvI 1] w (qP (mvI ((wor (fun i : Nat => 2 ^ (bP B i / 8).toNat) (bN B) : Nat) : Int)) w) := by
  refine Mx.intro (by decide) RX9 rfl [some (mvR 31), some (mvI 1), none, none] (Nat.le_of_ble_eq_true rfl) rfl (fun K hC => ?_)
  obtain ⟨hR, hp, hq, hA, hB⟩ := id hS
  have hle := hB.le
  refine wm_iconst hC (pc := 0) dX9_comeTo_0 ?_
  refine wm_istore_n hC 2 (pc := 1) dX9_comeTo_1 rfl (by decide) rfl ?_
  refine wm_iconst hC (pc := 2) dX9_comeTo_2 ?_
  refine wm_istore_n hC 3 (pc := 3) dX9_comeTo_3 rfl (by decide) rfl ?_
  have lp4 : ∀ (n : Nat) (i : Nat), n = bN B - i → i ≤ bN B → Wm l G K 0 4 (qP (mvI ((wor (fun i : Nat => 2 ^ (bP B i / 8).toNat) (bN B) : Nat) : Int)) w) 4 [some (mvR 31), some (mvI 1), some (mvI ((wor (fun i : Nat => 2 ^ (bP B i / 8).toNat) i : Nat) : Int)), some (mvI (i : Int))] [] w := by
    intro n
    induction n using Nat.strongRecOn with
    | _ n ih =>
    intro i hn hi
    refine wm_iload_n hC 3 (pc := 4) dX9_comeTo_4 rfl rfl ?_
    refine wm_aload_n hC 0 (pc := 5) dX9_comeTo_5 rfl rfl ?_
    refine wm_getI hC 31 11 fl_X9_122_8 rfl rfl rfl (pc := 6) dX9_comeTo_6 ?_
    refine wm_icmp_ge hC 48 (pc := 9) dX9_comeTo_9 (by decide) (by omega) (by rw [hA.1]; omega) (fun h9 => ?_) (fun h9 => ?_)
    · rw [hA.1] at h9
      refine wm_iload_n hC 2 (pc := 48) dX9_comeTo_48 rfl rfl ?_
      refine wm_iretP hC (pc := 49) dX9_comeTo_49 ?_ rfl
      have : i = bN B := by omega
      rw [this]
    · rw [hA.1] at h9
      refine wm_iload_n hC 2 (pc := 12) dX9_comeTo_12 rfl rfl ?_
      refine wm_iconst hC (pc := 13) dX9_comeTo_13 ?_
      refine wm_iload_n hC 1 (pc := 14) dX9_comeTo_14 rfl rfl ?_
      refine wm_if_eq hC 30 (pc := 15) dX9_comeTo_15 (by decide) (by decide) (fun h15 => ?_) (fun h15 => ?_)
      · exact absurd h15 (by decide)
      · refine wm_aload_n hC 0 (pc := 18) dX9_comeTo_18 rfl rfl ?_
        refine wm_getR hC fl_X9_23_8 rfl rfl (pc := 19) dX9_comeTo_19 ?_
        refine wm_iload_n hC 3 (pc := 22) dX9_comeTo_22 rfl rfl ?_
        refine wm_iaload hC rfl (by omega) (by decide) (pc := 23) dX9_comeTo_23 ?_
        rw [(hA.2.1 i (by omega) (by omega)).1]
        have hP := (hB.2.2.1 i (by omega) (by omega)).1
        refine wm_bipush hC (pc := 24) dX9_comeTo_24 (by decide) ?_
        refine wm_idiv hC (pc := 26) dX9_comeTo_26 (by omega) (by omega) ?_
        refine wm_goto hC 39 (pc := 27) dX9_comeTo_27 (by decide) ?_
        refine wm_ishl1 hC (bP B i / 8).toNat (pc := 39) dX9_comeTo_39 (by omega) (by omega) ?_
        refine wm_ior hC _ _ (pc := 40) dX9_comeTo_40 rfl rfl ?_
        refine wm_istore_n hC 2 (pc := 41) dX9_comeTo_41 rfl (by decide) rfl ?_
        refine wm_iinc hC (pc := 42) dX9_comeTo_42 rfl rfl (by decide) rfl ?_
        refine wm_goto hC 4 (pc := 45) dX9_comeTo_45 (by decide) ?_
        exact ih _ (by omega) (i + 1) rfl (by omega)
  exact lp4 _ 0 rfl (by omega)
set_option maxRecDepth 100000 in
set_option maxHeartbeats 400000 in
theorem s_X9_comeTo_0 {l : Launch} {G : mG} {w : mW} {p q : Nat} {B : Bf} (hS : RSt2 w p q B) : Mx l G 0 yX9_comeTo cX9_comeTo 4 (some .int) [mvR 31, mvI 0] w (qP (mvI ((wor (fun i : Nat => 2 ^ (bP B i % 8).toNat) (bN B) : Nat) : Int)) w) := by
  refine Mx.intro (by decide) RX9 rfl [some (mvR 31), some (mvI 0), none, none] (Nat.le_of_ble_eq_true rfl) rfl (fun K hC => ?_)
  obtain ⟨hR, hp, hq, hA, hB⟩ := id hS
  have hle := hB.le
  refine wm_iconst hC (pc := 0) dX9_comeTo_0 ?_
  refine wm_istore_n hC 2 (pc := 1) dX9_comeTo_1 rfl (by decide) rfl ?_
  refine wm_iconst hC (pc := 2) dX9_comeTo_2 ?_
  refine wm_istore_n hC 3 (pc := 3) dX9_comeTo_3 rfl (by decide) rfl ?_
  have lp4 : ∀ (n : Nat) (i : Nat), n = bN B - i → i ≤ bN B → Wm l G K 0 4 (qP (mvI ((wor (fun i : Nat => 2 ^ (bP B i % 8).toNat) (bN B) : Nat) : Int)) w) 4 [some (mvR 31), some (mvI 0), some (mvI ((wor (fun i : Nat => 2 ^ (bP B i % 8).toNat) i : Nat) : Int)), some (mvI (i : Int))] [] w := by
    intro n
    induction n using Nat.strongRecOn with
    | _ n ih =>
    intro i hn hi
    refine wm_iload_n hC 3 (pc := 4) dX9_comeTo_4 rfl rfl ?_
    refine wm_aload_n hC 0 (pc := 5) dX9_comeTo_5 rfl rfl ?_
    refine wm_getI hC 31 11 fl_X9_122_8 rfl rfl rfl (pc := 6) dX9_comeTo_6 ?_
    refine wm_icmp_ge hC 48 (pc := 9) dX9_comeTo_9 (by decide) (by omega) (by rw [hA.1]; omega) (fun h9 => ?_) (fun h9 => ?_)
    · rw [hA.1] at h9
      refine wm_iload_n hC 2 (pc := 48) dX9_comeTo_48 rfl rfl ?_
      refine wm_iretP hC (pc := 49) dX9_comeTo_49 ?_ rfl
      have : i = bN B := by omega
      rw [this]
    · rw [hA.1] at h9
      refine wm_iload_n hC 2 (pc := 12) dX9_comeTo_12 rfl rfl ?_
      refine wm_iconst hC (pc := 13) dX9_comeTo_13 ?_
      refine wm_iload_n hC 1 (pc := 14) dX9_comeTo_14 rfl rfl ?_
      refine wm_if_eq hC 30 (pc := 15) dX9_comeTo_15 (by decide) (by decide) (fun h15 => ?_) (fun h15 => ?_)
      · refine wm_aload_n hC 0 (pc := 30) dX9_comeTo_30 rfl rfl ?_
        refine wm_getR hC fl_X9_23_8 rfl rfl (pc := 31) dX9_comeTo_31 ?_
        refine wm_iload_n hC 3 (pc := 34) dX9_comeTo_34 rfl rfl ?_
        refine wm_iaload hC rfl (by omega) (by decide) (pc := 35) dX9_comeTo_35 ?_
        rw [(hA.2.1 i (by omega) (by omega)).1]
        have hP := (hB.2.2.1 i (by omega) (by omega)).1
        refine wm_bipush hC (pc := 36) dX9_comeTo_36 (by decide) ?_
        refine wm_irem hC (pc := 38) dX9_comeTo_38 (by omega) (by omega) ?_
        refine wm_ishl1 hC (bP B i % 8).toNat (pc := 39) dX9_comeTo_39 (by omega) (by omega) ?_
        refine wm_ior hC _ _ (pc := 40) dX9_comeTo_40 rfl rfl ?_
        refine wm_istore_n hC 2 (pc := 41) dX9_comeTo_41 rfl (by decide) rfl ?_
        refine wm_iinc hC (pc := 42) dX9_comeTo_42 rfl rfl (by decide) rfl ?_
        refine wm_goto hC 4 (pc := 45) dX9_comeTo_45 (by decide) ?_
        exact ih _ (by omega) (i + 1) rfl (by omega)
      · exact absurd h15 (by decide)
  exact lp4 _ 0 rfl (by omega)
set_option maxRecDepth 100000 in
set_option maxHeartbeats 400000 in
theorem s_X9_arrows {l : Launch} {G : mG} {w : mW} (hR : RPl w) : Mx l G 3 yX9_arrows cX9_arrows 3 (some .int) [mvR 31] w (qP (mvI ((msum (fun k => mpop (wmask (hasW (rv w) (2 * (k / 8) + 1) ((k % 8 : Nat) : Int)) 6)) 24 : Nat) : Int)) w) := by
  refine Mx.intro (by decide) RX9 rfl [some (mvR 31), none, none] (Nat.le_of_ble_eq_true rfl) rfl (fun K hC => ?_)
  refine wm_iconst hC (pc := 0) dX9_arrows_0 ?_
  refine wm_istore_n hC 1 (pc := 1) dX9_arrows_1 rfl (by decide) rfl ?_
  refine wm_iconst hC (pc := 2) dX9_arrows_2 ?_
  refine wm_istore_n hC 2 (pc := 3) dX9_arrows_3 rfl (by decide) rfl ?_
  have lp4 : ∀ (n : Nat) (k : Nat), n = 24 - k → k ≤ 24 → Wm l G K 3 3 (qP (mvI ((msum (fun k => mpop (wmask (hasW (rv w) (2 * (k / 8) + 1) ((k % 8 : Nat) : Int)) 6)) 24 : Nat) : Int)) w) 4 [some (mvR 31), some (mvI ((msum (fun k => mpop (wmask (hasW (rv w) (2 * (k / 8) + 1) ((k % 8 : Nat) : Int)) 6)) k : Nat) : Int)), some (mvI (k : Int))] [] w := by
    intro n
    induction n using Nat.strongRecOn with
    | _ n ih =>
    intro k hn hk
    refine wm_iload_n hC 2 (pc := 4) dX9_arrows_4 rfl rfl ?_
    refine wm_bipush hC (pc := 5) dX9_arrows_5 (by decide) ?_
    refine wm_icmp_ge hC 34 (pc := 7) dX9_arrows_7 (by decide) (by omega) (by omega) (fun h7 => ?_) (fun h7 => ?_)
    · refine wm_iload_n hC 1 (pc := 34) dX9_arrows_34 rfl rfl ?_
      refine wm_iretP hC (pc := 35) dX9_arrows_35 ?_ rfl
      have : k = 24 := by omega
      rw [this]
    · refine wm_iload_n hC 1 (pc := 10) dX9_arrows_10 rfl rfl ?_
      refine wm_aload_n hC 0 (pc := 11) dX9_arrows_11 rfl rfl ?_
      refine wm_iload_n hC 2 (pc := 12) dX9_arrows_12 rfl rfl ?_
      refine wm_bipush hC (pc := 13) dX9_arrows_13 (by decide) ?_
      refine wm_idiv hC (pc := 15) dX9_arrows_15 (by omega) (by omega) ?_
      refine wm_iload_n hC 2 (pc := 16) dX9_arrows_16 rfl rfl ?_
      refine wm_bipush hC (pc := 17) dX9_arrows_17 (by decide) ?_
      refine wm_irem hC (pc := 19) dX9_arrows_19 (by omega) (by omega) ?_
      rw [show (k : Int) / 8 = ((k / 8 : Nat) : Int) by omega, show (k : Int) % 8 = ((k % 8 : Nat) : Int) by omega]
      refine wm_pV hC cv_X9_88 kc_X9_words rfl rfl (s_X9_words (by omega) (by omega) hR) rfl (by decide) rfl (Nat.le_of_ble_eq_true rfl) (pc := 20) dX9_arrows_20 ?_
      refine wm_pS hC cs_X9_91 kc_X9_bits (s_X9_bits (Nat.lt_of_lt_of_le (wmask_lt _ 6) (by decide))) rfl (by decide) rfl (Nat.le_of_ble_eq_true rfl) (pc := 23) dX9_arrows_23 ?_
      refine wm_iadd hC (pc := 26) dX9_arrows_26 ?_
      refine wm_istore_n hC 1 (pc := 27) dX9_arrows_27 rfl (by decide) rfl ?_
      refine wm_iinc hC (pc := 28) dX9_arrows_28 rfl rfl (by decide) rfl ?_
      refine wm_goto hC 4 (pc := 31) dX9_arrows_31 (by decide) ?_
      exact ih _ (by omega) (k + 1) rfl (by omega)
  exact lp4 _ 0 rfl (by omega)
def rcountF (w : mW) (c : Int) : Int := if c = 0 then ((cnt (fun s => decide (¬ kdF (rv w) (2 * 0 + 1) (s : Int) = 0)) 8 : Nat) : Int) + ((cnt (fun s => decide (¬ kdF (rv w) (2 * 1 + 1) (s : Int) = 0)) 8 : Nat) : Int) + ((cnt (fun s => decide (¬ kdF (rv w) (2 * 2 + 1) (s : Int) = 0)) 8 : Nat) : Int) else if c = 1 then ((msum (fun k => mpop (wmask (hasW (rv w) (2 * (k / 8) + 1) ((k % 8 : Nat) : Int)) 6)) 24 : Nat) : Int) else if c = 2 then w 31 2 else if c = 3 then w 31 4 else if 10 ≤ c ∧ c ≤ 18 then standF (rv w) (2 * ((c - 10) / 3).toNat + 1) (2 * ((c - 10) % 3).toNat + 1) else -1000001
set_option maxRecDepth 100000 in
set_option maxHeartbeats 400000 in
theorem s_X9_count {l : Launch} {G : mG} {w : mW} {c : Int} (hI : RInv w) (hc : -2147483648 ≤ c ∧ c < 2147483648) : Mx l G 8 yX9_count cX9_count 2 (some .int) [mvR 31, mvI c] w (qI (fun z w' => z = rcountF w c ∧ rkeep w w')) := by
  refine Mx.intro (by decide) RX9 rfl [some (mvR 31), some (mvI c)] (Nat.le_of_ble_eq_true rfl) rfl (fun K hC => ?_)
  refine wm_iload_n hC 1 (pc := 0) dX9_count_0 rfl rfl ?_
  by_cases sw1_0 : c = 0
  · refine wm_tableIn hC 32 (0) (pc := 1) dX9_count_1 sw1_0 (by decide) rfl (by decide) ?_
    refine wm_aload_n hC 0 (pc := 32) dX9_count_32 rfl rfl ?_
    refine wm_iconst hC (pc := 33) dX9_count_33 ?_
    refine wm_pV hC cv_X9_96 kc_X9_going rfl rfl (s_X9_going (p := 0) (by decide) hI.1) rfl (by decide) rfl (Nat.le_of_ble_eq_true rfl) (pc := 34) dX9_count_34 ?_
    refine wm_aload_n hC 0 (pc := 37) dX9_count_37 rfl rfl ?_
    refine wm_iconst hC (pc := 38) dX9_count_38 ?_
    refine wm_pV hC cv_X9_96 kc_X9_going rfl rfl (s_X9_going (p := 1) (by decide) hI.1) rfl (by decide) rfl (Nat.le_of_ble_eq_true rfl) (pc := 39) dX9_count_39 ?_
    refine wm_iadd hC (pc := 42) dX9_count_42 ?_
    refine wm_aload_n hC 0 (pc := 43) dX9_count_43 rfl rfl ?_
    refine wm_iconst hC (pc := 44) dX9_count_44 ?_
    refine wm_pV hC cv_X9_96 kc_X9_going rfl rfl (s_X9_going (p := 2) (by decide) hI.1) rfl (by decide) rfl (Nat.le_of_ble_eq_true rfl) (pc := 45) dX9_count_45 ?_
    refine wm_iadd hC (pc := 48) dX9_count_48 ?_
    refine wm_iretI hC (pc := 49) dX9_count_49 ?_
    exact ⟨(if_pos sw1_0).symm, rkeep.refl w⟩
  by_cases sw1_1 : c = 1
  · refine wm_tableIn hC 50 (1) (pc := 1) dX9_count_1 sw1_1 (by decide) rfl (by decide) ?_
    refine wm_aload_n hC 0 (pc := 50) dX9_count_50 rfl rfl ?_
    refine wm_pV hC cv_X9_211 kc_X9_arrows rfl rfl (s_X9_arrows hI.1) rfl (by decide) rfl (Nat.le_of_ble_eq_true rfl) (pc := 51) dX9_count_51 ?_
    refine wm_iretI hC (pc := 54) dX9_count_54 ?_
    refine ⟨?_, rkeep.refl w⟩
    unfold rcountF; rw [if_neg sw1_0, if_pos sw1_1]
  by_cases sw1_2 : c = 2
  · refine wm_tableIn hC 55 (2) (pc := 1) dX9_count_1 sw1_2 (by decide) rfl (by decide) ?_
    refine wm_aload_n hC 0 (pc := 55) dX9_count_55 rfl rfl ?_
    refine wm_getI hC 31 2 fl_X9_55_8 rfl rfl rfl (pc := 56) dX9_count_56 ?_
    refine wm_iretI hC (pc := 59) dX9_count_59 ?_
    refine ⟨?_, rkeep.refl w⟩
    unfold rcountF; rw [if_neg sw1_0, if_neg sw1_1, if_pos sw1_2]
  by_cases sw1_3 : c = 3
  · refine wm_tableIn hC 60 (3) (pc := 1) dX9_count_1 sw1_3 (by decide) rfl (by decide) ?_
    refine wm_aload_n hC 0 (pc := 60) dX9_count_60 rfl rfl ?_
    refine wm_getI hC 31 4 fl_X9_215_8 rfl rfl rfl (pc := 61) dX9_count_61 ?_
    refine wm_iretI hC (pc := 64) dX9_count_64 ?_
    refine ⟨?_, rkeep.refl w⟩
    unfold rcountF; rw [if_neg sw1_0, if_neg sw1_1, if_neg sw1_2, if_pos sw1_3]
  refine wm_tableOut hC 65 (pc := 1) dX9_count_1 (by decide) (by omega) (by omega) ?_
  refine wm_iload_n hC 1 (pc := 65) dX9_count_65 rfl rfl ?_
  refine wm_bipush hC (pc := 66) dX9_count_66 (by decide) ?_
  refine wm_bipush hC (pc := 68) dX9_count_68 (by decide) ?_
  refine wm_pS hC cs_X9_59 kc_X9_in (s_X9_in (by omega) (by omega) (by omega)) rfl (by decide) rfl (Nat.le_of_ble_eq_true rfl) (pc := 70) dX9_count_70 ?_
  refine wm_ifd_eq hC 95 (pc := 73) dX9_count_73 (by decide) (fun h73 => ?_) (fun h73 => ?_)
  · refine wm_ldc hC (-1000001) kI_X9_81 (pc := 95) dX9_count_95 ?_
    refine wm_iretI hC (pc := 97) dX9_count_97 ?_
    first
    | (refine ⟨?_, rkeep.refl w⟩
       unfold rcountF; rw [if_neg sw1_0, if_neg sw1_1, if_neg sw1_2, if_neg sw1_3, if_neg h73])
    | (refine ⟨?_, hw89.1⟩
       unfold rcountF; rw [if_neg sw1_0, if_neg sw1_1, if_neg sw1_2, if_neg sw1_3, if_pos h73]; exact hw89.2)
  · refine wm_aload_n hC 0 (pc := 76) dX9_count_76 rfl rfl ?_
    refine wm_iload_n hC 1 (pc := 77) dX9_count_77 rfl rfl ?_
    refine wm_bipush hC (pc := 78) dX9_count_78 (by decide) ?_
    refine wm_isub hC (pc := 80) dX9_count_80 ?_
    refine wm_iconst hC (pc := 81) dX9_count_81 ?_
    refine wm_idiv hC (pc := 82) dX9_count_82 (by omega) (by omega) ?_
    refine wm_iload_n hC 1 (pc := 83) dX9_count_83 rfl rfl ?_
    refine wm_bipush hC (pc := 84) dX9_count_84 (by decide) ?_
    refine wm_isub hC (pc := 86) dX9_count_86 ?_
    refine wm_iconst hC (pc := 87) dX9_count_87 ?_
    refine wm_irem hC (pc := 88) dX9_count_88 (by omega) (by omega) ?_
    rw [show (c - 10) / 3 = ((((c - 10) / 3).toNat : Nat) : Int) by omega, show (c - 10) % 3 = ((((c - 10) % 3).toNat : Nat) : Int) by omega]
    refine wm_iV hC cv_X9_205 kc_X9_canStand rfl rfl (s_X9_canStand (p := ((c - 10) / 3).toNat) (q := ((c - 10) % 3).toNat) (by omega) (by omega) hI.1) rfl (by decide) rfl (Nat.le_of_ble_eq_true rfl) (pc := 89) dX9_count_89 (fun z89 w89 hw89 => ?_)
    refine wm_goto hC 97 (pc := 92) dX9_count_92 (by decide) ?_
    refine wm_iretI hC (pc := 97) dX9_count_97 ?_
    first
    | (refine ⟨?_, rkeep.refl w⟩
       unfold rcountF; rw [if_neg sw1_0, if_neg sw1_1, if_neg sw1_2, if_neg sw1_3, if_neg h73])
    | (refine ⟨?_, hw89.1⟩
       unfold rcountF; rw [if_neg sw1_0, if_neg sw1_1, if_neg sw1_2, if_neg sw1_3, if_pos h73]; exact hw89.2)
set_option maxRecDepth 100000 in
set_option maxHeartbeats 400000 in
theorem s_X9_type {l : Launch} {G : mG} {w : mW} {z0 : Int} (hI : RInv w) (hz0 : -2147483648 ≤ z0 ∧ z0 < 2147483648) : Mx l G 1 yX9_type cX9_type 2 (some .int) [mvR 31, mvI z0] w (qI (fun z w' => (¬ (32 ≤ z0 ∧ z0 ≤ 126) ∧ z = -1000001 ∧ w' = w) ∨ ((32 ≤ z0 ∧ z0 ≤ 126) ∧ ((80 ≤ w 31 4 ∧ z = -1000003 ∧ w' = w) ∨ (¬ 80 ≤ w 31 4 ∧ z = w 31 4 + 1 ∧ w' = mup (mup w 34 (w 31 4) z0) 31 4 (w 31 4 + 1)))))) := by
  refine Mx.intro (by decide) RX9 rfl [some (mvR 31), some (mvI z0)] (Nat.le_of_ble_eq_true rfl) rfl (fun K hC => ?_)
  have hr := hI.2.2.1
  refine wm_iload_n hC 1 (pc := 0) dX9_type_0 rfl rfl ?_
  refine wm_bipush hC (pc := 1) dX9_type_1 (by decide) ?_
  refine wm_bipush hC (pc := 3) dX9_type_3 (by decide) ?_
  refine wm_pS hC cs_X9_59 kc_X9_in (s_X9_in (by omega) (by omega) (by omega)) rfl (by decide) rfl (Nat.le_of_ble_eq_true rfl) (pc := 5) dX9_type_5 ?_
  refine wm_ifd_ne hC 14 (pc := 8) dX9_type_8 (by decide) (fun h8 => ?_) (fun h8 => ?_)
  · refine wm_aload_n hC 0 (pc := 14) dX9_type_14 rfl rfl ?_
    refine wm_getI hC 31 4 fl_X9_215_8 rfl rfl rfl (pc := 15) dX9_type_15 ?_
    refine wm_bipush hC (pc := 18) dX9_type_18 (by decide) ?_
    refine wm_icmp_ne hC 26 (pc := 20) dX9_type_20 (by decide) (by omega) (by omega) (fun h20 => ?_) (fun h20 => ?_)
    · refine wm_aload_n hC 0 (pc := 26) dX9_type_26 rfl rfl ?_
      refine wm_getR hC fl_X9_16_8 rfl rfl (pc := 27) dX9_type_27 ?_
      refine wm_aload_n hC 0 (pc := 30) dX9_type_30 rfl rfl ?_
      refine wm_getI hC 31 4 fl_X9_215_8 rfl rfl rfl (pc := 31) dX9_type_31 ?_
      refine wm_iload_n hC 1 (pc := 34) dX9_type_34 rfl rfl ?_
      refine wm_i2c hC (pc := 35) dX9_type_35 (by omega) ?_
      refine wm_castore hC rfl (by omega) (by decide) (by omega) (pc := 36) dX9_type_36 ?_
      refine wm_aload_n hC 0 (pc := 37) dX9_type_37 rfl rfl ?_
      refine wm_dup hC (pc := 38) dX9_type_38 rfl ?_
      refine wm_getI hC 31 4 fl_X9_215_8 rfl rfl rfl (pc := 39) dX9_type_39 ?_
      rw [mup_ne (show (31 : Nat) ≠ 34 by decide)]
      refine wm_iconst hC (pc := 42) dX9_type_42 ?_
      refine wm_iadd hC (pc := 43) dX9_type_43 ?_
      refine wm_putI hC 31 4 fp_X9_215_8 rfl rfl rfl (pc := 44) dX9_type_44 ?_
      refine wm_aload_n hC 0 (pc := 47) dX9_type_47 rfl rfl ?_
      refine wm_getI hC 31 4 fl_X9_215_8 rfl rfl rfl (pc := 48) dX9_type_48 ?_
      refine wm_iretI hC (pc := 51) dX9_type_51 ?_
      right
      exact ⟨by omega, Or.inr ⟨by omega, by rw [mup_at], rfl⟩⟩
    · refine wm_ldc hC (-1000003) kI_X9_218 (pc := 23) dX9_type_23 ?_
      refine wm_iretI hC (pc := 25) dX9_type_25 ?_
      right
      exact ⟨by omega, Or.inl ⟨by omega, rfl, rfl⟩⟩
  · refine wm_ldc hC (-1000001) kI_X9_81 (pc := 11) dX9_type_11 ?_
    refine wm_iretI hC (pc := 13) dX9_type_13 ?_
    left
    exact ⟨by omega, rfl, rfl⟩
set_option maxRecDepth 100000 in
set_option maxHeartbeats 400000 in
theorem s_X9_clearText {l : Launch} {G : mG} {w : mW} (hI : RInv w) : Mx l G 0 yX9_clearText cX9_clearText 2 (some .int) [mvR 31] w (qI (fun z w' => z = w 31 4 ∧ w' = mup w 31 4 0)) := by
  refine Mx.intro (by decide) RX9 rfl [some (mvR 31), none] (Nat.le_of_ble_eq_true rfl) rfl (fun K hC => ?_)
  refine wm_aload_n hC 0 (pc := 0) dX9_clearText_0 rfl rfl ?_
  refine wm_getI hC 31 4 fl_X9_215_8 rfl rfl rfl (pc := 1) dX9_clearText_1 ?_
  refine wm_istore_n hC 1 (pc := 4) dX9_clearText_4 rfl (by decide) rfl ?_
  refine wm_aload_n hC 0 (pc := 5) dX9_clearText_5 rfl rfl ?_
  refine wm_iconst hC (pc := 6) dX9_clearText_6 ?_
  refine wm_putI hC 31 4 fp_X9_215_8 rfl rfl rfl (pc := 7) dX9_clearText_7 ?_
  refine wm_iload_n hC 1 (pc := 10) dX9_clearText_10 rfl rfl ?_
  refine wm_iretI hC (pc := 11) dX9_clearText_11 ?_
  exact ⟨rfl, rfl⟩
