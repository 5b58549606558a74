/-! the reference: pairs -/
def togX (tk : Bool) (k k' : Int) : Bool := decide (¬ k = 0 ∧ ¬ k' = 0 ∧ (mb tk = 1 ↔ ¬ k = k'))
theorem togX_t : togX true = togT := by
  funext k k'
  unfold togX togT
  have : mb true = 1 := rfl
  exact decide_eq_decide.mpr (by omega)
theorem togX_f : togX false = togS := by
  funext k k'
  unfold togX togS
  have : mb false = 0 := rfl
  exact decide_eq_decide.mpr (by omega)
def bhF (U : mW) (p q : Nat) (t k : Int) : Int := if ldsF U p (t / 8) k < 0 ∨ ldsF U q (t % 8) k < 0 then -1 else 8 * ldsF U p (t / 8) k + ldsF U q (t % 8) k
theorem bh_t {U : mW} {p q : Nat} (hp : PlanOK U p) (hq : PlanOK U q) {tk : Bool} {t k : Int} (ht : 0 ≤ t ∧ t < 64) (hk : 0 ≤ k ∧ k < 6) (h : togX tk (kdF U p (t / 8)) (kdF U q (t % 8)) = true) : bhF U p q t k = nxF (togX tk) U p q t k := by
  have a := tg_rng hp (s := t / 8) (k := k) (by omega) hk
  have b := tg_rng hq (s := t % 8) (k := k) (by omega) hk
  have hh := of_decide_eq_true h
  have e1 : ldsF U p (t / 8) k = tgF U p (t / 8) k := if_neg hh.1
  have e2 : ldsF U q (t % 8) k = tgF U q (t % 8) k := if_neg hh.2.1
  unfold bhF nxF nxG
  rw [e1, e2, h]
  by_cases q1 : tgF U p (t / 8) k = -1
  · rw [if_pos (Or.inl (by omega)), if_pos (Or.inl q1)]
  · by_cases q2 : tgF U q (t % 8) k = -1
    · rw [if_pos (Or.inr (by omega)), if_pos (Or.inr (Or.inl q2))]
    · rw [if_neg (by omega), if_neg (fun hx => hx.elim q1 (fun hx => hx.elim q2 (fun hx => absurd hx (by decide))))]
      omega
theorem bh_f {U : mW} {p q : Nat} {tk : Bool} {t k : Int} (h : togX tk (kdF U p (t / 8)) (kdF U q (t % 8)) = false) : nxF (togX tk) U p q t k = -1 := if_pos (Or.inr (Or.inr h))
abbrev RA (w : mW) (B : Bf) : Prop := Agr B w 31 11 36 40 39 37 38
def RSt2 (w : mW) (p q : Nat) (B : Bf) : Prop := RPl w ∧ p < 3 ∧ q < 3 ∧ RA w B ∧ BInv B
def raddW (u : mW) (t og k : Int) : mW := mup (mup (mup (mup (mup (mup u 40 t (u 31 11)) 36 (u 31 11) t) 37 (u 31 11) og) 38 (u 31 11) k) 39 (u 31 11) (if og < 0 then 0 else u 39 og + 1)) 31 11 (u 31 11 + 1)
def rwalk (w u : mW) (B : Bf) : Prop := (∀ a : Nat, a ≠ 31 → (a < 36 ∨ 40 < a) → u a = w a) ∧ (∀ b : Int, b ≠ 11 → u 31 b = w 31 b) ∧ RA u B
theorem radd_walk {w u : mW} {B : Bf} {ln : Int} (h : rwalk w u B) {t og k : Int} (hl : (if og < 0 then 0 else u 39 og + 1) = ln) : rwalk w (raddW u t og k) (addB B t ln og k) := by
  obtain ⟨h1, h2, h3⟩ := h
  subst hl
  refine ⟨fun a h31 ha => ?_, fun b hb => ?_, agr_add h3 (by simp [raddW, mup]) (fun i => by simp [raddW, mup]) (fun i => by simp [raddW, mup]) (fun i => by simp [raddW, mup]) (fun i => by simp [raddW, mup]) (fun i => by simp [raddW, mup])⟩
  · unfold raddW
    rw [mup_ne h31, mup_ne (by omega), mup_ne (by omega), mup_ne (by omega), mup_ne (by omega), mup_ne (by omega)]
    exact h1 a h31 ha
  · unfold raddW
    rw [mup_get, if_neg (by omega), mup_ne (by decide), mup_ne (by decide), mup_ne (by decide), mup_ne (by decide), mup_ne (by decide)]
    exact h2 b hb
theorem rwalk0 (w : mW) : rwalk w (raddW (mup (mfill w 40 64 (-1)) 31 11 0) 0 (-1) (-1)) b0 := by
  refine radd_walk (B := (0, fun _ => 0, fun _ => -1, fun _ => 0, fun _ => 0, fun _ => 0)) ⟨fun a h31 ha => ?_, fun b hb => ?_, by simp [mup], fun i h1 h2 => ?_, fun t h1 h2 => ?_⟩ rfl
  · rw [mup_ne h31, mfill_ne (by omega)]
  · rw [mup_get, if_neg (by omega), mfill_ne (by decide)]
  · have h2' : i < (0 : Nat) := h2
    omega
  · show mup (mfill w 40 64 (-1)) 31 11 0 40 t = -1
    rw [mup_ne (by decide)]; unfold mfill; rw [if_pos (by omega)]
theorem rwalk_keep {w u : mW} {B : Bf} (h : rwalk w u B) : u 32 = w 32 := h.1 32 (by decide) (by omega)
def lkV (m : Nat) : Int := if m = 0 then -1000004 else ((lowst (fun j => m.testBit j) 8 8 0 : Nat) : Int)
theorem lkV_rng (m : Nat) : (lkV m = -1000004 ∧ m = 0) ∨ (0 ≤ lkV m ∧ lkV m < 9 ∧ ¬ m = 0) := by
  unfold lkV
  have := lowst_lt (fun j => m.testBit j) 8 9 (by decide) 8 0 (by decide)
  split
  · exact Or.inl ⟨rfl, by assumption⟩
  · exact Or.inr ⟨by omega, by omega, by assumption⟩
theorem nz_bit {s : Nat} (h : s < 256) (h0 : ¬ s = 0) : ∃ b, b < 8 ∧ s.testBit b = true := by
  obtain ⟨b, hb⟩ := Nat.exists_testBit_of_ne_zero h0
  refine ⟨b, ?_, hb⟩
  rcases Nat.lt_or_ge b 8 with q | q
  · exact q
  · have := Nat.testBit_lt_two_pow (Nat.lt_of_lt_of_le h (Nat.pow_le_pow_right (n := 2) (by decide) q))
    rw [hb] at this; cases this
def mssF (U : mW) (p q : Nat) (B : Bf) (i : Int) : Int := if togT (kdF U p (bP B i / 8)) (kdF U q (bP B i % 8)) then lkV (lackF (kdF U p (bP B i / 8)) (msk U p (bP B i / 8)) (msk U q (bP B i % 8))) else -1000004
def rwF (B : Bf) (i k : Int) : Int := if k < bL B i then bW B (clm B k 64 i) else -1000004
def rpairB (U : mW) (p q : Nat) (B : Bf) (i c : Int) : Int := if 0 ≤ i ∧ i < bN B then (if c = 0 then bP B i / 8 else if c = 1 then bP B i % 8 else if c = 2 then bL B i else if c = 3 then rsnB rsnT U p q B i else if c = 4 then mssF U p q B i else rwF B i (c - 10)) else -1000004
set_option maxRecDepth 100000 in
set_option maxHeartbeats 4000000 in
theorem s_X9_together {l : Launch} {G : mG} {w : mW} {tk : Bool} {k k2 : Int} (hk : -2147483648 ≤ k ∧ k < 2147483648) (hk2 : -2147483648 ≤ k2 ∧ k2 < 2147483648) : Mx l G 0 yX9_together cX9_together 3 (some .boolean) [mvI k, mvI k2, mvI (mb tk)] w (qP (mvI (mb (togX tk k k2))) w) := by
  refine Mx.intro (by decide) RX9 rfl [some (mvI k), some (mvI k2), some (mvI (mb tk))] (Nat.le_of_ble_eq_true rfl) rfl (fun K hC => ?_)
  have hm := mb_01 tk
  unfold togX
  refine wm_iload_n hC 0 (pc := 0) dX9_together_0 rfl rfl ?_
  refine wm_if_eq hC 26 (pc := 1) dX9_together_1 (by decide) (by omega) (fun h1 => ?_) (fun h1 => ?_)
  · refine wm_iconst hC (pc := 26) dX9_together_26 ?_
    refine wm_zretP hC (pc := 27) dX9_together_27 ?_ rfl
    first | exact ((mb_0 _).mpr (decide_eq_false (by omega))).symm | exact ((mb_1 _).mpr (decide_eq_true (by omega))).symm
  · refine wm_iload_n hC 1 (pc := 4) dX9_together_4 rfl rfl ?_
    refine wm_if_eq hC 26 (pc := 5) dX9_together_5 (by decide) (by omega) (fun h5 => ?_) (fun h5 => ?_)
    · refine wm_iconst hC (pc := 26) dX9_together_26 ?_
      refine wm_zretP hC (pc := 27) dX9_together_27 ?_ rfl
      first | exact ((mb_0 _).mpr (decide_eq_false (by omega))).symm | exact ((mb_1 _).mpr (decide_eq_true (by omega))).symm
    · refine wm_iload_n hC 2 (pc := 8) dX9_together_8 rfl rfl ?_
      refine wm_iload_n hC 0 (pc := 9) dX9_together_9 rfl rfl ?_
      refine wm_iload_n hC 1 (pc := 10) dX9_together_10 rfl rfl ?_
      refine wm_icmp_ne hC 18 (pc := 11) dX9_together_11 (by decide) (by omega) (by omega) (fun h11 => ?_) (fun h11 => ?_)
      · refine wm_iconst hC (pc := 18) dX9_together_18 ?_
        refine wm_icmp_eq hC 26 (pc := 19) dX9_together_19 (by decide) (by omega) (by omega) (fun h19 => ?_) (fun h19 => ?_)
        · refine wm_iconst hC (pc := 26) dX9_together_26 ?_
          refine wm_zretP hC (pc := 27) dX9_together_27 ?_ rfl
          first | exact ((mb_0 _).mpr (decide_eq_false (by omega))).symm | exact ((mb_1 _).mpr (decide_eq_true (by omega))).symm
        · refine wm_iconst hC (pc := 22) dX9_together_22 ?_
          refine wm_goto hC 27 (pc := 23) dX9_together_23 (by decide) ?_
          refine wm_zretP hC (pc := 27) dX9_together_27 ?_ rfl
          first | exact ((mb_0 _).mpr (decide_eq_false (by omega))).symm | exact ((mb_1 _).mpr (decide_eq_true (by omega))).symm
      · refine wm_iconst hC (pc := 14) dX9_together_14 ?_
        refine wm_goto hC 19 (pc := 15) dX9_together_15 (by decide) ?_
        refine wm_icmp_eq hC 26 (pc := 19) dX9_together_19 (by decide) (by omega) (by omega) (fun h19 => ?_) (fun h19 => ?_)
        · refine wm_iconst hC (pc := 26) dX9_together_26 ?_
          refine wm_zretP hC (pc := 27) dX9_together_27 ?_ rfl
          first | exact ((mb_0 _).mpr (decide_eq_false (by omega))).symm | exact ((mb_1 _).mpr (decide_eq_true (by omega))).symm
        · refine wm_iconst hC (pc := 22) dX9_together_22 ?_
          refine wm_goto hC 27 (pc := 23) dX9_together_23 (by decide) ?_
          refine wm_zretP hC (pc := 27) dX9_together_27 ?_ rfl
          first | exact ((mb_0 _).mpr (decide_eq_false (by omega))).symm | exact ((mb_1 _).mpr (decide_eq_true (by omega))).symm
set_option maxRecDepth 100000 in
set_option maxHeartbeats 4000000 in
theorem s_X9_behind {l : Launch} {G : mG} {w : mW} {p q : Nat} (hp : p < 3) (hq : q < 3) {t k : Int} (ht : 0 ≤ t ∧ t < 64) (hk : 0 ≤ k ∧ k < 6) (hR : RPl w) : Mx l G 3 yX9_behind cX9_behind 7 (some .int) [mvR 31, mvI (p : Int), mvI (q : Int), mvI t, mvI k] w (qP (mvI (bhF (rv w) (2 * p + 1) (2 * q + 1) t k)) w) := by
  refine Mx.intro (by decide) RX9 rfl [some (mvR 31), some (mvI (p : Int)), some (mvI (q : Int)), some (mvI t), some (mvI k), none, none] (Nat.le_of_ble_eq_true rfl) rfl (fun K hC => ?_)
  have h1 := lds_rng (hR.ok hp) (s := t / 8) (k := k) (by omega) hk
  have h2 := lds_rng (hR.ok hq) (s := t % 8) (k := k) (by omega) hk
  unfold bhF
  refine wm_aload_n hC 0 (pc := 0) dX9_behind_0 rfl rfl ?_
  refine wm_iload_n hC 1 (pc := 1) dX9_behind_1 rfl rfl ?_
  refine wm_iload_n hC 3 (pc := 2) dX9_behind_2 rfl rfl ?_
  refine wm_bipush hC (pc := 3) dX9_behind_3 (by decide) ?_
  refine wm_idiv hC (pc := 5) dX9_behind_5 (by omega) (by omega) ?_
  refine wm_iload hC  (pc := 6) dX9_behind_6 rfl ?_
  refine wm_pV hC cv_X9_99 kc_X9_leads rfl rfl (s_X9_leads (by omega) (by omega) (by omega) hR) rfl (by decide) rfl (Nat.le_of_ble_eq_true rfl) (pc := 8) dX9_behind_8 ?_
  refine wm_istore hC  (pc := 11) dX9_behind_11  (by decide) rfl ?_
  refine wm_aload_n hC 0 (pc := 13) dX9_behind_13 rfl rfl ?_
  refine wm_iload_n hC 2 (pc := 14) dX9_behind_14 rfl rfl ?_
  refine wm_iload_n hC 3 (pc := 15) dX9_behind_15 rfl rfl ?_
  refine wm_bipush hC (pc := 16) dX9_behind_16 (by decide) ?_
  refine wm_irem hC (pc := 18) dX9_behind_18 (by omega) (by omega) ?_
  refine wm_iload hC  (pc := 19) dX9_behind_19 rfl ?_
  refine wm_pV hC cv_X9_99 kc_X9_leads rfl rfl (s_X9_leads (by omega) (by omega) (by omega) hR) rfl (by decide) rfl (Nat.le_of_ble_eq_true rfl) (pc := 21) dX9_behind_21 ?_
  refine wm_istore hC  (pc := 24) dX9_behind_24  (by decide) rfl ?_
  refine wm_iload hC  (pc := 26) dX9_behind_26 rfl ?_
  refine wm_if_lt hC 36 (pc := 28) dX9_behind_28 (by decide) (by omega) (fun h28 => ?_) (fun h28 => ?_)
  · refine wm_iconst hC (pc := 36) dX9_behind_36 ?_
    refine wm_goto hC 48 (pc := 37) dX9_behind_37 (by decide) ?_
    refine wm_iretP hC (pc := 48) dX9_behind_48 ?_ rfl
    first | rw [if_pos (by omega)] | rw [if_neg (by omega)]
  · refine wm_iload hC  (pc := 31) dX9_behind_31 rfl ?_
    refine wm_if_ge hC 40 (pc := 33) dX9_behind_33 (by decide) (by omega) (fun h33 => ?_) (fun h33 => ?_)
    · refine wm_bipush hC (pc := 40) dX9_behind_40 (by decide) ?_
      refine wm_iload hC  (pc := 42) dX9_behind_42 rfl ?_
      refine wm_imul hC (pc := 44) dX9_behind_44 ?_
      refine wm_iload hC  (pc := 45) dX9_behind_45 rfl ?_
      refine wm_iadd hC (pc := 47) dX9_behind_47 ?_
      refine wm_iretP hC (pc := 48) dX9_behind_48 ?_ rfl
      first | rw [if_pos (by omega)] | rw [if_neg (by omega)]
    · refine wm_iconst hC (pc := 36) dX9_behind_36 ?_
      refine wm_goto hC 48 (pc := 37) dX9_behind_37 (by decide) ?_
      refine wm_iretP hC (pc := 48) dX9_behind_48 ?_ rfl
      first | rw [if_pos (by omega)] | rw [if_neg (by omega)]
set_option maxRecDepth 100000 in
set_option maxHeartbeats 4000000 in
theorem s_X9_finds {l : Launch} {G : mG} {w : mW} {t og k : Int} (ht : 0 ≤ t ∧ t < 64) (hn : w 40 t = -1 → 0 ≤ w 31 11 ∧ w 31 11 < 64) (ho : -1 ≤ og ∧ og < 64) (h4 : -1 ≤ w 40 t ∧ w 40 t < 64) : Mx l G 0 yX9_finds cX9_finds 4 none [mvR 31, mvI t, mvI og, mvI k] w (qV (fun w' => w' = if w 40 t = -1 then raddW w t og k else w)) := by
  refine Mx.intro (by decide) RX9 rfl [some (mvR 31), some (mvI t), some (mvI og), some (mvI k)] (Nat.le_of_ble_eq_true rfl) rfl (fun K hC => ?_)
  refine wm_aload_n hC 0 (pc := 0) dX9_finds_0 rfl rfl ?_
  refine wm_getR hC fl_X9_35_8 rfl rfl (pc := 1) dX9_finds_1 ?_
  refine wm_iload_n hC 1 (pc := 4) dX9_finds_4 rfl rfl ?_
  refine wm_iaload hC rfl (by omega) (by decide) (pc := 5) dX9_finds_5 ?_
  refine wm_iconst hC (pc := 6) dX9_finds_6 ?_
  refine wm_icmp_ne hC 85 (pc := 7) dX9_finds_7 (by decide) (by omega) (by omega) (fun h7 => ?_) (fun h7 => ?_)
  · refine wm_retV hC (pc := 85) dX9_finds_85 ?_
    first | exact (if_neg h7).symm | (rw [if_pos h7]; unfold raddW; rw [← e])
  · have hn := hn h7
    refine wm_aload_n hC 0 (pc := 10) dX9_finds_10 rfl rfl ?_
    refine wm_getR hC fl_X9_35_8 rfl rfl (pc := 11) dX9_finds_11 ?_
    refine wm_iload_n hC 1 (pc := 14) dX9_finds_14 rfl rfl ?_
    refine wm_aload_n hC 0 (pc := 15) dX9_finds_15 rfl rfl ?_
    refine wm_getI hC 31 11 fl_X9_122_8 rfl rfl rfl (pc := 16) dX9_finds_16 ?_
    refine wm_iastore hC rfl (by omega) (by decide) (pc := 19) dX9_finds_19 ?_
    refine wm_aload_n hC 0 (pc := 20) dX9_finds_20 rfl rfl ?_
    refine wm_getR hC fl_X9_23_8 rfl rfl (pc := 21) dX9_finds_21 ?_
    refine wm_aload_n hC 0 (pc := 24) dX9_finds_24 rfl rfl ?_
    refine wm_getI hC 31 11 fl_X9_122_8 rfl rfl rfl (pc := 25) dX9_finds_25 ?_
    simp only [mup_ne (show (31 : Nat) ≠ 40 by decide), mup_ne (show (31 : Nat) ≠ 36 by decide), mup_ne (show (31 : Nat) ≠ 37 by decide), mup_ne (show (31 : Nat) ≠ 38 by decide), mup_ne (show (31 : Nat) ≠ 39 by decide)]
    refine wm_iload_n hC 1 (pc := 28) dX9_finds_28 rfl rfl ?_
    refine wm_iastore hC rfl (by omega) (by decide) (pc := 29) dX9_finds_29 ?_
    refine wm_aload_n hC 0 (pc := 30) dX9_finds_30 rfl rfl ?_
    refine wm_getR hC fl_X9_26_8 rfl rfl (pc := 31) dX9_finds_31 ?_
    refine wm_aload_n hC 0 (pc := 34) dX9_finds_34 rfl rfl ?_
    refine wm_getI hC 31 11 fl_X9_122_8 rfl rfl rfl (pc := 35) dX9_finds_35 ?_
    simp only [mup_ne (show (31 : Nat) ≠ 40 by decide), mup_ne (show (31 : Nat) ≠ 36 by decide), mup_ne (show (31 : Nat) ≠ 37 by decide), mup_ne (show (31 : Nat) ≠ 38 by decide), mup_ne (show (31 : Nat) ≠ 39 by decide)]
    refine wm_iload_n hC 2 (pc := 38) dX9_finds_38 rfl rfl ?_
    refine wm_iastore hC rfl (by omega) (by decide) (pc := 39) dX9_finds_39 ?_
    refine wm_aload_n hC 0 (pc := 40) dX9_finds_40 rfl rfl ?_
    refine wm_getR hC fl_X9_29_8 rfl rfl (pc := 41) dX9_finds_41 ?_
    refine wm_aload_n hC 0 (pc := 44) dX9_finds_44 rfl rfl ?_
    refine wm_getI hC 31 11 fl_X9_122_8 rfl rfl rfl (pc := 45) dX9_finds_45 ?_
    simp only [mup_ne (show (31 : Nat) ≠ 40 by decide), mup_ne (show (31 : Nat) ≠ 36 by decide), mup_ne (show (31 : Nat) ≠ 37 by decide), mup_ne (show (31 : Nat) ≠ 38 by decide), mup_ne (show (31 : Nat) ≠ 39 by decide)]
    refine wm_iload_n hC 3 (pc := 48) dX9_finds_48 rfl rfl ?_
    refine wm_iastore hC rfl (by omega) (by decide) (pc := 49) dX9_finds_49 ?_
    refine wm_aload_n hC 0 (pc := 50) dX9_finds_50 rfl rfl ?_
    refine wm_getR hC fl_X9_32_8 rfl rfl (pc := 51) dX9_finds_51 ?_
    refine wm_aload_n hC 0 (pc := 54) dX9_finds_54 rfl rfl ?_
    refine wm_getI hC 31 11 fl_X9_122_8 rfl rfl rfl (pc := 55) dX9_finds_55 ?_
    simp only [mup_ne (show (31 : Nat) ≠ 40 by decide), mup_ne (show (31 : Nat) ≠ 36 by decide), mup_ne (show (31 : Nat) ≠ 37 by decide), mup_ne (show (31 : Nat) ≠ 38 by decide), mup_ne (show (31 : Nat) ≠ 39 by decide)]
    refine wm_iload_n hC 2 (pc := 58) dX9_finds_58 rfl rfl ?_
    refine wm_if_ge hC 66 (pc := 59) dX9_finds_59 (by decide) (by omega) (fun h59 => ?_) (fun h59 => ?_)
    · have e : w 39 og + 1 = if og < 0 then 0 else w 39 og + 1 := by rw [if_neg (by omega)]
      refine wm_aload_n hC 0 (pc := 66) dX9_finds_66 rfl rfl ?_
      refine wm_getR hC fl_X9_32_8 rfl rfl (pc := 67) dX9_finds_67 ?_
      refine wm_iload_n hC 2 (pc := 70) dX9_finds_70 rfl rfl ?_
      refine wm_iaload hC rfl (by omega) (by decide) (pc := 71) dX9_finds_71 ?_
      simp only [mup_ne (show (39 : Nat) ≠ 38 by decide), mup_ne (show (39 : Nat) ≠ 37 by decide), mup_ne (show (39 : Nat) ≠ 36 by decide), mup_ne (show (39 : Nat) ≠ 40 by decide)]
      refine wm_iconst hC (pc := 72) dX9_finds_72 ?_
      refine wm_iadd hC (pc := 73) dX9_finds_73 ?_
      refine wm_iastore hC rfl (by omega) (by decide) (pc := 74) dX9_finds_74 ?_
      refine wm_aload_n hC 0 (pc := 75) dX9_finds_75 rfl rfl ?_
      refine wm_dup hC (pc := 76) dX9_finds_76 rfl ?_
      refine wm_getI hC 31 11 fl_X9_122_8 rfl rfl rfl (pc := 77) dX9_finds_77 ?_
      simp only [mup_ne (show (31 : Nat) ≠ 40 by decide), mup_ne (show (31 : Nat) ≠ 36 by decide), mup_ne (show (31 : Nat) ≠ 37 by decide), mup_ne (show (31 : Nat) ≠ 38 by decide), mup_ne (show (31 : Nat) ≠ 39 by decide)]
      refine wm_iconst hC (pc := 80) dX9_finds_80 ?_
      refine wm_iadd hC (pc := 81) dX9_finds_81 ?_
      refine wm_putI hC 31 11 fp_X9_122_8 rfl rfl rfl (pc := 82) dX9_finds_82 ?_
      refine wm_retV hC (pc := 85) dX9_finds_85 ?_
      first | exact (if_neg h7).symm | (rw [if_pos h7]; unfold raddW; rw [← e])
    · have e : (0 : Int) = if og < 0 then 0 else w 39 og + 1 := by rw [if_pos (by omega)]
      refine wm_iconst hC (pc := 62) dX9_finds_62 ?_
      refine wm_goto hC 74 (pc := 63) dX9_finds_63 (by decide) ?_
      refine wm_iastore hC rfl (by omega) (by decide) (pc := 74) dX9_finds_74 ?_
      refine wm_aload_n hC 0 (pc := 75) dX9_finds_75 rfl rfl ?_
      refine wm_dup hC (pc := 76) dX9_finds_76 rfl ?_
      refine wm_getI hC 31 11 fl_X9_122_8 rfl rfl rfl (pc := 77) dX9_finds_77 ?_
      simp only [mup_ne (show (31 : Nat) ≠ 40 by decide), mup_ne (show (31 : Nat) ≠ 36 by decide), mup_ne (show (31 : Nat) ≠ 37 by decide), mup_ne (show (31 : Nat) ≠ 38 by decide), mup_ne (show (31 : Nat) ≠ 39 by decide)]
      refine wm_iconst hC (pc := 80) dX9_finds_80 ?_
      refine wm_iadd hC (pc := 81) dX9_finds_81 ?_
      refine wm_putI hC 31 11 fp_X9_122_8 rfl rfl rfl (pc := 82) dX9_finds_82 ?_
      refine wm_retV hC (pc := 85) dX9_finds_85 ?_
      first | exact (if_neg h7).symm | (rw [if_pos h7]; unfold raddW; rw [← e])
set_option maxRecDepth 100000 in
set_option maxHeartbeats 4000000 in
theorem s_X9_follows {l : Launch} {G : mG} {w : mW} {p q : Nat} {B : Bf} (hS : RSt2 w p q B) {i : Int} (hi : 0 ≤ i ∧ i < bN B) {k : Int} (hk : 0 ≤ k ∧ k < 6) {tk : Bool} : Mx l G 4 yX9_follows cX9_follows 8 (some .int) [mvR 31, mvI (p : Int), mvI (q : Int), mvI i, mvI k, mvI (mb tk)] w (qP (mvI ((nxF (togX tk) (rv w) (2 * p + 1) (2 * q + 1)) (bP B i) k)) w) := by
  refine Mx.intro (by decide) RX9 rfl [some (mvR 31), some (mvI (p : Int)), some (mvI (q : Int)), some (mvI i), some (mvI k), some (mvI (mb tk)), none, none] (Nat.le_of_ble_eq_true rfl) rfl (fun K hC => ?_)
  obtain ⟨hR, hp, hq, hA, hB⟩ := id hS
  have hle := hB.le
  have hI := hB.2.2.1 i hi.1 hi.2
  have hIA := hA.2.1 i hi.1 hi.2
  have hk1 := kd_rng (hR.ok hp) (s := bP B i / 8) (by omega)
  have hk2 := kd_rng (hR.ok hq) (s := bP B i % 8) (by omega)
  refine wm_aload_n hC 0 (pc := 0) dX9_follows_0 rfl rfl ?_
  refine wm_getR hC fl_X9_23_8 rfl rfl (pc := 1) dX9_follows_1 ?_
  refine wm_iload_n hC 3 (pc := 4) dX9_follows_4 rfl rfl ?_
  refine wm_iaload hC rfl (by omega) (by decide) (pc := 5) dX9_follows_5 ?_
  rw [hIA.1]
  refine wm_istore hC  (pc := 6) dX9_follows_6  (by decide) rfl ?_
  refine wm_aload_n hC 0 (pc := 8) dX9_follows_8 rfl rfl ?_
  refine wm_iload_n hC 1 (pc := 9) dX9_follows_9 rfl rfl ?_
  refine wm_iload hC  (pc := 10) dX9_follows_10 rfl ?_
  refine wm_bipush hC (pc := 12) dX9_follows_12 (by decide) ?_
  refine wm_idiv hC (pc := 14) dX9_follows_14 (by omega) (by omega) ?_
  refine wm_pV hC cv_X9_67 kc_X9_kindOf rfl rfl (s_X9_kindOf hp (by omega)) rfl (by decide) rfl (Nat.le_of_ble_eq_true rfl) (pc := 15) dX9_follows_15 ?_
  refine wm_aload_n hC 0 (pc := 18) dX9_follows_18 rfl rfl ?_
  refine wm_iload_n hC 2 (pc := 19) dX9_follows_19 rfl rfl ?_
  refine wm_iload hC  (pc := 20) dX9_follows_20 rfl ?_
  refine wm_bipush hC (pc := 22) dX9_follows_22 (by decide) ?_
  refine wm_irem hC (pc := 24) dX9_follows_24 (by omega) (by omega) ?_
  refine wm_pV hC cv_X9_67 kc_X9_kindOf rfl rfl (s_X9_kindOf hq (by omega)) rfl (by decide) rfl (Nat.le_of_ble_eq_true rfl) (pc := 25) dX9_follows_25 ?_
  refine wm_iload hC  (pc := 28) dX9_follows_28 rfl ?_
  refine wm_pS hC cs_X9_125 kc_X9_together (s_X9_together (by omega) (by omega)) rfl (by decide) rfl (Nat.le_of_ble_eq_true rfl) (pc := 30) dX9_follows_30 ?_
  refine wm_istore hC  (pc := 33) dX9_follows_33  (by decide) rfl ?_
  refine wm_iload hC  (pc := 35) dX9_follows_35 rfl ?_
  refine wm_ifb_eq hC 53 (pc := 37) dX9_follows_37 (by decide) (fun h37 => ?_) (fun h37 => ?_)
  · refine wm_iconst hC (pc := 53) dX9_follows_53 ?_
    refine wm_iretP hC (pc := 54) dX9_follows_54 ?_ rfl
    first | exact (bh_f h37).symm | exact bh_t (hR.ok hp) (hR.ok hq) hI.1 hk h37
  · refine wm_aload_n hC 0 (pc := 40) dX9_follows_40 rfl rfl ?_
    refine wm_iload_n hC 1 (pc := 41) dX9_follows_41 rfl rfl ?_
    refine wm_iload_n hC 2 (pc := 42) dX9_follows_42 rfl rfl ?_
    refine wm_iload hC  (pc := 43) dX9_follows_43 rfl ?_
    refine wm_iload hC  (pc := 45) dX9_follows_45 rfl ?_
    refine wm_pV hC cv_X9_129 kc_X9_behind rfl rfl (s_X9_behind hp hq (by omega) (by omega) hR) rfl (by decide) rfl (Nat.le_of_ble_eq_true rfl) (pc := 47) dX9_follows_47 ?_
    refine wm_goto hC 54 (pc := 50) dX9_follows_50 (by decide) ?_
    refine wm_iretP hC (pc := 54) dX9_follows_54 ?_ rfl
    first | exact (bh_f h37).symm | exact bh_t (hR.ok hp) (hR.ok hq) hI.1 hk h37
set_option maxRecDepth 100000 in
set_option maxHeartbeats 1000000 in
theorem s_X9_goThrough {l : Launch} {G : mG} {w : mW} {p q : Nat} (hp : p < 3) (hq : q < 3) (hR : RPl w) {tk : Bool} : Mx l G 5 yX9_goThrough cX9_goThrough 7 none [mvR 31, mvI (p : Int), mvI (q : Int), mvI (mb tk)] w (qV (fun w' => rwalk w w' (bfs (nxF (togX tk) (rv w) (2 * p + 1) (2 * q + 1))))) := by
  refine Mx.intro (by decide) RX9 rfl [some (mvR 31), some (mvI (p : Int)), some (mvI (q : Int)), some (mvI (mb tk)), none, none, none] (Nat.le_of_ble_eq_true rfl) rfl (fun K hC => ?_)
  have hnx : NxOK (nxF (togX tk) (rv w) (2 * p + 1) (2 * q + 1)) := nxF_ok (hR.ok hp) (hR.ok hq)
  refine wm_iconst hC (pc := 0) dX9_goThrough_0 ?_
  refine wm_istore hC  (pc := 1) dX9_goThrough_1  (by decide) rfl ?_
  have lp3 : ∀ (n : Nat) (j : Nat), n = 64 - j → j ≤ 64 → Wm l G K 5 7 (qV (fun w' => rwalk w w' (bfs (nxF (togX tk) (rv w) (2 * p + 1) (2 * q + 1))))) 3 [some (mvR 31), some (mvI (p : Int)), some (mvI (q : Int)), some (mvI (mb tk)), some (mvI (j : Int)), none, none] [] (mfill w 40 (j : Int) (-1)) := by
    intro n
    induction n using Nat.strongRecOn with
    | _ n ih =>
    intro j hn hj
    refine wm_iload hC  (pc := 3) dX9_goThrough_3 rfl ?_
    refine wm_bipush hC (pc := 5) dX9_goThrough_5 (by decide) ?_
    refine wm_icmp_ge hC 24 (pc := 7) dX9_goThrough_7 (by decide) (by omega) (by omega) (fun h7 => ?_) (fun h7 => ?_)
    · refine wm_aload_n hC 0 (pc := 24) dX9_goThrough_24 rfl rfl ?_
      refine wm_iconst hC (pc := 25) dX9_goThrough_25 ?_
      refine wm_putI hC 31 11 fp_X9_122_8 rfl rfl rfl (pc := 26) dX9_goThrough_26 ?_
      refine wm_aload_n hC 0 (pc := 29) dX9_goThrough_29 rfl rfl ?_
      refine wm_iconst hC (pc := 30) dX9_goThrough_30 ?_
      refine wm_iconst hC (pc := 31) dX9_goThrough_31 ?_
      refine wm_iconst hC (pc := 32) dX9_goThrough_32 ?_
      refine wm_vV hC cv_X9_133 kc_X9_finds rfl rfl (s_X9_finds (by omega) (fun _ => by rw [mup_at]; decide) (by omega) (by rw [mup_ne (by decide)]; unfold mfill; rw [if_pos (by omega)]; decide)) rfl (by decide) rfl (Nat.le_of_ble_eq_true rfl) (pc := 33) dX9_goThrough_33 (fun w33 hw33 => ?_)
      rw [if_pos (by rw [mup_ne (by decide)]; unfold mfill; rw [if_pos (by omega)])] at hw33
      subst hw33
      refine wm_iconst hC (pc := 36) dX9_goThrough_36 ?_
      refine wm_istore hC  (pc := 37) dX9_goThrough_37  (by decide) rfl ?_
      have lp39 : ∀ (n : Nat) (at_ : Nat) (u : mW) (o5 o6 : Option mV), n = 64 - at_ → at_ ≤ 64 → rwalk w u (bfsN (nxF (togX tk) (rv w) (2 * p + 1) (2 * q + 1)) at_) → Wm l G K 5 7 (qV (fun w' => rwalk w w' (bfs (nxF (togX tk) (rv w) (2 * p + 1) (2 * q + 1))))) 39 [some (mvR 31), some (mvI (p : Int)), some (mvI (q : Int)), some (mvI (mb tk)), some (mvI (at_ : Int)), o5, o6] [] u := by
        intro n
        induction n using Nat.strongRecOn with
        | _ n ih =>
        intro at_ u o5 o6 hn hat hW
        have hA := hW.2.2
        have hB := bfsN_inv hnx at_
        have hle := hB.le
        refine wm_iload hC  (pc := 39) dX9_goThrough_39 rfl ?_
        refine wm_aload_n hC 0 (pc := 41) dX9_goThrough_41 rfl rfl ?_
        refine wm_getI hC 31 11 fl_X9_122_8 rfl rfl rfl (pc := 42) dX9_goThrough_42 ?_
        refine wm_icmp_ge hC 98 (pc := 45) dX9_goThrough_45 (by decide) (by omega) (by rw [hA.1]; omega) (fun h45 => ?_) (fun h45 => ?_)
        · rw [hA.1] at h45
          refine wm_retV hC (pc := 98) dX9_goThrough_98 ?_
          have e : bfs (nxF (togX tk) (rv w) (2 * p + 1) (2 * q + 1)) = bfsN (nxF (togX tk) (rv w) (2 * p + 1) (2 * q + 1)) at_ := bfsN_stop (by omega) 64 hat
          rw [e]; exact hW
        · rw [hA.1] at h45
          refine wm_iconst hC (pc := 48) dX9_goThrough_48 ?_
          refine wm_istore hC  (pc := 49) dX9_goThrough_49  (by decide) rfl ?_
          have lp51 : ∀ (n : Nat) (k : Nat) (u2 : mW) (o7 : Option mV), n = 6 - k → k ≤ 6 → rwalk w u2 (inn (nxF (togX tk) (rv w) (2 * p + 1) (2 * q + 1)) (bfsN (nxF (togX tk) (rv w) (2 * p + 1) (2 * q + 1)) at_) at_ k) → Wm l G K 5 7 (qV (fun w' => rwalk w w' (bfs (nxF (togX tk) (rv w) (2 * p + 1) (2 * q + 1))))) 51 [some (mvR 31), some (mvI (p : Int)), some (mvI (q : Int)), some (mvI (mb tk)), some (mvI (at_ : Int)), some (mvI (k : Int)), o7] [] u2 := by
            intro n
            induction n using Nat.strongRecOn with
            | _ n ih =>
            intro k u2 o7 hm hk6 hW2
            rename_i n0 ih0
            have hB2 : BInv (inn (nxF (togX tk) (rv w) (2 * p + 1) (2 * q + 1)) (bfsN (nxF (togX tk) (rv w) (2 * p + 1) (2 * q + 1)) at_) at_ k) ∧ bN (bfsN (nxF (togX tk) (rv w) (2 * p + 1) (2 * q + 1)) at_) ≤ bN (inn (nxF (togX tk) (rv w) (2 * p + 1) (2 * q + 1)) (bfsN (nxF (togX tk) (rv w) (2 * p + 1) (2 * q + 1)) at_) at_ k) := inn_inv hnx hB (by omega) k hk6
            obtain ⟨hB2, hgrow⟩ := hB2
            have hle2 := hB2.le
            refine wm_iload hC  (pc := 51) dX9_goThrough_51 rfl ?_
            refine wm_bipush hC (pc := 53) dX9_goThrough_53 (by decide) ?_
            refine wm_icmp_ge hC 92 (pc := 55) dX9_goThrough_55 (by decide) (by omega) (by omega) (fun h55 => ?_) (fun h55 => ?_)
            · refine wm_iinc hC (pc := 92) dX9_goThrough_92 rfl rfl (by decide) rfl ?_
              refine wm_goto hC 39 (pc := 95) dX9_goThrough_95 (by decide) ?_
              obtain rfl : k = 6 := by omega
              have e : bfsN (nxF (togX tk) (rv w) (2 * p + 1) (2 * q + 1)) (at_ + 1) = inn (nxF (togX tk) (rv w) (2 * p + 1) (2 * q + 1)) (bfsN (nxF (togX tk) (rv w) (2 * p + 1) (2 * q + 1)) at_) at_ 6 := if_pos (by omega)
              exact ih0 _ (by omega) (at_ + 1) u2 _ _ rfl (by omega) (by rw [e]; exact hW2)
            · refine wm_aload_n hC 0 (pc := 58) dX9_goThrough_58 rfl rfl ?_
              refine wm_iload_n hC 1 (pc := 59) dX9_goThrough_59 rfl rfl ?_
              refine wm_iload_n hC 2 (pc := 60) dX9_goThrough_60 rfl rfl ?_
              refine wm_iload hC  (pc := 61) dX9_goThrough_61 rfl ?_
              refine wm_iload hC  (pc := 63) dX9_goThrough_63 rfl ?_
              refine wm_iload_n hC 3 (pc := 65) dX9_goThrough_65 rfl rfl ?_
              have hA2 := hW2.2.2
              refine wm_pV hC cv_X9_137 kc_X9_follows rfl rfl (s_X9_follows ⟨hR.congr (rwalk_keep hW2), hp, hq, hA2, hB2⟩ ⟨by omega, by omega⟩ ⟨by omega, by omega⟩) rfl (by decide) rfl (Nat.le_of_ble_eq_true rfl) (pc := 66) dX9_goThrough_66 ?_
              rw [rv_congr (rwalk_keep hW2)]
              have hr0 := hnx (bP (inn (nxF (togX tk) (rv w) (2 * p + 1) (2 * q + 1)) (bfsN (nxF (togX tk) (rv w) (2 * p + 1) (2 * q + 1)) at_) at_ k) at_) k (hB2.2.2.1 at_ (by omega) (by omega)).1.1 (hB2.2.2.1 at_ (by omega) (by omega)).1.2 (by omega) (by omega)
              refine wm_istore hC  (pc := 69) dX9_goThrough_69  (by decide) rfl ?_
              refine wm_iload hC  (pc := 71) dX9_goThrough_71 rfl ?_
              refine wm_if_lt hC 86 (pc := 73) dX9_goThrough_73 (by decide) (by omega) (fun h73 => ?_) (fun h73 => ?_)
              · have hW3 : rwalk w u2 (inn (nxF (togX tk) (rv w) (2 * p + 1) (2 * q + 1)) (bfsN (nxF (togX tk) (rv w) (2 * p + 1) (2 * q + 1)) at_) at_ (k + 1)) := by
                  have e : inn (nxF (togX tk) (rv w) (2 * p + 1) (2 * q + 1)) (bfsN (nxF (togX tk) (rv w) (2 * p + 1) (2 * q + 1)) at_) at_ (k + 1) = (inn (nxF (togX tk) (rv w) (2 * p + 1) (2 * q + 1)) (bfsN (nxF (togX tk) (rv w) (2 * p + 1) (2 * q + 1)) at_) at_ k) := if_pos (Or.inl (by omega))
                  rw [e]; exact hW2
                refine wm_iinc hC (pc := 86) dX9_goThrough_86 rfl rfl (by decide) rfl ?_
                refine wm_goto hC 51 (pc := 89) dX9_goThrough_89 (by decide) ?_
                exact ih _ (by omega) (k + 1) _ _ rfl (by omega) hW3
              · have hr : 0 ≤ (nxF (togX tk) (rv w) (2 * p + 1) (2 * q + 1)) (bP (inn (nxF (togX tk) (rv w) (2 * p + 1) (2 * q + 1)) (bfsN (nxF (togX tk) (rv w) (2 * p + 1) (2 * q + 1)) at_) at_ k) at_) k ∧ (nxF (togX tk) (rv w) (2 * p + 1) (2 * q + 1)) (bP (inn (nxF (togX tk) (rv w) (2 * p + 1) (2 * q + 1)) (bfsN (nxF (togX tk) (rv w) (2 * p + 1) (2 * q + 1)) at_) at_ k) at_) k < 64 := by omega
                refine wm_aload_n hC 0 (pc := 76) dX9_goThrough_76 rfl rfl ?_
                refine wm_iload hC  (pc := 77) dX9_goThrough_77 rfl ?_
                refine wm_iload hC  (pc := 79) dX9_goThrough_79 rfl ?_
                refine wm_iload hC  (pc := 81) dX9_goThrough_81 rfl ?_
                refine wm_vV hC cv_X9_133 kc_X9_finds rfl rfl (s_X9_finds hr (fun h => by rw [hA2.2.2 _ hr.1 hr.2] at h; have := hB2.lt hr.1 hr.2 h; rw [hA2.1]; omega) (by omega) (by rw [hA2.2.2 _ hr.1 hr.2]; have := hB2.2.2.2.1 _ hr.1 hr.2; omega)) rfl (by decide) rfl (Nat.le_of_ble_eq_true rfl) (pc := 83) dX9_goThrough_83 (fun w83 hw83 => ?_)
                have hW3 : rwalk w w83 (inn (nxF (togX tk) (rv w) (2 * p + 1) (2 * q + 1)) (bfsN (nxF (togX tk) (rv w) (2 * p + 1) (2 * q + 1)) at_) at_ (k + 1)) := by
                  rw [hw83, hA2.2.2 _ hr.1 hr.2]
                  by_cases h0 : bS (inn (nxF (togX tk) (rv w) (2 * p + 1) (2 * q + 1)) (bfsN (nxF (togX tk) (rv w) (2 * p + 1) (2 * q + 1)) at_) at_ k) ((nxF (togX tk) (rv w) (2 * p + 1) (2 * q + 1)) (bP (inn (nxF (togX tk) (rv w) (2 * p + 1) (2 * q + 1)) (bfsN (nxF (togX tk) (rv w) (2 * p + 1) (2 * q + 1)) at_) at_ k) at_) k) = -1
                  · rw [if_pos h0]
                    have e : inn (nxF (togX tk) (rv w) (2 * p + 1) (2 * q + 1)) (bfsN (nxF (togX tk) (rv w) (2 * p + 1) (2 * q + 1)) at_) at_ (k + 1) = addB (inn (nxF (togX tk) (rv w) (2 * p + 1) (2 * q + 1)) (bfsN (nxF (togX tk) (rv w) (2 * p + 1) (2 * q + 1)) at_) at_ k) ((nxF (togX tk) (rv w) (2 * p + 1) (2 * q + 1)) (bP (inn (nxF (togX tk) (rv w) (2 * p + 1) (2 * q + 1)) (bfsN (nxF (togX tk) (rv w) (2 * p + 1) (2 * q + 1)) at_) at_ k) at_) k) (bL (inn (nxF (togX tk) (rv w) (2 * p + 1) (2 * q + 1)) (bfsN (nxF (togX tk) (rv w) (2 * p + 1) (2 * q + 1)) at_) at_ k) at_ + 1) at_ k := if_neg (fun hh => by
                      rcases hh with hh | hh
                      · omega
                      · exact hh h0)
                    rw [e]
                    exact radd_walk hW2 (by rw [if_neg (by omega), (hA2.2.1 at_ (by omega) (by omega)).2.1])
                  · rw [if_neg h0]
                    have e : inn (nxF (togX tk) (rv w) (2 * p + 1) (2 * q + 1)) (bfsN (nxF (togX tk) (rv w) (2 * p + 1) (2 * q + 1)) at_) at_ (k + 1) = (inn (nxF (togX tk) (rv w) (2 * p + 1) (2 * q + 1)) (bfsN (nxF (togX tk) (rv w) (2 * p + 1) (2 * q + 1)) at_) at_ k) := if_pos (Or.inr h0)
                    rw [e]; exact hW2
                refine wm_iinc hC (pc := 86) dX9_goThrough_86 rfl rfl (by decide) rfl ?_
                refine wm_goto hC 51 (pc := 89) dX9_goThrough_89 (by decide) ?_
                exact ih _ (by omega) (k + 1) _ _ rfl (by omega) hW3
          exact lp51 _ 0 u _ rfl (by omega) hW
      have : j = 64 := by omega
      subst this
      exact lp39 _ 0 _ none none rfl (by omega) (rwalk0 w)
    · refine wm_aload_n hC 0 (pc := 10) dX9_goThrough_10 rfl rfl ?_
      refine wm_getR hC fl_X9_35_8 rfl rfl (pc := 11) dX9_goThrough_11 ?_
      refine wm_iload hC  (pc := 14) dX9_goThrough_14 rfl ?_
      refine wm_iconst hC (pc := 16) dX9_goThrough_16 ?_
      refine wm_iastore hC rfl (by omega) (by decide) (pc := 17) dX9_goThrough_17 ?_
      refine wm_iinc hC (pc := 18) dX9_goThrough_18 rfl rfl (by decide) rfl ?_
      refine wm_goto hC 3 (pc := 21) dX9_goThrough_21 (by decide) ?_
      rw [mfill_s]
      exact ih _ (by omega) (j + 1) rfl (by omega)
  have hh := lp3 _ 0 rfl (by omega)
  rw [show ((0 : Nat) : Int) = 0 from rfl, mfill_0] at hh
  exact hh
set_option maxRecDepth 100000 in
set_option maxHeartbeats 4000000 in
theorem s_X9_wordOf {l : Launch} {G : mG} {w : mW} {p q : Nat} {B : Bf} (hS : RSt2 w p q B) {i : Int} (hi : 0 ≤ i ∧ i < bN B) {k : Int} (hk : 0 ≤ k ∧ k < 64) : Mx l G 0 yX9_wordOf cX9_wordOf 4 (some .int) [mvR 31, mvI i, mvI k] w (qP (mvI (rwF B i k)) w) := by
  refine Mx.intro (by decide) RX9 rfl [some (mvR 31), some (mvI i), some (mvI k), none] (Nat.le_of_ble_eq_true rfl) rfl (fun K hC => ?_)
  obtain ⟨hR, hp, hq, hA, hB⟩ := id hS
  have hle := hB.le
  have hI := hB.2.2.1 i hi.1 hi.2
  have hIA := hA.2.1 i hi.1 hi.2
  have hk64 : k + 1 < 2147483648 := by omega
  refine wm_iload_n hC 2 (pc := 0) dX9_wordOf_0 rfl rfl ?_
  refine wm_aload_n hC 0 (pc := 1) dX9_wordOf_1 rfl rfl ?_
  refine wm_getR hC fl_X9_32_8 rfl rfl (pc := 2) dX9_wordOf_2 ?_
  refine wm_iload_n hC 1 (pc := 5) dX9_wordOf_5 rfl rfl ?_
  refine wm_iaload hC rfl (by omega) (by decide) (pc := 6) dX9_wordOf_6 ?_
  rw [hIA.2.1]
  refine wm_icmp_lt hC 13 (pc := 7) dX9_wordOf_7 (by decide) (by omega) (by omega) (fun h7 => ?_) (fun h7 => ?_)
  · refine wm_iload_n hC 1 (pc := 13) dX9_wordOf_13 rfl rfl ?_
    refine wm_istore_n hC 3 (pc := 14) dX9_wordOf_14 rfl (by decide) rfl ?_
    have lp15 : ∀ (n : Nat) (f : Nat) (r : Int), n = f → clm B k 64 i = clm B k f r → (0 ≤ r ∧ r < bN B) → bL B r ≤ f → Wm l G K 0 4 (qP (mvI (rwF B i k)) w) 15 [some (mvR 31), some (mvI i), some (mvI k), some (mvI r)] [] w := by
      intro n
      induction n using Nat.strongRecOn with
      | _ n ih =>
      intro f r hn he hr hf
      have hLr := (hB.2.2.1 r hr.1 hr.2).2.2.1
      refine wm_aload_n hC 0 (pc := 15) dX9_wordOf_15 rfl rfl ?_
      refine wm_getR hC fl_X9_32_8 rfl rfl (pc := 16) dX9_wordOf_16 ?_
      refine wm_iload_n hC 3 (pc := 19) dX9_wordOf_19 rfl rfl ?_
      refine wm_iaload hC rfl (by omega) (by decide) (pc := 20) dX9_wordOf_20 ?_
      refine wm_iload_n hC 2 (pc := 21) dX9_wordOf_21 rfl rfl ?_
      refine wm_iconst hC (pc := 22) dX9_wordOf_22 ?_
      refine wm_iadd hC (pc := 23) dX9_wordOf_23 ?_
      rw [(hA.2.1 r hr.1 hr.2).2.1]
      refine wm_icmp_le hC 37 (pc := 24) dX9_wordOf_24 (by decide) (by omega) (by omega) (fun h24 => ?_) (fun h24 => ?_)
      · rw [clm_done B k f r (by omega)] at he
        refine wm_aload_n hC 0 (pc := 37) dX9_wordOf_37 rfl rfl ?_
        refine wm_getR hC fl_X9_29_8 rfl rfl (pc := 38) dX9_wordOf_38 ?_
        refine wm_iload_n hC 3 (pc := 41) dX9_wordOf_41 rfl rfl ?_
        refine wm_iaload hC rfl (by omega) (by decide) (pc := 42) dX9_wordOf_42 ?_
        refine wm_iretP hC (pc := 43) dX9_wordOf_43 ?_ rfl
        unfold rwF; rw [if_pos (by omega), he]; exact (hA.2.1 r hr.1 hr.2).2.2.2
      · have hIr := hB.2.2.1 r hr.1 hr.2
        have hIr4 := hIr.2.2.2 (by omega)
        refine wm_aload_n hC 0 (pc := 27) dX9_wordOf_27 rfl rfl ?_
        refine wm_getR hC fl_X9_26_8 rfl rfl (pc := 28) dX9_wordOf_28 ?_
        refine wm_iload_n hC 3 (pc := 31) dX9_wordOf_31 rfl rfl ?_
        refine wm_iaload hC rfl (by omega) (by decide) (pc := 32) dX9_wordOf_32 ?_
        rw [(hA.2.1 r hr.1 hr.2).2.2.1]
        refine wm_istore_n hC 3 (pc := 33) dX9_wordOf_33 rfl (by decide) rfl ?_
        refine wm_goto hC 15 (pc := 34) dX9_wordOf_34 (by decide) ?_
        obtain ⟨f1, rfl⟩ : ∃ f1, f = f1 + 1 := ⟨f - 1, by omega⟩
        exact ih f1 (by omega) f1 (bO B r) rfl (by rw [he]; show (if k + 1 < bL B r then _ else _) = _; rw [if_pos (by omega)]) ⟨hIr4.1.1, by omega⟩ (by omega)
    exact lp15 64 64 i rfl rfl hi (by omega)
  · refine wm_ldc hC (-1000004) kI_X9_121 (pc := 10) dX9_wordOf_10 ?_
    refine wm_iretP hC (pc := 12) dX9_wordOf_12 ?_ rfl
    unfold rwF; rw [if_neg (by omega)]
set_option maxRecDepth 100000 in
set_option maxHeartbeats 4000000 in
theorem s_X9_lacking {l : Launch} {G : mG} {w : mW} {m m2 : Nat} (hm : m < 64) : Mx l G 1 yX9_lacking cX9_lacking 3 (some .int) [mvI (m : Int), mvI (m2 : Int)] w (qP (mvI (lkV (m ^^^ (m &&& m2)))) w) := by
  refine Mx.intro (by decide) RX9 rfl [some (mvI (m : Int)), some (mvI (m2 : Int)), none] (Nat.le_of_ble_eq_true rfl) rfl (fun K hC => ?_)
  have hx := andn_lt (b := m2) hm
  refine wm_iload_n hC 0 (pc := 0) dX9_lacking_0 rfl rfl ?_
  refine wm_iload_n hC 1 (pc := 1) dX9_lacking_1 rfl rfl ?_
  refine wm_iconst hC (pc := 2) dX9_lacking_2 ?_
  refine wm_inot hC (pc := 3) dX9_lacking_3 ?_
  refine wm_iandn hC m m2 (pc := 4) dX9_lacking_4 rfl rfl ?_
  refine wm_istore_n hC 2 (pc := 5) dX9_lacking_5 rfl (by decide) rfl ?_
  refine wm_iload_n hC 2 (pc := 6) dX9_lacking_6 rfl rfl ?_
  refine wm_if_ne hC 15 (pc := 7) dX9_lacking_7 (by decide) (by omega) (fun h7 => ?_) (fun h7 => ?_)
  · obtain ⟨b, hb1, hb2⟩ := nz_bit (s := m ^^^ (m &&& m2)) (by omega) (by omega)
    refine wm_iload_n hC 2 (pc := 15) dX9_lacking_15 rfl rfl ?_
    refine wm_pS hC cs_X9_112 kc_X9_lowest (s_X9_lowest (by omega) hb1 hb2) rfl (by decide) rfl (Nat.le_of_ble_eq_true rfl) (pc := 16) dX9_lacking_16 ?_
    refine wm_iretP hC (pc := 19) dX9_lacking_19 ?_ rfl
    unfold lkV
    first | rw [if_pos (by omega)] | rw [if_neg (by omega)]
  · refine wm_ldc hC (-1000004) kI_X9_121 (pc := 10) dX9_lacking_10 ?_
    refine wm_goto hC 19 (pc := 12) dX9_lacking_12 (by decide) ?_
    refine wm_iretP hC (pc := 19) dX9_lacking_19 ?_ rfl
    unfold lkV
    first | rw [if_pos (by omega)] | rw [if_neg (by omega)]
set_option maxRecDepth 100000 in
set_option maxHeartbeats 4000000 in
theorem s_X9_missing {l : Launch} {G : mG} {w : mW} {p q : Nat} {B : Bf} (hS : RSt2 w p q B) {i : Int} (hi : 0 ≤ i ∧ i < bN B) : Mx l G 4 yX9_missing cX9_missing 9 (some .int) [mvR 31, mvI (p : Int), mvI (q : Int), mvI i] w (qP (mvI (mssF (rv w) (2 * p + 1) (2 * q + 1) B i)) w) := by
  refine Mx.intro (by decide) RX9 rfl [some (mvR 31), some (mvI (p : Int)), some (mvI (q : Int)), some (mvI i), none, none, none, none, none] (Nat.le_of_ble_eq_true rfl) rfl (fun K hC => ?_)
  obtain ⟨hR, hp, hq, hA, hB⟩ := id hS
  have hle := hB.le
  have hI := hB.2.2.1 i hi.1 hi.2
  have hIA := hA.2.1 i hi.1 hi.2
  have hk1 := kd_rng (hR.ok hp) (s := bP B i / 8) (by omega)
  have hk2 := kd_rng (hR.ok hq) (s := bP B i % 8) (by omega)
  refine wm_aload_n hC 0 (pc := 0) dX9_missing_0 rfl rfl ?_
  refine wm_getR hC fl_X9_23_8 rfl rfl (pc := 1) dX9_missing_1 ?_
  refine wm_iload_n hC 3 (pc := 4) dX9_missing_4 rfl rfl ?_
  refine wm_iaload hC rfl (by omega) (by decide) (pc := 5) dX9_missing_5 ?_
  refine wm_bipush hC (pc := 6) dX9_missing_6 (by decide) ?_
  refine wm_idiv hC (pc := 8) dX9_missing_8 (by omega) (by omega) ?_
  rw [hIA.1]
  refine wm_istore hC  (pc := 9) dX9_missing_9  (by decide) rfl ?_
  refine wm_aload_n hC 0 (pc := 11) dX9_missing_11 rfl rfl ?_
  refine wm_getR hC fl_X9_23_8 rfl rfl (pc := 12) dX9_missing_12 ?_
  refine wm_iload_n hC 3 (pc := 15) dX9_missing_15 rfl rfl ?_
  refine wm_iaload hC rfl (by omega) (by decide) (pc := 16) dX9_missing_16 ?_
  refine wm_bipush hC (pc := 17) dX9_missing_17 (by decide) ?_
  refine wm_irem hC (pc := 19) dX9_missing_19 (by omega) (by omega) ?_
  rw [hIA.1]
  refine wm_istore hC  (pc := 20) dX9_missing_20  (by decide) rfl ?_
  refine wm_aload_n hC 0 (pc := 22) dX9_missing_22 rfl rfl ?_
  refine wm_iload_n hC 1 (pc := 23) dX9_missing_23 rfl rfl ?_
  refine wm_iload hC  (pc := 24) dX9_missing_24 rfl ?_
  refine wm_pV hC cv_X9_67 kc_X9_kindOf rfl rfl (s_X9_kindOf hp (by omega)) rfl (by decide) rfl (Nat.le_of_ble_eq_true rfl) (pc := 26) dX9_missing_26 ?_
  refine wm_aload_n hC 0 (pc := 29) dX9_missing_29 rfl rfl ?_
  refine wm_iload_n hC 2 (pc := 30) dX9_missing_30 rfl rfl ?_
  refine wm_iload hC  (pc := 31) dX9_missing_31 rfl ?_
  refine wm_pV hC cv_X9_67 kc_X9_kindOf rfl rfl (s_X9_kindOf hq (by omega)) rfl (by decide) rfl (Nat.le_of_ble_eq_true rfl) (pc := 33) dX9_missing_33 ?_
  refine wm_iconst hC (pc := 36) dX9_missing_36 ?_
  refine wm_pS hC cs_X9_125 kc_X9_together (s_X9_together (tk := true) (by omega) (by omega)) rfl (by decide) rfl (Nat.le_of_ble_eq_true rfl) (pc := 37) dX9_missing_37 ?_
  rw [togX_t]
  refine wm_ifb_ne hC 46 (pc := 40) dX9_missing_40 (by decide) (fun h40 => ?_) (fun h40 => ?_)
  · refine wm_aload_n hC 0 (pc := 46) dX9_missing_46 rfl rfl ?_
    refine wm_iload_n hC 1 (pc := 47) dX9_missing_47 rfl rfl ?_
    refine wm_iload hC  (pc := 48) dX9_missing_48 rfl ?_
    refine wm_pV hC cv_X9_67 kc_X9_kindOf rfl rfl (s_X9_kindOf hp (by omega)) rfl (by decide) rfl (Nat.le_of_ble_eq_true rfl) (pc := 50) dX9_missing_50 ?_
    refine wm_iconst hC (pc := 53) dX9_missing_53 ?_
    refine wm_icmp_ne hC 61 (pc := 54) dX9_missing_54 (by decide) (by omega) (by omega) (fun h54 => ?_) (fun h54 => ?_)
    · refine wm_iconst hC (pc := 61) dX9_missing_61 ?_
      refine wm_istore hC  (pc := 62) dX9_missing_62  (by decide) rfl ?_
      refine wm_aload_n hC 0 (pc := 64) dX9_missing_64 rfl rfl ?_
      refine wm_iload_n hC 1 (pc := 65) dX9_missing_65 rfl rfl ?_
      refine wm_iload hC  (pc := 66) dX9_missing_66 rfl ?_
      refine wm_pV hC cv_X9_88 kc_X9_words rfl rfl (s_X9_words hp (by omega) hR) rfl (by decide) rfl (Nat.le_of_ble_eq_true rfl) (pc := 68) dX9_missing_68 ?_
      refine wm_istore hC  (pc := 71) dX9_missing_71  (by decide) rfl ?_
      refine wm_aload_n hC 0 (pc := 73) dX9_missing_73 rfl rfl ?_
      refine wm_iload_n hC 2 (pc := 74) dX9_missing_74 rfl rfl ?_
      refine wm_iload hC  (pc := 75) dX9_missing_75 rfl ?_
      refine wm_pV hC cv_X9_88 kc_X9_words rfl rfl (s_X9_words hq (by omega) hR) rfl (by decide) rfl (Nat.le_of_ble_eq_true rfl) (pc := 77) dX9_missing_77 ?_
      refine wm_istore hC  (pc := 80) dX9_missing_80  (by decide) rfl ?_
      refine wm_iload hC  (pc := 82) dX9_missing_82 rfl ?_
      refine wm_if_eq hC 97 (pc := 84) dX9_missing_84 (by decide) (by omega) (fun h84 => ?_) (fun h84 => ?_)
      · refine wm_iload hC  (pc := 97) dX9_missing_97 rfl ?_
        refine wm_iload hC  (pc := 99) dX9_missing_99 rfl ?_
        refine wm_pS hC cs_X9_141 kc_X9_lacking (s_X9_lacking (m := msk (rv w) (2 * q + 1) (bP B i % 8)) (m2 := msk (rv w) (2 * p + 1) (bP B i / 8)) (msk_lt _ _ _)) rfl (by decide) rfl (Nat.le_of_ble_eq_true rfl) (pc := 101) dX9_missing_101 ?_
        refine wm_iretP hC (pc := 104) dX9_missing_104 ?_ rfl
        unfold mssF; rw [h40]
        show _ = lkV (lackF _ _ _)
        unfold lackF
        first | omega | rw [if_pos (by omega)] | rw [if_neg (by omega)]
      · refine wm_iload hC  (pc := 87) dX9_missing_87 rfl ?_
        refine wm_iload hC  (pc := 89) dX9_missing_89 rfl ?_
        refine wm_pS hC cs_X9_141 kc_X9_lacking (s_X9_lacking (m := msk (rv w) (2 * p + 1) (bP B i / 8)) (m2 := msk (rv w) (2 * q + 1) (bP B i % 8)) (msk_lt _ _ _)) rfl (by decide) rfl (Nat.le_of_ble_eq_true rfl) (pc := 91) dX9_missing_91 ?_
        refine wm_goto hC 104 (pc := 94) dX9_missing_94 (by decide) ?_
        refine wm_iretP hC (pc := 104) dX9_missing_104 ?_ rfl
        unfold mssF; rw [h40]
        show _ = lkV (lackF _ _ _)
        unfold lackF
        first | omega | rw [if_pos (by omega)] | rw [if_neg (by omega)]
    · refine wm_iconst hC (pc := 57) dX9_missing_57 ?_
      refine wm_goto hC 62 (pc := 58) dX9_missing_58 (by decide) ?_
      refine wm_istore hC  (pc := 62) dX9_missing_62  (by decide) rfl ?_
      refine wm_aload_n hC 0 (pc := 64) dX9_missing_64 rfl rfl ?_
      refine wm_iload_n hC 1 (pc := 65) dX9_missing_65 rfl rfl ?_
      refine wm_iload hC  (pc := 66) dX9_missing_66 rfl ?_
      refine wm_pV hC cv_X9_88 kc_X9_words rfl rfl (s_X9_words hp (by omega) hR) rfl (by decide) rfl (Nat.le_of_ble_eq_true rfl) (pc := 68) dX9_missing_68 ?_
      refine wm_istore hC  (pc := 71) dX9_missing_71  (by decide) rfl ?_
      refine wm_aload_n hC 0 (pc := 73) dX9_missing_73 rfl rfl ?_
      refine wm_iload_n hC 2 (pc := 74) dX9_missing_74 rfl rfl ?_
      refine wm_iload hC  (pc := 75) dX9_missing_75 rfl ?_
      refine wm_pV hC cv_X9_88 kc_X9_words rfl rfl (s_X9_words hq (by omega) hR) rfl (by decide) rfl (Nat.le_of_ble_eq_true rfl) (pc := 77) dX9_missing_77 ?_
      refine wm_istore hC  (pc := 80) dX9_missing_80  (by decide) rfl ?_
      refine wm_iload hC  (pc := 82) dX9_missing_82 rfl ?_
      refine wm_if_eq hC 97 (pc := 84) dX9_missing_84 (by decide) (by omega) (fun h84 => ?_) (fun h84 => ?_)
      · refine wm_iload hC  (pc := 97) dX9_missing_97 rfl ?_
        refine wm_iload hC  (pc := 99) dX9_missing_99 rfl ?_
        refine wm_pS hC cs_X9_141 kc_X9_lacking (s_X9_lacking (m := msk (rv w) (2 * q + 1) (bP B i % 8)) (m2 := msk (rv w) (2 * p + 1) (bP B i / 8)) (msk_lt _ _ _)) rfl (by decide) rfl (Nat.le_of_ble_eq_true rfl) (pc := 101) dX9_missing_101 ?_
        refine wm_iretP hC (pc := 104) dX9_missing_104 ?_ rfl
        unfold mssF; rw [h40]
        show _ = lkV (lackF _ _ _)
        unfold lackF
        first | omega | rw [if_pos (by omega)] | rw [if_neg (by omega)]
      · refine wm_iload hC  (pc := 87) dX9_missing_87 rfl ?_
        refine wm_iload hC  (pc := 89) dX9_missing_89 rfl ?_
        refine wm_pS hC cs_X9_141 kc_X9_lacking (s_X9_lacking (m := msk (rv w) (2 * p + 1) (bP B i / 8)) (m2 := msk (rv w) (2 * q + 1) (bP B i % 8)) (msk_lt _ _ _)) rfl (by decide) rfl (Nat.le_of_ble_eq_true rfl) (pc := 91) dX9_missing_91 ?_
        refine wm_goto hC 104 (pc := 94) dX9_missing_94 (by decide) ?_
        refine wm_iretP hC (pc := 104) dX9_missing_104 ?_ rfl
        unfold mssF; rw [h40]
        show _ = lkV (lackF _ _ _)
        unfold lackF
        first | omega | rw [if_pos (by omega)] | rw [if_neg (by omega)]
  · refine wm_ldc hC (-1000004) kI_X9_121 (pc := 43) dX9_missing_43 ?_
    refine wm_iretP hC (pc := 45) dX9_missing_45 ?_ rfl
    unfold mssF; rw [h40]; rfl
set_option maxRecDepth 100000 in
set_option maxHeartbeats 4000000 in
theorem s_X9_why {l : Launch} {G : mG} {w : mW} {p q : Nat} {B : Bf} (hS : RSt2 w p q B) {i : Int} (hi : 0 ≤ i ∧ i < bN B) : Mx l G 5 yX9_why cX9_why 7 (some .int) [mvR 31, mvI (p : Int), mvI (q : Int), mvI i] w (qP (mvI (rsnB rsnT (rv w) (2 * p + 1) (2 * q + 1) B i)) w) := by
  refine Mx.intro (by decide) RX9 rfl [some (mvR 31), some (mvI (p : Int)), some (mvI (q : Int)), some (mvI i), none, none, none] (Nat.le_of_ble_eq_true rfl) rfl (fun K hC => ?_)
  obtain ⟨hR, hp, hq, hA, hB⟩ := id hS
  have hle := hB.le
  have hI := hB.2.2.1 i hi.1 hi.2
  have hIA := hA.2.1 i hi.1 hi.2
  have hk1 := kd_rng (hR.ok hp) (s := bP B i / 8) (by omega)
  have hk2 := kd_rng (hR.ok hq) (s := bP B i % 8) (by omega)
  have hm1 : wmask (hasW (rv w) (2 * p + 1) (bP B i / 8)) 6 < 64 := msk_lt _ _ _
  have hm2 : wmask (hasW (rv w) (2 * q + 1) (bP B i % 8)) 6 < 64 := msk_lt _ _ _
  have hU : rsnB rsnT (rv w) (2 * p + 1) (2 * q + 1) B i = rsnT (kdF (rv w) (2 * p + 1) (bP B i / 8)) (wmask (hasW (rv w) (2 * p + 1) (bP B i / 8)) 6) (kdF (rv w) (2 * q + 1) (bP B i % 8)) (wmask (hasW (rv w) (2 * q + 1) (bP B i % 8)) 6) := rfl
  rw [hU]
  unfold rsnT
  refine wm_aload_n hC 0 (pc := 0) dX9_why_0 rfl rfl ?_
  refine wm_iload_n hC 1 (pc := 1) dX9_why_1 rfl rfl ?_
  refine wm_aload_n hC 0 (pc := 2) dX9_why_2 rfl rfl ?_
  refine wm_getR hC fl_X9_23_8 rfl rfl (pc := 3) dX9_why_3 ?_
  refine wm_iload_n hC 3 (pc := 6) dX9_why_6 rfl rfl ?_
  refine wm_iaload hC rfl (by omega) (by decide) (pc := 7) dX9_why_7 ?_
  rw [hIA.1]
  refine wm_bipush hC (pc := 8) dX9_why_8 (by decide) ?_
  refine wm_idiv hC (pc := 10) dX9_why_10 (by omega) (by omega) ?_
  refine wm_pV hC cv_X9_67 kc_X9_kindOf rfl rfl (s_X9_kindOf hp (by omega)) rfl (by decide) rfl (Nat.le_of_ble_eq_true rfl) (pc := 11) dX9_why_11 ?_
  refine wm_istore hC  (pc := 14) dX9_why_14  (by decide) rfl ?_
  refine wm_aload_n hC 0 (pc := 16) dX9_why_16 rfl rfl ?_
  refine wm_iload_n hC 2 (pc := 17) dX9_why_17 rfl rfl ?_
  refine wm_aload_n hC 0 (pc := 18) dX9_why_18 rfl rfl ?_
  refine wm_getR hC fl_X9_23_8 rfl rfl (pc := 19) dX9_why_19 ?_
  refine wm_iload_n hC 3 (pc := 22) dX9_why_22 rfl rfl ?_
  refine wm_iaload hC rfl (by omega) (by decide) (pc := 23) dX9_why_23 ?_
  rw [hIA.1]
  refine wm_bipush hC (pc := 24) dX9_why_24 (by decide) ?_
  refine wm_irem hC (pc := 26) dX9_why_26 (by omega) (by omega) ?_
  refine wm_pV hC cv_X9_67 kc_X9_kindOf rfl rfl (s_X9_kindOf hq (by omega)) rfl (by decide) rfl (Nat.le_of_ble_eq_true rfl) (pc := 27) dX9_why_27 ?_
  refine wm_istore hC  (pc := 30) dX9_why_30  (by decide) rfl ?_
  refine wm_iload hC  (pc := 32) dX9_why_32 rfl ?_
  refine wm_if_eq hC 42 (pc := 34) dX9_why_34 (by decide) (by omega) (fun h34 => ?_) (fun h34 => ?_)
  · refine wm_iload hC  (pc := 42) dX9_why_42 rfl ?_
    refine wm_iload hC  (pc := 44) dX9_why_44 rfl ?_
    refine wm_icmp_ne hC 53 (pc := 46) dX9_why_46 (by decide) (by omega) (by omega) (fun h46 => ?_) (fun h46 => ?_)
    · refine wm_iconst hC (pc := 53) dX9_why_53 ?_
      refine wm_iretP hC (pc := 54) dX9_why_54 ?_ rfl
      first | omega | (simp only [if_pos h77]; (repeat' split) <;> omega) | (simp only [if_neg h77]; (repeat' split) <;> omega) | ((repeat' split) <;> omega)
    · refine wm_iconst hC (pc := 49) dX9_why_49 ?_
      refine wm_goto hC 54 (pc := 50) dX9_why_50 (by decide) ?_
      refine wm_iretP hC (pc := 54) dX9_why_54 ?_ rfl
      first | omega | (simp only [if_pos h77]; (repeat' split) <;> omega) | (simp only [if_neg h77]; (repeat' split) <;> omega) | ((repeat' split) <;> omega)
  · refine wm_iload hC  (pc := 37) dX9_why_37 rfl ?_
    refine wm_if_ne hC 55 (pc := 39) dX9_why_39 (by decide) (by omega) (fun h39 => ?_) (fun h39 => ?_)
    · refine wm_iload hC  (pc := 55) dX9_why_55 rfl ?_
      refine wm_iload hC  (pc := 57) dX9_why_57 rfl ?_
      refine wm_icmp_ne hC 74 (pc := 59) dX9_why_59 (by decide) (by omega) (by omega) (fun h59 => ?_) (fun h59 => ?_)
      · refine wm_iload hC  (pc := 74) dX9_why_74 rfl ?_
        refine wm_iconst hC (pc := 76) dX9_why_76 ?_
        refine wm_icmp_ne hC 97 (pc := 77) dX9_why_77 (by decide) (by omega) (by omega) (fun h77 => ?_) (fun h77 => ?_)
        · refine wm_aload_n hC 0 (pc := 97) dX9_why_97 rfl rfl ?_
          refine wm_iload_n hC 2 (pc := 98) dX9_why_98 rfl rfl ?_
          refine wm_aload_n hC 0 (pc := 99) dX9_why_99 rfl rfl ?_
          refine wm_getR hC fl_X9_23_8 rfl rfl (pc := 100) dX9_why_100 ?_
          refine wm_iload_n hC 3 (pc := 103) dX9_why_103 rfl rfl ?_
          refine wm_iaload hC rfl (by omega) (by decide) (pc := 104) dX9_why_104 ?_
          rw [hIA.1]
          refine wm_bipush hC (pc := 105) dX9_why_105 (by decide) ?_
          refine wm_irem hC (pc := 107) dX9_why_107 (by omega) (by omega) ?_
          refine wm_pV hC cv_X9_88 kc_X9_words rfl rfl (s_X9_words hq (by omega) hR) rfl (by decide) rfl (Nat.le_of_ble_eq_true rfl) (pc := 108) dX9_why_108 ?_
          refine wm_istore hC  (pc := 111) dX9_why_111  (by decide) rfl ?_
          refine wm_iload hC  (pc := 113) dX9_why_113 rfl ?_
          refine wm_if_ne hC 122 (pc := 115) dX9_why_115 (by decide) (by omega) (fun h115 => ?_) (fun h115 => ?_)
          · refine wm_aload_n hC 0 (pc := 122) dX9_why_122 rfl rfl ?_
            refine wm_iload_n hC 1 (pc := 123) dX9_why_123 rfl rfl ?_
            refine wm_iload_n hC 2 (pc := 124) dX9_why_124 rfl rfl ?_
            refine wm_iload_n hC 3 (pc := 125) dX9_why_125 rfl rfl ?_
            refine wm_pV hC cv_X9_144 kc_X9_missing rfl rfl (s_X9_missing hS hi) rfl (by decide) rfl (Nat.le_of_ble_eq_true rfl) (pc := 126) dX9_why_126 ?_
            have hmi : mssF (rv w) (2 * p + 1) (2 * q + 1) B i = lkV (lackF (kdF (rv w) (2 * p + 1) (bP B i / 8)) (wmask (hasW (rv w) (2 * p + 1) (bP B i / 8)) 6) (wmask (hasW (rv w) (2 * q + 1) (bP B i % 8)) 6)) := by
              unfold mssF; rw [show togT (kdF (rv w) (2 * p + 1) (bP B i / 8)) (kdF (rv w) (2 * q + 1) (bP B i % 8)) = true from decide_eq_true (by omega)]; rfl
            rw [hmi]
            have hlv := lkV_rng (lackF (kdF (rv w) (2 * p + 1) (bP B i / 8)) (wmask (hasW (rv w) (2 * p + 1) (bP B i / 8)) 6) (wmask (hasW (rv w) (2 * q + 1) (bP B i % 8)) 6))
            refine wm_if_lt hC 136 (pc := 129) dX9_why_129 (by decide) (by omega) (fun h129 => ?_) (fun h129 => ?_)
            · refine wm_iconst hC (pc := 136) dX9_why_136 ?_
              refine wm_iretP hC (pc := 137) dX9_why_137 ?_ rfl
              first | omega | (simp only [if_pos h77]; (repeat' split) <;> omega) | (simp only [if_neg h77]; (repeat' split) <;> omega) | ((repeat' split) <;> omega)
            · refine wm_iconst hC (pc := 132) dX9_why_132 ?_
              refine wm_goto hC 137 (pc := 133) dX9_why_133 (by decide) ?_
              refine wm_iretP hC (pc := 137) dX9_why_137 ?_ rfl
              first | omega | (simp only [if_pos h77]; (repeat' split) <;> omega) | (simp only [if_neg h77]; (repeat' split) <;> omega) | ((repeat' split) <;> omega)
          · refine wm_iconst hC (pc := 118) dX9_why_118 ?_
            refine wm_goto hC 137 (pc := 119) dX9_why_119 (by decide) ?_
            refine wm_iretP hC (pc := 137) dX9_why_137 ?_ rfl
            first | omega | (simp only [if_pos h77]; (repeat' split) <;> omega) | (simp only [if_neg h77]; (repeat' split) <;> omega) | ((repeat' split) <;> omega)
        · refine wm_aload_n hC 0 (pc := 80) dX9_why_80 rfl rfl ?_
          refine wm_iload_n hC 1 (pc := 81) dX9_why_81 rfl rfl ?_
          refine wm_aload_n hC 0 (pc := 82) dX9_why_82 rfl rfl ?_
          refine wm_getR hC fl_X9_23_8 rfl rfl (pc := 83) dX9_why_83 ?_
          refine wm_iload_n hC 3 (pc := 86) dX9_why_86 rfl rfl ?_
          refine wm_iaload hC rfl (by omega) (by decide) (pc := 87) dX9_why_87 ?_
          rw [hIA.1]
          refine wm_bipush hC (pc := 88) dX9_why_88 (by decide) ?_
          refine wm_idiv hC (pc := 90) dX9_why_90 (by omega) (by omega) ?_
          refine wm_pV hC cv_X9_88 kc_X9_words rfl rfl (s_X9_words hp (by omega) hR) rfl (by decide) rfl (Nat.le_of_ble_eq_true rfl) (pc := 91) dX9_why_91 ?_
          refine wm_goto hC 111 (pc := 94) dX9_why_94 (by decide) ?_
          refine wm_istore hC  (pc := 111) dX9_why_111  (by decide) rfl ?_
          refine wm_iload hC  (pc := 113) dX9_why_113 rfl ?_
          refine wm_if_ne hC 122 (pc := 115) dX9_why_115 (by decide) (by omega) (fun h115 => ?_) (fun h115 => ?_)
          · refine wm_aload_n hC 0 (pc := 122) dX9_why_122 rfl rfl ?_
            refine wm_iload_n hC 1 (pc := 123) dX9_why_123 rfl rfl ?_
            refine wm_iload_n hC 2 (pc := 124) dX9_why_124 rfl rfl ?_
            refine wm_iload_n hC 3 (pc := 125) dX9_why_125 rfl rfl ?_
            refine wm_pV hC cv_X9_144 kc_X9_missing rfl rfl (s_X9_missing hS hi) rfl (by decide) rfl (Nat.le_of_ble_eq_true rfl) (pc := 126) dX9_why_126 ?_
            have hmi : mssF (rv w) (2 * p + 1) (2 * q + 1) B i = lkV (lackF (kdF (rv w) (2 * p + 1) (bP B i / 8)) (wmask (hasW (rv w) (2 * p + 1) (bP B i / 8)) 6) (wmask (hasW (rv w) (2 * q + 1) (bP B i % 8)) 6)) := by
              unfold mssF; rw [show togT (kdF (rv w) (2 * p + 1) (bP B i / 8)) (kdF (rv w) (2 * q + 1) (bP B i % 8)) = true from decide_eq_true (by omega)]; rfl
            rw [hmi]
            have hlv := lkV_rng (lackF (kdF (rv w) (2 * p + 1) (bP B i / 8)) (wmask (hasW (rv w) (2 * p + 1) (bP B i / 8)) 6) (wmask (hasW (rv w) (2 * q + 1) (bP B i % 8)) 6))
            refine wm_if_lt hC 136 (pc := 129) dX9_why_129 (by decide) (by omega) (fun h129 => ?_) (fun h129 => ?_)
            · refine wm_iconst hC (pc := 136) dX9_why_136 ?_
              refine wm_iretP hC (pc := 137) dX9_why_137 ?_ rfl
              first | omega | (simp only [if_pos h77]; (repeat' split) <;> omega) | (simp only [if_neg h77]; (repeat' split) <;> omega) | ((repeat' split) <;> omega)
            · refine wm_iconst hC (pc := 132) dX9_why_132 ?_
              refine wm_goto hC 137 (pc := 133) dX9_why_133 (by decide) ?_
              refine wm_iretP hC (pc := 137) dX9_why_137 ?_ rfl
              first | omega | (simp only [if_pos h77]; (repeat' split) <;> omega) | (simp only [if_neg h77]; (repeat' split) <;> omega) | ((repeat' split) <;> omega)
          · refine wm_iconst hC (pc := 118) dX9_why_118 ?_
            refine wm_goto hC 137 (pc := 119) dX9_why_119 (by decide) ?_
            refine wm_iretP hC (pc := 137) dX9_why_137 ?_ rfl
            first | omega | (simp only [if_pos h77]; (repeat' split) <;> omega) | (simp only [if_neg h77]; (repeat' split) <;> omega) | ((repeat' split) <;> omega)
      · refine wm_iload hC  (pc := 62) dX9_why_62 rfl ?_
        refine wm_iconst hC (pc := 64) dX9_why_64 ?_
        refine wm_icmp_ne hC 72 (pc := 65) dX9_why_65 (by decide) (by omega) (by omega) (fun h65 => ?_) (fun h65 => ?_)
        · refine wm_iconst hC (pc := 72) dX9_why_72 ?_
          refine wm_iretP hC (pc := 73) dX9_why_73 ?_ rfl
          first | omega | (simp only [if_pos h77]; (repeat' split) <;> omega) | (simp only [if_neg h77]; (repeat' split) <;> omega) | ((repeat' split) <;> omega)
        · refine wm_iconst hC (pc := 68) dX9_why_68 ?_
          refine wm_goto hC 73 (pc := 69) dX9_why_69 (by decide) ?_
          refine wm_iretP hC (pc := 73) dX9_why_73 ?_ rfl
          first | omega | (simp only [if_pos h77]; (repeat' split) <;> omega) | (simp only [if_neg h77]; (repeat' split) <;> omega) | ((repeat' split) <;> omega)
    · refine wm_iload hC  (pc := 42) dX9_why_42 rfl ?_
      refine wm_iload hC  (pc := 44) dX9_why_44 rfl ?_
      refine wm_icmp_ne hC 53 (pc := 46) dX9_why_46 (by decide) (by omega) (by omega) (fun h46 => ?_) (fun h46 => ?_)
      · refine wm_iconst hC (pc := 53) dX9_why_53 ?_
        refine wm_iretP hC (pc := 54) dX9_why_54 ?_ rfl
        first | omega | (simp only [if_pos h77]; (repeat' split) <;> omega) | (simp only [if_neg h77]; (repeat' split) <;> omega) | ((repeat' split) <;> omega)
      · refine wm_iconst hC (pc := 49) dX9_why_49 ?_
        refine wm_goto hC 54 (pc := 50) dX9_why_50 (by decide) ?_
        refine wm_iretP hC (pc := 54) dX9_why_54 ?_ rfl
        first | omega | (simp only [if_pos h77]; (repeat' split) <;> omega) | (simp only [if_neg h77]; (repeat' split) <;> omega) | ((repeat' split) <;> omega)
set_option maxRecDepth 100000 in
set_option maxHeartbeats 4000000 in
theorem s_X9_isEnd {l : Launch} {G : mG} {w : mW} {p q : Nat} {B : Bf} (hS : RSt2 w p q B) {i : Int} (hi : 0 ≤ i ∧ i < bN B) : Mx l G 1 yX9_isEnd cX9_isEnd 4 (some .boolean) [mvR 31, mvI (p : Int), mvI (q : Int), mvI i] w (qP (mvI (mb (endB (rv w) (2 * p + 1) (2 * q + 1) B i))) w) := by
  refine Mx.intro (by decide) RX9 rfl [some (mvR 31), some (mvI (p : Int)), some (mvI (q : Int)), some (mvI i)] (Nat.le_of_ble_eq_true rfl) rfl (fun K hC => ?_)
  obtain ⟨hR, hp, hq, hA, hB⟩ := id hS
  have hle := hB.le
  have hI := hB.2.2.1 i hi.1 hi.2
  have hIA := hA.2.1 i hi.1 hi.2
  have hk1 := kd_rng (hR.ok hp) (s := bP B i / 8) (by omega)
  have hk2 := kd_rng (hR.ok hq) (s := bP B i % 8) (by omega)
  unfold endB
  refine wm_aload_n hC 0 (pc := 0) dX9_isEnd_0 rfl rfl ?_
  refine wm_iload_n hC 1 (pc := 1) dX9_isEnd_1 rfl rfl ?_
  refine wm_aload_n hC 0 (pc := 2) dX9_isEnd_2 rfl rfl ?_
  refine wm_getR hC fl_X9_23_8 rfl rfl (pc := 3) dX9_isEnd_3 ?_
  refine wm_iload_n hC 3 (pc := 6) dX9_isEnd_6 rfl rfl ?_
  refine wm_iaload hC rfl (by omega) (by decide) (pc := 7) dX9_isEnd_7 ?_
  rw [hIA.1]
  refine wm_bipush hC (pc := 8) dX9_isEnd_8 (by decide) ?_
  refine wm_idiv hC (pc := 10) dX9_isEnd_10 (by omega) (by omega) ?_
  refine wm_pV hC cv_X9_67 kc_X9_kindOf rfl rfl (s_X9_kindOf hp (by omega)) rfl (by decide) rfl (Nat.le_of_ble_eq_true rfl) (pc := 11) dX9_isEnd_11 ?_
  refine wm_if_ne hC 38 (pc := 14) dX9_isEnd_14 (by decide) (by omega) (fun h14 => ?_) (fun h14 => ?_)
  · refine wm_iconst hC (pc := 38) dX9_isEnd_38 ?_
    refine wm_zretP hC (pc := 39) dX9_isEnd_39 ?_ rfl
    first | exact ((mb_0 _).mpr (decide_eq_false (by omega))).symm | exact ((mb_1 _).mpr (decide_eq_true (by omega))).symm
  · refine wm_aload_n hC 0 (pc := 17) dX9_isEnd_17 rfl rfl ?_
    refine wm_iload_n hC 2 (pc := 18) dX9_isEnd_18 rfl rfl ?_
    refine wm_aload_n hC 0 (pc := 19) dX9_isEnd_19 rfl rfl ?_
    refine wm_getR hC fl_X9_23_8 rfl rfl (pc := 20) dX9_isEnd_20 ?_
    refine wm_iload_n hC 3 (pc := 23) dX9_isEnd_23 rfl rfl ?_
    refine wm_iaload hC rfl (by omega) (by decide) (pc := 24) dX9_isEnd_24 ?_
    rw [hIA.1]
    refine wm_bipush hC (pc := 25) dX9_isEnd_25 (by decide) ?_
    refine wm_irem hC (pc := 27) dX9_isEnd_27 (by omega) (by omega) ?_
    refine wm_pV hC cv_X9_67 kc_X9_kindOf rfl rfl (s_X9_kindOf hq (by omega)) rfl (by decide) rfl (Nat.le_of_ble_eq_true rfl) (pc := 28) dX9_isEnd_28 ?_
    refine wm_if_ne hC 38 (pc := 31) dX9_isEnd_31 (by decide) (by omega) (fun h31 => ?_) (fun h31 => ?_)
    · refine wm_iconst hC (pc := 38) dX9_isEnd_38 ?_
      refine wm_zretP hC (pc := 39) dX9_isEnd_39 ?_ rfl
      first | exact ((mb_0 _).mpr (decide_eq_false (by omega))).symm | exact ((mb_1 _).mpr (decide_eq_true (by omega))).symm
    · refine wm_iconst hC (pc := 34) dX9_isEnd_34 ?_
      refine wm_goto hC 39 (pc := 35) dX9_isEnd_35 (by decide) ?_
      refine wm_zretP hC (pc := 39) dX9_isEnd_39 ?_ rfl
      first | exact ((mb_0 _).mpr (decide_eq_false (by omega))).symm | exact ((mb_1 _).mpr (decide_eq_true (by omega))).symm
set_option maxRecDepth 100000 in
set_option maxHeartbeats 4000000 in
theorem s_X9_isRowAsked {l : Launch} {G : mG} {w : mW} {c m : Int} (hc : -2147483648 ≤ c ∧ c < 2147483648) (hm : -2147483648 ≤ m ∧ m < 2147483648) : Mx l G 1 yX9_isRowAsked cX9_isRowAsked 2 (some .boolean) [mvI c, mvI m] w (qP (mvI (mb (decide ((0 ≤ c ∧ c ≤ m) ∨ (10 ≤ c ∧ c ≤ 73))))) w) := by
  refine Mx.intro (by decide) RX9 rfl [some (mvI c), some (mvI m)] (Nat.le_of_ble_eq_true rfl) rfl (fun K hC => ?_)
  refine wm_iload_n hC 0 (pc := 0) dX9_isRowAsked_0 rfl rfl ?_
  refine wm_iconst hC (pc := 1) dX9_isRowAsked_1 ?_
  refine wm_iload_n hC 1 (pc := 2) dX9_isRowAsked_2 rfl rfl ?_
  refine wm_pS hC cs_X9_59 kc_X9_in (s_X9_in (by omega) (by omega) (by omega)) rfl (by decide) rfl (Nat.le_of_ble_eq_true rfl) (pc := 3) dX9_isRowAsked_3 ?_
  refine wm_ifd_ne hC 20 (pc := 6) dX9_isRowAsked_6 (by decide) (fun h6 => ?_) (fun h6 => ?_)
  · refine wm_iconst hC (pc := 20) dX9_isRowAsked_20 ?_
    refine wm_goto hC 25 (pc := 21) dX9_isRowAsked_21 (by decide) ?_
    refine wm_zretP hC (pc := 25) dX9_isRowAsked_25 ?_ rfl
    first | exact ((mb_0 _).mpr (decide_eq_false (by omega))).symm | exact ((mb_1 _).mpr (decide_eq_true (by omega))).symm
  · refine wm_iload_n hC 0 (pc := 9) dX9_isRowAsked_9 rfl rfl ?_
    refine wm_bipush hC (pc := 10) dX9_isRowAsked_10 (by decide) ?_
    refine wm_bipush hC (pc := 12) dX9_isRowAsked_12 (by decide) ?_
    refine wm_pS hC cs_X9_59 kc_X9_in (s_X9_in (by omega) (by omega) (by omega)) rfl (by decide) rfl (Nat.le_of_ble_eq_true rfl) (pc := 14) dX9_isRowAsked_14 ?_
    refine wm_ifd_eq hC 24 (pc := 17) dX9_isRowAsked_17 (by decide) (fun h17 => ?_) (fun h17 => ?_)
    · refine wm_iconst hC (pc := 24) dX9_isRowAsked_24 ?_
      refine wm_zretP hC (pc := 25) dX9_isRowAsked_25 ?_ rfl
      first | exact ((mb_0 _).mpr (decide_eq_false (by omega))).symm | exact ((mb_1 _).mpr (decide_eq_true (by omega))).symm
    · refine wm_iconst hC (pc := 20) dX9_isRowAsked_20 ?_
      refine wm_goto hC 25 (pc := 21) dX9_isRowAsked_21 (by decide) ?_
      refine wm_zretP hC (pc := 25) dX9_isRowAsked_25 ?_ rfl
      first | exact ((mb_0 _).mpr (decide_eq_false (by omega))).symm | exact ((mb_1 _).mpr (decide_eq_true (by omega))).symm
set_option maxRecDepth 100000 in
set_option maxHeartbeats 4000000 in
theorem s_X9_firstStuck {l : Launch} {G : mG} {w : mW} {p q : Nat} {B : Bf} (hS : RSt2 w p q B) : Mx l G 6 yX9_firstStuck cX9_firstStuck 4 (some .int) [mvR 31, mvI (p : Int), mvI (q : Int)] w (qP (mvI (faultB rsnT (rv w) (2 * p + 1) (2 * q + 1) B)) w) := by
  refine Mx.intro (by decide) RX9 rfl [some (mvR 31), some (mvI (p : Int)), some (mvI (q : Int)), none] (Nat.le_of_ble_eq_true rfl) rfl (fun K hC => ?_)
  obtain ⟨hR, hp, hq, hA, hB⟩ := id hS
  have hle := hB.le
  refine wm_iconst hC (pc := 0) dX9_firstStuck_0 ?_
  refine wm_istore_n hC 3 (pc := 1) dX9_firstStuck_1 rfl (by decide) rfl ?_
  have lp2 : ∀ (n : Nat) (i : Nat), n = bN B - i → i ≤ bN B → faultB rsnT (rv w) (2 * p + 1) (2 * q + 1) B = ffst (fun i => decide (¬ rsnB rsnT (rv w) (2 * p + 1) (2 * q + 1) B i = 0)) (bN B - i) i → Wm l G K 6 4 (qP (mvI (faultB rsnT (rv w) (2 * p + 1) (2 * q + 1) B)) w) 2 [some (mvR 31), some (mvI (p : Int)), some (mvI (q : Int)), some (mvI (i : Int))] [] w := by
    intro n
    induction n using Nat.strongRecOn with
    | _ n ih =>
    intro i hn hi he
    refine wm_iload_n hC 3 (pc := 2) dX9_firstStuck_2 rfl rfl ?_
    refine wm_aload_n hC 0 (pc := 3) dX9_firstStuck_3 rfl rfl ?_
    refine wm_getI hC 31 11 fl_X9_122_8 rfl rfl rfl (pc := 4) dX9_firstStuck_4 ?_
    refine wm_icmp_ge hC 28 (pc := 7) dX9_firstStuck_7 (by decide) (by omega) (by rw [hA.1]; omega) (fun h7 => ?_) (fun h7 => ?_)
    · rw [hA.1] at h7
      refine wm_iconst hC (pc := 28) dX9_firstStuck_28 ?_
      refine wm_iretP hC (pc := 29) dX9_firstStuck_29 ?_ rfl
      have : i = bN B := by omega
      subst this
      rw [he, Nat.sub_self]; rfl
    · rw [hA.1] at h7
      refine wm_aload_n hC 0 (pc := 10) dX9_firstStuck_10 rfl rfl ?_
      refine wm_iload_n hC 1 (pc := 11) dX9_firstStuck_11 rfl rfl ?_
      refine wm_iload_n hC 2 (pc := 12) dX9_firstStuck_12 rfl rfl ?_
      refine wm_iload_n hC 3 (pc := 13) dX9_firstStuck_13 rfl rfl ?_
      refine wm_pV hC cv_X9_147 kc_X9_why rfl rfl (s_X9_why hS (by omega)) rfl (by decide) rfl (Nat.le_of_ble_eq_true rfl) (pc := 14) dX9_firstStuck_14 ?_
      have hrr : 0 ≤ rsnB rsnT (rv w) (2 * p + 1) (2 * q + 1) B i ∧ rsnB rsnT (rv w) (2 * p + 1) (2 * q + 1) B i ≤ 5 := rsnT_rng _ _ _ _
      refine wm_if_le hC 22 (pc := 17) dX9_firstStuck_17 (by decide) (by omega) (fun h17 => ?_) (fun h17 => ?_)
      · refine wm_iinc hC (pc := 22) dX9_firstStuck_22 rfl rfl (by decide) rfl ?_
        refine wm_goto hC 2 (pc := 25) dX9_firstStuck_25 (by decide) ?_
        exact ih _ (by omega) (i + 1) rfl (by omega) (by rw [he, show bN B - i = (bN B - (i + 1)) + 1 by omega]; exact if_neg (fun q => absurd (of_decide_eq_true q) (by omega)))
      · refine wm_iload_n hC 3 (pc := 20) dX9_firstStuck_20 rfl rfl ?_
        refine wm_iretP hC (pc := 21) dX9_firstStuck_21 ?_ rfl
        rw [he, show bN B - i = (bN B - (i + 1)) + 1 by omega]; exact (if_pos (decide_eq_true (by omega))).symm
  exact lp2 _ 0 rfl (by omega) rfl
