/-! the reference: its plans, read as the class reads its own -/
def rvw (c : Int → Int) : mW := fun a b => if b % 7 = 0 then c (56 * ((a / 2 : Nat) : Int) - 56 + b) else c (56 * ((a / 2 : Nat) : Int) - 56 + b) - 1
abbrev rv (w : mW) : mW := rvw (w 32)
theorem rv_k (w : mW) (p : Nat) (s : Int) : kdF (rv w) (2 * p + 1) s = w 32 (56 * (p : Int) + 7 * s) := by
  show (if s * 7 % 7 = 0 then _ else _) = _
  rw [if_pos (by omega), show (56 * (((2 * p + 1 + 1) / 2 : Nat) : Int) - 56 + s * 7) = 56 * (p : Int) + 7 * s by omega]
theorem rv_t (w : mW) (p : Nat) (s : Int) {k : Int} (hk : 0 ≤ k ∧ k < 6) : tgF (rv w) (2 * p + 1) s k = w 32 (56 * (p : Int) + 7 * s + 1 + k) - 1 := by
  show (if (s * 7 + 1 + k) % 7 = 0 then _ else _) = _
  rw [if_neg (by omega), show (56 * (((2 * p + 1 + 1) / 2 : Nat) : Int) - 56 + (s * 7 + 1 + k)) = 56 * (p : Int) + 7 * s + 1 + k by omega]
theorem rv_congr {w u : mW} (h : u 32 = w 32) : rv u = rv w := by rw [show rv u = rvw (u 32) from rfl, h]
def RPl (w : mW) : Prop := ∀ i : Int, 0 ≤ i → i < 168 → (i % 7 = 0 → 0 ≤ w 32 i ∧ w 32 i < 3) ∧ (¬ i % 7 = 0 → 0 ≤ w 32 i ∧ w 32 i ≤ 8)
theorem RPl.ok {w : mW} (h : RPl w) {p : Nat} (hp : p < 3) : PlanOK (rv w) (2 * p + 1) := by
  intro s s0 s1
  refine ⟨?_, fun k k0 k1 => ?_⟩
  · have e := rv_k w p s
    have hh := (h (56 * (p : Int) + 7 * s) (by omega) (by omega)).1 (by omega)
    rw [← e] at hh; exact hh
  · have e := rv_t w p s ⟨k0, k1⟩
    have hh := (h (56 * (p : Int) + 7 * s + 1 + k) (by omega) (by omega)).2 (by omega)
    have : tgF (rv w) (2 * p + 1) s k = rv w (2 * p + 1 + 1) (s * 7 + 1 + k) := rfl
    omega
theorem RPl.congr {w u : mW} (h : RPl w) (e : u 32 = w 32) : RPl u := by unfold RPl; rw [e]; exact h
theorem RPl.up {w : mW} (h : RPl w) {i v : Int} (hv : (i % 7 = 0 → 0 ≤ v ∧ v < 3) ∧ (¬ i % 7 = 0 → 0 ≤ v ∧ v ≤ 8)) : RPl (mup w 32 i v) := by
  intro b b0 b1
  rw [mup_get]
  split
  · rename_i hb; rw [show b = i from hb.2]; exact hv
  · exact h b b0 b1
def RInv (w : mW) : Prop := RPl w ∧ (0 ≤ w 31 2 ∧ w 31 2 ≤ 4) ∧ (0 ≤ w 31 4 ∧ w 31 4 ≤ 80) ∧ ∀ i : Int, 0 ≤ i → i < w 31 4 → 0 ≤ w 34 i ∧ w 34 i < 256
theorem mcopy_0 (w : mW) (i j : Nat) (sp dp : Int) : mcopy w i j sp dp 0 = w := by
  funext a b; unfold mcopy; rw [if_neg (by omega)]
theorem mcopy_up {w : mW} {i j : Nat} {sp dp b c : Int} (n : Nat) (h : i = j → ¬ (dp ≤ sp + n ∧ sp < dp)) (hb : b = dp + n) (hc : c = sp + n) : mup (mcopy w i j sp dp (n : Int)) j b (mcopy w i j sp dp (n : Int) i c) = mcopy w i j sp dp ((n + 1 : Nat) : Int) := by
  have e : mcopy w i j sp dp (n : Int) i c = w i c := by unfold mcopy; rw [if_neg (by omega)]
  rw [e]
  funext x y; simp only [mup, mcopy]
  by_cases q : x = j ∧ y = b
  · rw [if_pos q, if_pos (by omega), show sp + (y - dp) = c by omega]
  · rw [if_neg q]
    by_cases q2 : x = j ∧ dp ≤ y ∧ y < dp + n
    · rw [if_pos q2, if_pos (by omega)]
    · rw [if_neg q2, if_neg (by omega)]
def rrG (w : mW) : mW := mup (mcopy w 32 33 0 (168 * w 31 2) 168) 31 2 (w 31 2 + 1)
def rrS (w : mW) : mW := mup (mcopy w 33 33 168 0 504) 31 2 3
def rrF (w : mW) : mW := if w 31 2 = 4 then rrG (rrS w) else rrG w
theorem rrG_ne {w : mW} {a : Nat} (h7 : a ≠ 31) (h8 : a ≠ 33) : rrG w a = w a := by unfold rrG; rw [mup_ne h7, mcopy_ne h8]
theorem rrF_ne {w : mW} {a : Nat} (h7 : a ≠ 31) (h8 : a ≠ 33) : rrF w a = w a := by
  unfold rrF; split
  · rw [rrG_ne h7 h8]; unfold rrS; rw [mup_ne h7, mcopy_ne h8]
  · exact rrG_ne h7 h8
def rmir (w : mW) (p : Nat) (m : Int) : mW := fun a b => if a = 32 ∧ 56 * (p : Int) ≤ b ∧ b < 56 * (p : Int) + m ∧ b % 7 = 0 then swp (w a b) else w a b
theorem rmir_0 (w : mW) (p : Nat) : rmir w p 0 = w := by funext a b; unfold rmir; rw [if_neg (by omega)]
theorem rmir_at (w : mW) (p j : Nat) : rmir w p (7 * (j : Int)) 32 (56 * (p : Int) + 7 * (j : Int)) = w 32 (56 * (p : Int) + 7 * (j : Int)) := by unfold rmir; rw [if_neg (by omega)]
theorem rmir_k (w : mW) (p j : Nat) (z : Int) (hz : z = swp (w 32 (56 * (p : Int) + 7 * (j : Int)))) : mup (rmir w p (7 * (j : Int))) 32 (56 * (p : Int) + 7 * (j : Int)) z = rmir w p (7 * ((j + 1 : Nat) : Int)) := by
  funext a b; simp only [rmir, mup]
  by_cases h : a = 32 ∧ b = 56 * (p : Int) + 7 * (j : Int)
  · rw [if_pos h, if_pos (by omega), hz, h.1, h.2]
  · rw [if_neg h]
    by_cases h2 : a = 32 ∧ 56 * (p : Int) ≤ b ∧ b < 56 * (p : Int) + 7 * (j : Int) ∧ b % 7 = 0
    · rw [if_pos h2, if_pos (by omega)]
    · rw [if_neg h2, if_neg (by omega)]
theorem RPl.mir {w : mW} (h : RPl w) (p : Nat) (m : Int) : RPl (rmir w p m) := by
  intro b b0 b1
  have hb := h b b0 b1
  unfold rmir
  split
  · rename_i q
    refine ⟨fun _ => ?_, fun q2 => absurd q.2.2.2 q2⟩
    unfold swp
    (repeat' split) <;> omega
  · exact hb
theorem RPl.copy {w : mW} (h : RPl w) {p q : Nat} (hp : p < 3) (hq : q < 3) {n : Int} (hn : n ≤ 56) : RPl (mcopy w 32 32 (56 * (p : Int)) (56 * (q : Int)) n) := by
  intro b b0 b1
  unfold mcopy
  split
  · rename_i hq
    have hb := h (56 * (p : Int) + (b - 56 * (q : Int))) (by omega) (by omega)
    exact ⟨fun e => hb.1 (by omega), fun e => hb.2 (by omega)⟩
  · exact h b b0 b1
def ruF (w : mW) : mW := mcopy (mup w 31 2 (w 31 2 - 1)) 33 32 (168 * (w 31 2 - 1)) 0 168
theorem cnt_stop {s : Nat} {j : Nat} (h : s / 2 ^ j = 0) : ∀ m, cnt (fun i => s.testBit i) (j + m) = cnt (fun i => s.testBit i) j
  | 0 => rfl
  | m + 1 => by
    have hs : s < 2 ^ j := by
      rcases Nat.lt_or_ge s (2 ^ j) with q | q
      · exact q
      · have := Nat.div_pos q (Nat.two_pow_pos j); omega
    have hb : s.testBit (j + m) = false := Nat.testBit_lt_two_pow (Nat.lt_of_lt_of_le hs (Nat.pow_le_pow_right (by decide) (by omega)))
    show cnt (fun i => s.testBit i) (j + m) + (s.testBit (j + m)).toNat = _
    rw [hb, cnt_stop h m]; rfl
set_option maxRecDepth 100000 in
set_option maxHeartbeats 4000000 in
theorem s_X9_in {l : Launch} {G : mG} {w : mW} {v lo hi : Int} (h1 : -2147483648 ≤ v ∧ v < 2147483648) (h2 : -2147483648 ≤ lo ∧ lo < 2147483648) (h3 : -2147483648 ≤ hi ∧ hi < 2147483648) : Mx l G 0 yX9_in cX9_in 3 (some .boolean) [mvI v, mvI lo, mvI hi] w (qP (mvI (mb (decide (lo ≤ v ∧ v ≤ hi)))) w) := by
  refine Mx.intro (by decide) RX9 rfl [some (mvI v), some (mvI lo), some (mvI hi)] (Nat.le_of_ble_eq_true rfl) rfl (fun K hC => ?_)
  refine wm_iload_n hC 0 (pc := 0) dX9_in_0 rfl rfl ?_
  refine wm_iload_n hC 1 (pc := 1) dX9_in_1 rfl rfl ?_
  refine wm_icmp_lt hC 14 (pc := 2) dX9_in_2 (by decide) (by omega) (by omega) (fun h2 => ?_) (fun h2 => ?_)
  · refine wm_iconst hC (pc := 14) dX9_in_14 ?_
    refine wm_zretP hC (pc := 15) dX9_in_15 ?_ rfl
    first | exact ((mb_0 _).mpr (decide_eq_false (by omega))).symm | exact ((mb_1 _).mpr (decide_eq_true (by omega))).symm
  · refine wm_iload_n hC 0 (pc := 5) dX9_in_5 rfl rfl ?_
    refine wm_iload_n hC 2 (pc := 6) dX9_in_6 rfl rfl ?_
    refine wm_icmp_gt hC 14 (pc := 7) dX9_in_7 (by decide) (by omega) (by omega) (fun h7 => ?_) (fun h7 => ?_)
    · refine wm_iconst hC (pc := 14) dX9_in_14 ?_
      refine wm_zretP hC (pc := 15) dX9_in_15 ?_ rfl
      first | exact ((mb_0 _).mpr (decide_eq_false (by omega))).symm | exact ((mb_1 _).mpr (decide_eq_true (by omega))).symm
    · refine wm_iconst hC (pc := 10) dX9_in_10 ?_
      refine wm_goto hC 15 (pc := 11) dX9_in_11 (by decide) ?_
      refine wm_zretP hC (pc := 15) dX9_in_15 ?_ rfl
      first | exact ((mb_0 _).mpr (decide_eq_false (by omega))).symm | exact ((mb_1 _).mpr (decide_eq_true (by omega))).symm
set_option maxRecDepth 100000 in
set_option maxHeartbeats 4000000 in
theorem s_X9_isPlan {l : Launch} {G : mG} {w : mW} {z : Int} (hz : -2147483648 ≤ z ∧ z < 2147483648) : Mx l G 1 yX9_isPlan cX9_isPlan 1 (some .boolean) [mvI z] w (qP (mvI (mb (decide (0 ≤ z ∧ z ≤ 2)))) w) := by
  refine Mx.intro (by decide) RX9 rfl [some (mvI z)] (Nat.le_of_ble_eq_true rfl) rfl (fun K hC => ?_)
  refine wm_iload_n hC 0 (pc := 0) dX9_isPlan_0 rfl rfl ?_
  refine wm_iconst hC (pc := 1) dX9_isPlan_1 ?_
  refine wm_iconst hC (pc := 2) dX9_isPlan_2 ?_
  refine wm_pS hC cs_X9_59 kc_X9_in (s_X9_in (by omega) (by omega) (by omega)) rfl (by decide) rfl (Nat.le_of_ble_eq_true rfl) (pc := 3) dX9_isPlan_3 ?_
  refine wm_zretP hC (pc := 6) dX9_isPlan_6 ?_ rfl
  rfl
set_option maxRecDepth 100000 in
set_option maxHeartbeats 4000000 in
theorem s_X9_isState {l : Launch} {G : mG} {w : mW} {z : Int} (hz : -2147483648 ≤ z ∧ z < 2147483648) : Mx l G 1 yX9_isState cX9_isState 1 (some .boolean) [mvI z] w (qP (mvI (mb (decide (0 ≤ z ∧ z ≤ 7)))) w) := by
  refine Mx.intro (by decide) RX9 rfl [some (mvI z)] (Nat.le_of_ble_eq_true rfl) rfl (fun K hC => ?_)
  refine wm_iload_n hC 0 (pc := 0) dX9_isState_0 rfl rfl ?_
  refine wm_iconst hC (pc := 1) dX9_isState_1 ?_
  refine wm_bipush hC (pc := 2) dX9_isState_2 (by decide) ?_
  refine wm_pS hC cs_X9_59 kc_X9_in (s_X9_in (by omega) (by omega) (by omega)) rfl (by decide) rfl (Nat.le_of_ble_eq_true rfl) (pc := 4) dX9_isState_4 ?_
  refine wm_zretP hC (pc := 7) dX9_isState_7 ?_ rfl
  rfl
set_option maxRecDepth 100000 in
set_option maxHeartbeats 4000000 in
theorem s_X9_isWord {l : Launch} {G : mG} {w : mW} {z : Int} (hz : -2147483648 ≤ z ∧ z < 2147483648) : Mx l G 1 yX9_isWord cX9_isWord 1 (some .boolean) [mvI z] w (qP (mvI (mb (decide (0 ≤ z ∧ z ≤ 5)))) w) := by
  refine Mx.intro (by decide) RX9 rfl [some (mvI z)] (Nat.le_of_ble_eq_true rfl) rfl (fun K hC => ?_)
  refine wm_iload_n hC 0 (pc := 0) dX9_isWord_0 rfl rfl ?_
  refine wm_iconst hC (pc := 1) dX9_isWord_1 ?_
  refine wm_iconst hC (pc := 2) dX9_isWord_2 ?_
  refine wm_pS hC cs_X9_59 kc_X9_in (s_X9_in (by omega) (by omega) (by omega)) rfl (by decide) rfl (Nat.le_of_ble_eq_true rfl) (pc := 3) dX9_isWord_3 ?_
  refine wm_zretP hC (pc := 6) dX9_isWord_6 ?_ rfl
  rfl
set_option maxRecDepth 100000 in
set_option maxHeartbeats 4000000 in
theorem s_X9_kindOf {l : Launch} {G : mG} {w : mW} {p : Nat} (hp : p < 3) {z : Int} (hz : 0 ≤ z ∧ z < 8) : Mx l G 0 yX9_kindOf cX9_kindOf 3 (some .int) [mvR 31, mvI (p : Int), mvI z] w (qP (mvI (kdF (rv w) (2 * p + 1) z)) w) := by
  refine Mx.intro (by decide) RX9 rfl [some (mvR 31), some (mvI (p : Int)), some (mvI z)] (Nat.le_of_ble_eq_true rfl) rfl (fun K hC => ?_)
  refine wm_aload_n hC 0 (pc := 0) dX9_kindOf_0 rfl rfl ?_
  refine wm_getR hC fl_X9_7_8 rfl rfl (pc := 1) dX9_kindOf_1 ?_
  refine wm_bipush hC (pc := 4) dX9_kindOf_4 (by decide) ?_
  refine wm_iload_n hC 1 (pc := 6) dX9_kindOf_6 rfl rfl ?_
  refine wm_imul hC (pc := 7) dX9_kindOf_7 ?_
  refine wm_bipush hC (pc := 8) dX9_kindOf_8 (by decide) ?_
  refine wm_iload_n hC 2 (pc := 10) dX9_kindOf_10 rfl rfl ?_
  refine wm_imul hC (pc := 11) dX9_kindOf_11 ?_
  refine wm_iadd hC (pc := 12) dX9_kindOf_12 ?_
  refine wm_iaload hC rfl (by omega) (by decide) (pc := 13) dX9_kindOf_13 ?_
  refine wm_iretP hC (pc := 14) dX9_kindOf_14 ?_ rfl
  exact (rv_k _ _ _).symm
set_option maxRecDepth 100000 in
set_option maxHeartbeats 4000000 in
theorem s_X9_placeOf {l : Launch} {G : mG} {w : mW} {p : Nat} {z k : Int} : Mx l G 0 yX9_placeOf cX9_placeOf 3 (some .int) [mvI (p : Int), mvI z, mvI k] w (qP (mvI (56 * (p : Int) + 7 * z + 1 + k)) w) := by
  refine Mx.intro (by decide) RX9 rfl [some (mvI (p : Int)), some (mvI z), some (mvI k)] (Nat.le_of_ble_eq_true rfl) rfl (fun K hC => ?_)
  refine wm_bipush hC (pc := 0) dX9_placeOf_0 (by decide) ?_
  refine wm_iload_n hC 0 (pc := 2) dX9_placeOf_2 rfl rfl ?_
  refine wm_imul hC (pc := 3) dX9_placeOf_3 ?_
  refine wm_bipush hC (pc := 4) dX9_placeOf_4 (by decide) ?_
  refine wm_iload_n hC 1 (pc := 6) dX9_placeOf_6 rfl rfl ?_
  refine wm_imul hC (pc := 7) dX9_placeOf_7 ?_
  refine wm_iadd hC (pc := 8) dX9_placeOf_8 ?_
  refine wm_iconst hC (pc := 9) dX9_placeOf_9 ?_
  refine wm_iadd hC (pc := 10) dX9_placeOf_10 ?_
  refine wm_iload_n hC 2 (pc := 11) dX9_placeOf_11 rfl rfl ?_
  refine wm_iadd hC (pc := 12) dX9_placeOf_12 ?_
  refine wm_iretP hC (pc := 13) dX9_placeOf_13 ?_ rfl
  rfl
set_option maxRecDepth 100000 in
set_option maxHeartbeats 4000000 in
theorem s_X9_led {l : Launch} {G : mG} {w : mW} {p : Nat} (hp : p < 3) {z k : Int} (hz : 0 ≤ z ∧ z < 8) (hk : 0 ≤ k ∧ k < 6) : Mx l G 1 yX9_led cX9_led 4 (some .int) [mvR 31, mvI (p : Int), mvI z, mvI k] w (qP (mvI (tgF (rv w) (2 * p + 1) z k)) w) := by
  refine Mx.intro (by decide) RX9 rfl [some (mvR 31), some (mvI (p : Int)), some (mvI z), some (mvI k)] (Nat.le_of_ble_eq_true rfl) rfl (fun K hC => ?_)
  refine wm_aload_n hC 0 (pc := 0) dX9_led_0 rfl rfl ?_
  refine wm_getR hC fl_X9_7_8 rfl rfl (pc := 1) dX9_led_1 ?_
  refine wm_iload_n hC 1 (pc := 4) dX9_led_4 rfl rfl ?_
  refine wm_iload_n hC 2 (pc := 5) dX9_led_5 rfl rfl ?_
  refine wm_iload_n hC 3 (pc := 6) dX9_led_6 rfl rfl ?_
  refine wm_pS hC cs_X9_63 kc_X9_placeOf (s_X9_placeOf) rfl (by decide) rfl (Nat.le_of_ble_eq_true rfl) (pc := 7) dX9_led_7 ?_
  refine wm_iaload hC rfl (by omega) (by decide) (pc := 10) dX9_led_10 ?_
  refine wm_iconst hC (pc := 11) dX9_led_11 ?_
  refine wm_isub hC (pc := 12) dX9_led_12 ?_
  refine wm_iretP hC (pc := 13) dX9_led_13 ?_ rfl
  exact (rv_t _ _ _ hk).symm
/-- the state an arrow of a state that lasts leads to -/
def ldsF (w : mW) (p : Nat) (s k : Int) : Int := if kdF w p s = 0 then -1 else tgF w p s k
theorem lds_rng {w : mW} {p : Nat} (h : PlanOK w p) {s k : Int} (hs : 0 ≤ s ∧ s < 8) (hk : 0 ≤ k ∧ k < 6) : -1 ≤ ldsF w p s k ∧ ldsF w p s k < 8 := by
  have := tg_rng h hs hk
  unfold ldsF; split <;> omega
set_option maxRecDepth 100000 in
set_option maxHeartbeats 4000000 in
theorem s_X9_leads {l : Launch} {G : mG} {w : mW} {p : Nat} (hp : p < 3) {z k : Int} (hz : 0 ≤ z ∧ z < 8) (hk : 0 ≤ k ∧ k < 6) (hR : RPl w) : Mx l G 2 yX9_leads cX9_leads 4 (some .int) [mvR 31, mvI (p : Int), mvI z, mvI k] w (qP (mvI (ldsF (rv w) (2 * p + 1) z k)) w) := by
  refine Mx.intro (by decide) RX9 rfl [some (mvR 31), some (mvI (p : Int)), some (mvI z), some (mvI k)] (Nat.le_of_ble_eq_true rfl) rfl (fun K hC => ?_)
  have hkd := kd_rng (hR.ok hp) hz
  refine wm_aload_n hC 0 (pc := 0) dX9_leads_0 rfl rfl ?_
  refine wm_iload_n hC 1 (pc := 1) dX9_leads_1 rfl rfl ?_
  refine wm_iload_n hC 2 (pc := 2) dX9_leads_2 rfl rfl ?_
  refine wm_pV hC cv_X9_67 kc_X9_kindOf rfl rfl (s_X9_kindOf (by omega) (by omega)) rfl (by decide) rfl (Nat.le_of_ble_eq_true rfl) (pc := 3) dX9_leads_3 ?_
  refine wm_if_ne hC 13 (pc := 6) dX9_leads_6 (by decide) (by omega) (fun h6 => ?_) (fun h6 => ?_)
  · refine wm_aload_n hC 0 (pc := 13) dX9_leads_13 rfl rfl ?_
    refine wm_iload_n hC 1 (pc := 14) dX9_leads_14 rfl rfl ?_
    refine wm_iload_n hC 2 (pc := 15) dX9_leads_15 rfl rfl ?_
    refine wm_iload_n hC 3 (pc := 16) dX9_leads_16 rfl rfl ?_
    refine wm_pV hC cv_X9_71 kc_X9_led rfl rfl (s_X9_led (by omega) (by omega) (by omega)) rfl (by decide) rfl (Nat.le_of_ble_eq_true rfl) (pc := 17) dX9_leads_17 ?_
    refine wm_iretP hC (pc := 20) dX9_leads_20 ?_ rfl
    unfold ldsF
    first | rw [if_pos (by omega)] | rw [if_neg (by omega)]
  · refine wm_iconst hC (pc := 9) dX9_leads_9 ?_
    refine wm_goto hC 20 (pc := 10) dX9_leads_10 (by decide) ?_
    refine wm_iretP hC (pc := 20) dX9_leads_20 ?_ rfl
    unfold ldsF
    first | rw [if_pos (by omega)] | rw [if_neg (by omega)]
set_option maxRecDepth 100000 in
set_option maxHeartbeats 4000000 in
theorem s_X9_words {l : Launch} {G : mG} {w : mW} {p : Nat} (hp : p < 3) {z : Int} (hz : 0 ≤ z ∧ z < 8) (hR : RPl w) : Mx l G 2 yX9_words cX9_words 5 (some .int) [mvR 31, mvI (p : Int), mvI z] w (qP (mvI ((wmask (hasW (rv w) (2 * p + 1) z) 6 : Nat) : Int)) w) := by
  refine Mx.intro (by decide) RX9 rfl [some (mvR 31), some (mvI (p : Int)), some (mvI z), none, none] (Nat.le_of_ble_eq_true rfl) rfl (fun K hC => ?_)
  refine wm_iconst hC (pc := 0) dX9_words_0 ?_
  refine wm_istore_n hC 3 (pc := 1) dX9_words_1 rfl (by decide) rfl ?_
  refine wm_iconst hC (pc := 2) dX9_words_2 ?_
  refine wm_istore hC  (pc := 3) dX9_words_3  (by decide) rfl ?_
  have lp5 : ∀ (n : Nat) (j : Nat), n = 6 - j → j ≤ 6 → Wm l G K 2 5 (qP (mvI ((wmask (hasW (rv w) (2 * p + 1) z) 6 : Nat) : Int)) w) 5 [some (mvR 31), some (mvI (p : Int)), some (mvI z), some (mvI ((wmask (hasW (rv w) (2 * p + 1) z) j : Nat) : Int)), some (mvI (j : Int))] [] w := by
    intro n
    induction n using Nat.strongRecOn with
    | _ n ih =>
    intro j hn hj
    refine wm_iload hC  (pc := 5) dX9_words_5 rfl ?_
    refine wm_bipush hC (pc := 7) dX9_words_7 (by decide) ?_
    refine wm_icmp_ge hC 40 (pc := 9) dX9_words_9 (by decide) (by omega) (by omega) (fun h9 => ?_) (fun h9 => ?_)
    · refine wm_iload_n hC 3 (pc := 40) dX9_words_40 rfl rfl ?_
      refine wm_iretP hC (pc := 41) dX9_words_41 ?_ rfl
      have : j = 6 := by omega
      rw [this]
    · refine wm_iload_n hC 3 (pc := 12) dX9_words_12 rfl rfl ?_
      refine wm_aload_n hC 0 (pc := 13) dX9_words_13 rfl rfl ?_
      refine wm_iload_n hC 1 (pc := 14) dX9_words_14 rfl rfl ?_
      refine wm_iload_n hC 2 (pc := 15) dX9_words_15 rfl rfl ?_
      refine wm_iload hC  (pc := 16) dX9_words_16 rfl ?_
      refine wm_pV hC cv_X9_71 kc_X9_led rfl rfl (s_X9_led (by omega) (by omega) (by omega)) rfl (by decide) rfl (Nat.le_of_ble_eq_true rfl) (pc := 18) dX9_words_18 ?_
      have hb := tg_rng (hR.ok hp) hz (k := (j : Int)) (by omega)
      have hsh : hasW (rv w) (2 * p + 1) z j = decide (¬ tgF (rv w) (2 * p + 1) z (j : Int) = -1) := rfl
      refine wm_if_ge hC 28 (pc := 21) dX9_words_21 (by decide) (by omega) (fun h21 => ?_) (fun h21 => ?_)
      · have e : wmask (hasW (rv w) (2 * p + 1) z) (j + 1) = wmask (hasW (rv w) (2 * p + 1) z) j ||| 2 ^ j := by
          show (if hasW (rv w) (2 * p + 1) z j then _ else _) = _
          rw [hsh, decide_eq_true (by omega)]; rfl
        refine wm_iconst hC (pc := 28) dX9_words_28 ?_
        refine wm_iload hC  (pc := 29) dX9_words_29 rfl ?_
        refine wm_ishl1 hC j (pc := 31) dX9_words_31 rfl (by omega) ?_
        refine wm_ior hC _ _ (pc := 32) dX9_words_32 rfl rfl ?_
        refine wm_istore_n hC 3 (pc := 33) dX9_words_33 rfl (by decide) rfl ?_
        refine wm_iinc hC (pc := 34) dX9_words_34 rfl rfl (by decide) rfl ?_
        refine wm_goto hC 5 (pc := 37) dX9_words_37 (by decide) ?_
        have hh := ih _ (by omega) (j + 1) rfl (by omega)
        rw [e] at hh
        exact hh
      · have e : wmask (hasW (rv w) (2 * p + 1) z) (j + 1) = wmask (hasW (rv w) (2 * p + 1) z) j ||| 0 := by
          rw [Nat.or_zero]; show (if hasW (rv w) (2 * p + 1) z j then _ else _) = _
          rw [hsh, decide_eq_false (by omega)]; rfl
        refine wm_iconst hC (pc := 24) dX9_words_24 ?_
        refine wm_goto hC 32 (pc := 25) dX9_words_25 (by decide) ?_
        refine wm_ior hC _ _ (pc := 32) dX9_words_32 rfl rfl ?_
        refine wm_istore_n hC 3 (pc := 33) dX9_words_33 rfl (by decide) rfl ?_
        refine wm_iinc hC (pc := 34) dX9_words_34 rfl rfl (by decide) rfl ?_
        refine wm_goto hC 5 (pc := 37) dX9_words_37 (by decide) ?_
        have hh := ih _ (by omega) (j + 1) rfl (by omega)
        rw [e] at hh
        exact hh
  exact lp5 _ 0 rfl (by omega)
set_option maxRecDepth 100000 in
set_option maxHeartbeats 4000000 in
theorem s_X9_bits {l : Launch} {G : mG} {w : mW} {s : Nat} (hs : s < 256) : Mx l G 0 yX9_bits cX9_bits 3 (some .int) [mvI (s : Int)] w (qP (mvI ((mpop s : Nat) : Int)) w) := by
  refine Mx.intro (by decide) RX9 rfl [some (mvI (s : Int)), none, none] (Nat.le_of_ble_eq_true rfl) rfl (fun K hC => ?_)
  refine wm_iconst hC (pc := 0) dX9_bits_0 ?_
  refine wm_istore_n hC 1 (pc := 1) dX9_bits_1 rfl (by decide) rfl ?_
  refine wm_iload_n hC 0 (pc := 2) dX9_bits_2 rfl rfl ?_
  refine wm_istore_n hC 2 (pc := 3) dX9_bits_3 rfl (by decide) rfl ?_
  have lp4 : ∀ (n : Nat) (j r : Nat), n = 8 - j → j ≤ 8 → r = s / 2 ^ j → r < 256 → Wm l G K 0 3 (qP (mvI ((mpop s : Nat) : Int)) w) 4 [some (mvI (s : Int)), some (mvI ((cnt (fun i => s.testBit i) j : Nat) : Int)), some (mvI (r : Int))] [] w := by
    intro n
    induction n using Nat.strongRecOn with
    | _ n ih =>
    intro j r hn hj hr hr2
    refine wm_iload_n hC 2 (pc := 4) dX9_bits_4 rfl rfl ?_
    refine wm_if_le hC 21 (pc := 5) dX9_bits_5 (by decide) (by omega) (fun h5 => ?_) (fun h5 => ?_)
    · refine wm_iload_n hC 1 (pc := 21) dX9_bits_21 rfl rfl ?_
      refine wm_iretP hC (pc := 22) dX9_bits_22 ?_ rfl
      have h0 : s / 2 ^ j = 0 := by omega
      have hh := cnt_stop h0 (8 - j)
      rw [show j + (8 - j) = 8 by omega] at hh
      unfold mpop
      rw [hh]
    · have hj8 : j < 8 := by
        rcases Nat.lt_or_ge j 8 with q | q
        · exact q
        · have : j = 8 := by omega
          subst this
          omega
      refine wm_iload_n hC 1 (pc := 8) dX9_bits_8 rfl rfl ?_
      refine wm_iload_n hC 2 (pc := 9) dX9_bits_9 rfl rfl ?_
      refine wm_iconst hC (pc := 10) dX9_bits_10 ?_
      refine wm_iand hC r 1 (pc := 11) dX9_bits_11 rfl rfl ?_
      refine wm_iadd hC (pc := 12) dX9_bits_12 ?_
      refine wm_istore_n hC 1 (pc := 13) dX9_bits_13 rfl (by decide) rfl ?_
      refine wm_iload_n hC 2 (pc := 14) dX9_bits_14 rfl rfl ?_
      refine wm_iconst hC (pc := 15) dX9_bits_15 ?_
      refine wm_ishr hC r 1 (pc := 16) dX9_bits_16 rfl rfl (by omega) (by omega) ?_
      refine wm_istore_n hC 2 (pc := 17) dX9_bits_17 rfl (by decide) rfl ?_
      refine wm_goto hC 4 (pc := 18) dX9_bits_18 (by decide) ?_
      have hh := ih _ (by omega) (j + 1) (r / 2 ^ 1) rfl (by omega) (by rw [hr, Nat.div_div_eq_div_mul, show 2 ^ j * 2 ^ 1 = 2 ^ (j + 1) from (Nat.pow_succ 2 j).symm]) (by omega)
      rw [hr, mtb, ← hr]
      exact hh
  exact lp4 _ 0 s rfl (by omega) (Nat.div_one s).symm hs
set_option maxRecDepth 100000 in
set_option maxHeartbeats 4000000 in
theorem s_X9_records {l : Launch} {G : mG} {w : mW} (h7 : 0 ≤ w 31 2 ∧ w 31 2 ≤ 4) : Mx l G 0 yX9_records cX9_records 2 none [mvR 31] w (qV (fun w' => w' = rrF w)) := by
  refine Mx.intro (by decide) RX9 rfl [some (mvR 31), none] (Nat.le_of_ble_eq_true rfl) rfl (fun K hC => ?_)
  have j49 : ∀ (w1 : mW) (o : Option mV), (0 ≤ w1 31 2 ∧ w1 31 2 ≤ 3) → rrG w1 = rrF w → Wm l G K 0 2 (qV (fun w' => w' = rrF w)) 49 [some (mvR 31), o] [] w1 := by
    intro w1 o h1 hG
    refine wm_iconst hC (pc := 49) dX9_records_49 ?_
    refine wm_istore_n hC 1 (pc := 50) dX9_records_50 rfl (by decide) rfl ?_
    have lp51 : ∀ (n : Nat) (j : Nat), n = 168 - j → j ≤ 168 → Wm l G K 0 2 (qV (fun w' => w' = rrF w)) 51 [some (mvR 31), some (mvI (j : Int))] [] (mcopy w1 32 33 0 (168 * w1 31 2) (j : Int)) := by
      intro n
      induction n using Nat.strongRecOn with
      | _ n ih =>
      intro j hn hj
      refine wm_iload_n hC 1 (pc := 51) dX9_records_51 rfl rfl ?_
      refine wm_sipush hC (pc := 52) dX9_records_52 (by decide) ?_
      refine wm_icmp_ge hC 85 (pc := 55) dX9_records_55 (by decide) (by omega) (by omega) (fun h55 => ?_) (fun h55 => ?_)
      · refine wm_aload_n hC 0 (pc := 85) dX9_records_85 rfl rfl ?_
        refine wm_dup hC (pc := 86) dX9_records_86 rfl ?_
        refine wm_getI hC 31 2 fl_X9_55_8 rfl rfl rfl (pc := 87) dX9_records_87 ?_
        refine wm_iconst hC (pc := 90) dX9_records_90 ?_
        refine wm_iadd hC (pc := 91) dX9_records_91 ?_
        refine wm_putI hC 31 2 fp_X9_55_8 rfl rfl rfl (pc := 92) dX9_records_92 ?_
        refine wm_retV hC (pc := 95) dX9_records_95 ?_
        have : j = 168 := by omega
        subst this
        rw [← hG]
        unfold rrG
        rw [mcopy_ne (show (31 : Nat) ≠ 33 by decide)]
        rfl
      · refine wm_aload_n hC 0 (pc := 58) dX9_records_58 rfl rfl ?_
        refine wm_getR hC fl_X9_13_8 rfl rfl (pc := 59) dX9_records_59 ?_
        refine wm_sipush hC (pc := 62) dX9_records_62 (by decide) ?_
        refine wm_aload_n hC 0 (pc := 65) dX9_records_65 rfl rfl ?_
        refine wm_getI hC 31 2 fl_X9_55_8 rfl rfl rfl (pc := 66) dX9_records_66 ?_
        refine wm_imul hC (pc := 69) dX9_records_69 ?_
        refine wm_iload_n hC 1 (pc := 70) dX9_records_70 rfl rfl ?_
        refine wm_iadd hC (pc := 71) dX9_records_71 ?_
        refine wm_aload_n hC 0 (pc := 72) dX9_records_72 rfl rfl ?_
        refine wm_getR hC fl_X9_7_8 rfl rfl (pc := 73) dX9_records_73 ?_
        refine wm_iload_n hC 1 (pc := 76) dX9_records_76 rfl rfl ?_
        refine wm_iaload hC rfl (by omega) (by decide) (pc := 77) dX9_records_77 ?_
        refine wm_iastore hC rfl (by rw [mcopy_ne (by decide)]; omega) (by decide) (pc := 78) dX9_records_78 ?_
        refine wm_iinc hC (pc := 79) dX9_records_79 rfl rfl (by decide) rfl ?_
        refine wm_goto hC 51 (pc := 82) dX9_records_82 (by decide) ?_
        rw [mcopy_up j (by omega) (by rw [mcopy_ne (by decide)]) (by omega)]
        exact ih _ (by omega) (j + 1) rfl (by omega)
    have hh := lp51 _ 0 rfl (by omega)
    rw [show ((0 : Nat) : Int) = 0 from rfl, mcopy_0] at hh
    exact hh
  refine wm_aload_n hC 0 (pc := 0) dX9_records_0 rfl rfl ?_
  refine wm_getI hC 31 2 fl_X9_55_8 rfl rfl rfl (pc := 1) dX9_records_1 ?_
  refine wm_iconst hC (pc := 4) dX9_records_4 ?_
  refine wm_icmp_ne hC 49 (pc := 5) dX9_records_5 (by decide) (by omega) (by omega) (fun h5 => ?_) (fun h5 => ?_)
  · exact j49 w none (by omega) (by unfold rrF; rw [if_neg (by omega)])
  · refine wm_iconst hC (pc := 8) dX9_records_8 ?_
    refine wm_istore_n hC 1 (pc := 9) dX9_records_9 rfl (by decide) rfl ?_
    have lp10 : ∀ (n : Nat) (j : Nat), n = 504 - j → j ≤ 504 → Wm l G K 0 2 (qV (fun w' => w' = rrF w)) 10 [some (mvR 31), some (mvI (j : Int))] [] (mcopy w 33 33 168 0 (j : Int)) := by
      intro n
      induction n using Nat.strongRecOn with
      | _ n ih =>
      intro j hn hj
      refine wm_iload_n hC 1 (pc := 10) dX9_records_10 rfl rfl ?_
      refine wm_sipush hC (pc := 11) dX9_records_11 (by decide) ?_
      refine wm_icmp_ge hC 39 (pc := 14) dX9_records_14 (by decide) (by omega) (by omega) (fun h14 => ?_) (fun h14 => ?_)
      · refine wm_aload_n hC 0 (pc := 39) dX9_records_39 rfl rfl ?_
        refine wm_dup hC (pc := 40) dX9_records_40 rfl ?_
        refine wm_getI hC 31 2 fl_X9_55_8 rfl rfl rfl (pc := 41) dX9_records_41 ?_
        refine wm_iconst hC (pc := 44) dX9_records_44 ?_
        refine wm_isub hC (pc := 45) dX9_records_45 ?_
        refine wm_putI hC 31 2 fp_X9_55_8 rfl rfl rfl (pc := 46) dX9_records_46 ?_
        have : j = 504 := by omega
        subst this
        have e7 : mcopy w 33 33 168 0 ((504 : Nat) : Int) 31 2 - 1 = 3 := by rw [mcopy_ne (by decide)]; omega
        rw [e7]
        exact j49 (rrS w) _ (by show 0 ≤ (3 : Int) ∧ (3 : Int) ≤ 3; omega) (by unfold rrF; rw [if_pos (by omega)])
      · refine wm_aload_n hC 0 (pc := 17) dX9_records_17 rfl rfl ?_
        refine wm_getR hC fl_X9_13_8 rfl rfl (pc := 18) dX9_records_18 ?_
        refine wm_iload_n hC 1 (pc := 21) dX9_records_21 rfl rfl ?_
        refine wm_aload_n hC 0 (pc := 22) dX9_records_22 rfl rfl ?_
        refine wm_getR hC fl_X9_13_8 rfl rfl (pc := 23) dX9_records_23 ?_
        refine wm_iload_n hC 1 (pc := 26) dX9_records_26 rfl rfl ?_
        refine wm_sipush hC (pc := 27) dX9_records_27 (by decide) ?_
        refine wm_iadd hC (pc := 30) dX9_records_30 ?_
        refine wm_iaload hC rfl (by omega) (by decide) (pc := 31) dX9_records_31 ?_
        refine wm_iastore hC rfl (by omega) (by decide) (pc := 32) dX9_records_32 ?_
        refine wm_iinc hC (pc := 33) dX9_records_33 rfl rfl (by decide) rfl ?_
        refine wm_goto hC 10 (pc := 36) dX9_records_36 (by decide) ?_
        rw [mcopy_up j (by omega) (by omega) (by omega)]
        exact ih _ (by omega) (j + 1) rfl (by omega)
    have hh := lp10 _ 0 rfl (by omega)
    rw [show ((0 : Nat) : Int) = 0 from rfl, mcopy_0] at hh
    exact hh
set_option maxRecDepth 100000 in
set_option maxHeartbeats 4000000 in
theorem s_X9_going {l : Launch} {G : mG} {w : mW} {p : Nat} (hp : p < 3) (hR : RPl w) : Mx l G 1 yX9_going cX9_going 4 (some .int) [mvR 31, mvI (p : Int)] w (qP (mvI ((cnt (fun s => decide (¬ kdF (rv w) (2 * p + 1) (s : Int) = 0)) 8 : Nat) : Int)) w) := by
  refine Mx.intro (by decide) RX9 rfl [some (mvR 31), some (mvI (p : Int)), none, none] (Nat.le_of_ble_eq_true rfl) rfl (fun K hC => ?_)
  refine wm_iconst hC (pc := 0) dX9_going_0 ?_
  refine wm_istore_n hC 2 (pc := 1) dX9_going_1 rfl (by decide) rfl ?_
  refine wm_iconst hC (pc := 2) dX9_going_2 ?_
  refine wm_istore_n hC 3 (pc := 3) dX9_going_3 rfl (by decide) rfl ?_
  have lp4 : ∀ (n : Nat) (j : Nat), n = 8 - j → j ≤ 8 → Wm l G K 1 4 (qP (mvI ((cnt (fun s => decide (¬ kdF (rv w) (2 * p + 1) (s : Int) = 0)) 8 : Nat) : Int)) w) 4 [some (mvR 31), some (mvI (p : Int)), some (mvI ((cnt (fun s => decide (¬ kdF (rv w) (2 * p + 1) (s : Int) = 0)) j : Nat) : Int)), some (mvI (j : Int))] [] w := by
    intro n
    induction n using Nat.strongRecOn with
    | _ n ih =>
    intro j hn hj
    refine wm_iload_n hC 3 (pc := 4) dX9_going_4 rfl rfl ?_
    refine wm_bipush hC (pc := 5) dX9_going_5 (by decide) ?_
    refine wm_icmp_ge hC 33 (pc := 7) dX9_going_7 (by decide) (by omega) (by omega) (fun h7 => ?_) (fun h7 => ?_)
    · refine wm_iload_n hC 2 (pc := 33) dX9_going_33 rfl rfl ?_
      refine wm_iretP hC (pc := 34) dX9_going_34 ?_ rfl
      have : j = 8 := by omega
      rw [this]
    · refine wm_iload_n hC 2 (pc := 10) dX9_going_10 rfl rfl ?_
      refine wm_aload_n hC 0 (pc := 11) dX9_going_11 rfl rfl ?_
      refine wm_iload_n hC 1 (pc := 12) dX9_going_12 rfl rfl ?_
      refine wm_iload_n hC 3 (pc := 13) dX9_going_13 rfl rfl ?_
      refine wm_pV hC cv_X9_67 kc_X9_kindOf rfl rfl (s_X9_kindOf (by omega) (by omega)) rfl (by decide) rfl (Nat.le_of_ble_eq_true rfl) (pc := 14) dX9_going_14 ?_
      have hkd := kd_rng (hR.ok hp) (s := (j : Int)) (by omega)
      refine wm_if_ne hC 24 (pc := 17) dX9_going_17 (by decide) (by omega) (fun h17 => ?_) (fun h17 => ?_)
      · have e : cnt (fun s => decide (¬ kdF (rv w) (2 * p + 1) (s : Int) = 0)) (j + 1) = cnt (fun s => decide (¬ kdF (rv w) (2 * p + 1) (s : Int) = 0)) j + 1 := by simp [cnt, h17]
        refine wm_iconst hC (pc := 24) dX9_going_24 ?_
        refine wm_iadd hC (pc := 25) dX9_going_25 ?_
        refine wm_istore_n hC 2 (pc := 26) dX9_going_26 rfl (by decide) rfl ?_
        refine wm_iinc hC (pc := 27) dX9_going_27 rfl rfl (by decide) rfl ?_
        refine wm_goto hC 4 (pc := 30) dX9_going_30 (by decide) ?_
        have hh := ih _ (by omega) (j + 1) rfl (by omega)
        rw [e] at hh
        exact hh
      · have e : cnt (fun s => decide (¬ kdF (rv w) (2 * p + 1) (s : Int) = 0)) (j + 1) = cnt (fun s => decide (¬ kdF (rv w) (2 * p + 1) (s : Int) = 0)) j := by simp [cnt, h17]
        refine wm_iconst hC (pc := 20) dX9_going_20 ?_
        refine wm_goto hC 25 (pc := 21) dX9_going_21 (by decide) ?_
        refine wm_iadd hC (pc := 25) dX9_going_25 ?_
        refine wm_istore_n hC 2 (pc := 26) dX9_going_26 rfl (by decide) rfl ?_
        refine wm_iinc hC (pc := 27) dX9_going_27 rfl rfl (by decide) rfl ?_
        refine wm_goto hC 4 (pc := 30) dX9_going_30 (by decide) ?_
        have hh := ih _ (by omega) (j + 1) rfl (by omega)
        rw [e] at hh
        exact hh
  exact lp4 _ 0 rfl (by omega)
set_option maxRecDepth 100000 in
set_option maxHeartbeats 4000000 in
theorem s_X9_kind {l : Launch} {G : mG} {w : mW} {a b c : Int} (hI : RInv w) (ha : -2147483648 ≤ a ∧ a < 2147483648) (hb : -2147483648 ≤ b ∧ b < 2147483648) (hc : -2147483648 ≤ c ∧ c < 2147483648) : Mx l G 3 yX9_kind cX9_kind 5 (some .int) [mvR 31, mvI a, mvI b, mvI c] w (qI (fun z w' => (¬ (0 ≤ a ∧ a < 3 ∧ 0 ≤ b ∧ b < 8 ∧ 0 ≤ c ∧ c < 3) ∧ z = -1000001 ∧ w' = w) ∨ ((0 ≤ a ∧ a < 3 ∧ 0 ≤ b ∧ b < 8 ∧ 0 ≤ c ∧ c < 3) ∧ z = kdF (rv w) (2 * a.toNat + 1) b ∧ w' = mup (rrF w) 32 (56 * a + 7 * b) c))) := by
  refine Mx.intro (by decide) RX9 rfl [some (mvR 31), some (mvI a), some (mvI b), some (mvI c), none] (Nat.le_of_ble_eq_true rfl) rfl (fun K hC => ?_)
  refine wm_iload_n hC 1 (pc := 0) dX9_kind_0 rfl rfl ?_
  refine wm_pS hC cs_X9_74 kc_X9_isPlan (s_X9_isPlan (by omega)) rfl (by decide) rfl (Nat.le_of_ble_eq_true rfl) (pc := 1) dX9_kind_1 ?_
  refine wm_ifd_eq hC 23 (pc := 4) dX9_kind_4 (by decide) (fun h4 => ?_) (fun h4 => ?_)
  · refine wm_ldc hC (-1000001) kI_X9_81 (pc := 23) dX9_kind_23 ?_
    refine wm_iretI hC (pc := 25) dX9_kind_25 ?_
    left
    exact ⟨by omega, rfl, rfl⟩
  · refine wm_iload_n hC 2 (pc := 7) dX9_kind_7 rfl rfl ?_
    refine wm_pS hC cs_X9_78 kc_X9_isState (s_X9_isState (by omega)) rfl (by decide) rfl (Nat.le_of_ble_eq_true rfl) (pc := 8) dX9_kind_8 ?_
    refine wm_ifd_eq hC 23 (pc := 11) dX9_kind_11 (by decide) (fun h11 => ?_) (fun h11 => ?_)
    · refine wm_ldc hC (-1000001) kI_X9_81 (pc := 23) dX9_kind_23 ?_
      refine wm_iretI hC (pc := 25) dX9_kind_25 ?_
      left
      exact ⟨by omega, rfl, rfl⟩
    · refine wm_iload_n hC 3 (pc := 14) dX9_kind_14 rfl rfl ?_
      refine wm_iconst hC (pc := 15) dX9_kind_15 ?_
      refine wm_iconst hC (pc := 16) dX9_kind_16 ?_
      refine wm_pS hC cs_X9_59 kc_X9_in (s_X9_in (by omega) (by omega) (by omega)) rfl (by decide) rfl (Nat.le_of_ble_eq_true rfl) (pc := 17) dX9_kind_17 ?_
      refine wm_ifd_ne hC 26 (pc := 20) dX9_kind_20 (by decide) (fun h20 => ?_) (fun h20 => ?_)
      · obtain ⟨p, rfl⟩ : ∃ p : Nat, a = (p : Int) := ⟨a.toNat, by omega⟩
        have hp : p < 3 := by omega
        refine wm_aload_n hC 0 (pc := 26) dX9_kind_26 rfl rfl ?_
        refine wm_vV hC cv_X9_82 kc_X9_records rfl rfl (s_X9_records hI.2.1) rfl (by decide) rfl (Nat.le_of_ble_eq_true rfl) (pc := 27) dX9_kind_27 (fun w27 hw27 => ?_)
        subst hw27
        refine wm_aload_n hC 0 (pc := 30) dX9_kind_30 rfl rfl ?_
        refine wm_iload_n hC 1 (pc := 31) dX9_kind_31 rfl rfl ?_
        refine wm_iload_n hC 2 (pc := 32) dX9_kind_32 rfl rfl ?_
        refine wm_pV hC cv_X9_67 kc_X9_kindOf rfl rfl (s_X9_kindOf (by omega) (by omega)) rfl (by decide) rfl (Nat.le_of_ble_eq_true rfl) (pc := 33) dX9_kind_33 ?_
        refine wm_istore hC  (pc := 36) dX9_kind_36  (by decide) rfl ?_
        refine wm_aload_n hC 0 (pc := 38) dX9_kind_38 rfl rfl ?_
        refine wm_getR hC fl_X9_7_8 rfl rfl (pc := 39) dX9_kind_39 ?_
        refine wm_bipush hC (pc := 42) dX9_kind_42 (by decide) ?_
        refine wm_iload_n hC 1 (pc := 44) dX9_kind_44 rfl rfl ?_
        refine wm_imul hC (pc := 45) dX9_kind_45 ?_
        refine wm_bipush hC (pc := 46) dX9_kind_46 (by decide) ?_
        refine wm_iload_n hC 2 (pc := 48) dX9_kind_48 rfl rfl ?_
        refine wm_imul hC (pc := 49) dX9_kind_49 ?_
        refine wm_iadd hC (pc := 50) dX9_kind_50 ?_
        refine wm_iload_n hC 3 (pc := 51) dX9_kind_51 rfl rfl ?_
        refine wm_iastore hC rfl (by omega) (by decide) (pc := 52) dX9_kind_52 ?_
        refine wm_iload hC  (pc := 53) dX9_kind_53 rfl ?_
        refine wm_iretI hC (pc := 55) dX9_kind_55 ?_
        right
        exact ⟨by omega, by rw [rv_congr (rrF_ne (w := w) (a := 32) (by decide) (by decide))]; rfl, rfl⟩
      · refine wm_ldc hC (-1000001) kI_X9_81 (pc := 23) dX9_kind_23 ?_
        refine wm_iretI hC (pc := 25) dX9_kind_25 ?_
        left
        exact ⟨by omega, rfl, rfl⟩
set_option maxRecDepth 100000 in
set_option maxHeartbeats 4000000 in
theorem s_X9_arrow {l : Launch} {G : mG} {w : mW} {a b c e : Int} (hI : RInv w) (ha : -2147483648 ≤ a ∧ a < 2147483648) (hb : -2147483648 ≤ b ∧ b < 2147483648) (hc : -2147483648 ≤ c ∧ c < 2147483648) (he : -2147483648 ≤ e ∧ e < 2147483648) : Mx l G 3 yX9_arrow cX9_arrow 5 (some .int) [mvR 31, mvI a, mvI b, mvI c, mvI e] w (qI (fun z w' => (¬ (0 ≤ a ∧ a < 3 ∧ 0 ≤ b ∧ b < 8 ∧ 0 ≤ c ∧ c < 6 ∧ 0 ≤ e ∧ e < 8) ∧ z = -1000001 ∧ w' = w) ∨ ((0 ≤ a ∧ a < 3 ∧ 0 ≤ b ∧ b < 8 ∧ 0 ≤ c ∧ c < 6 ∧ 0 ≤ e ∧ e < 8) ∧ z = ((mpop (wmask (hasW (rv w') (2 * a.toNat + 1) b) 6) : Nat) : Int) ∧ w' = mup (rrF w) 32 (56 * a + 7 * b + 1 + c) (e + 1)))) := by
  refine Mx.intro (by decide) RX9 rfl [some (mvR 31), some (mvI a), some (mvI b), some (mvI c), some (mvI e)] (Nat.le_of_ble_eq_true rfl) rfl (fun K hC => ?_)
  refine wm_iload_n hC 1 (pc := 0) dX9_arrow_0 rfl rfl ?_
  refine wm_pS hC cs_X9_74 kc_X9_isPlan (s_X9_isPlan (by omega)) rfl (by decide) rfl (Nat.le_of_ble_eq_true rfl) (pc := 1) dX9_arrow_1 ?_
  refine wm_ifd_eq hC 29 (pc := 4) dX9_arrow_4 (by decide) (fun h4 => ?_) (fun h4 => ?_)
  · refine wm_ldc hC (-1000001) kI_X9_81 (pc := 29) dX9_arrow_29 ?_
    refine wm_iretI hC (pc := 31) dX9_arrow_31 ?_
    left
    exact ⟨by omega, rfl, rfl⟩
  · refine wm_iload_n hC 2 (pc := 7) dX9_arrow_7 rfl rfl ?_
    refine wm_pS hC cs_X9_78 kc_X9_isState (s_X9_isState (by omega)) rfl (by decide) rfl (Nat.le_of_ble_eq_true rfl) (pc := 8) dX9_arrow_8 ?_
    refine wm_ifd_eq hC 29 (pc := 11) dX9_arrow_11 (by decide) (fun h11 => ?_) (fun h11 => ?_)
    · refine wm_ldc hC (-1000001) kI_X9_81 (pc := 29) dX9_arrow_29 ?_
      refine wm_iretI hC (pc := 31) dX9_arrow_31 ?_
      left
      exact ⟨by omega, rfl, rfl⟩
    · refine wm_iload_n hC 3 (pc := 14) dX9_arrow_14 rfl rfl ?_
      refine wm_pS hC cs_X9_85 kc_X9_isWord (s_X9_isWord (by omega)) rfl (by decide) rfl (Nat.le_of_ble_eq_true rfl) (pc := 15) dX9_arrow_15 ?_
      refine wm_ifd_eq hC 29 (pc := 18) dX9_arrow_18 (by decide) (fun h18 => ?_) (fun h18 => ?_)
      · refine wm_ldc hC (-1000001) kI_X9_81 (pc := 29) dX9_arrow_29 ?_
        refine wm_iretI hC (pc := 31) dX9_arrow_31 ?_
        left
        exact ⟨by omega, rfl, rfl⟩
      · refine wm_iload hC  (pc := 21) dX9_arrow_21 rfl ?_
        refine wm_pS hC cs_X9_78 kc_X9_isState (s_X9_isState (by omega)) rfl (by decide) rfl (Nat.le_of_ble_eq_true rfl) (pc := 23) dX9_arrow_23 ?_
        refine wm_ifd_ne hC 32 (pc := 26) dX9_arrow_26 (by decide) (fun h26 => ?_) (fun h26 => ?_)
        · obtain ⟨p, rfl⟩ : ∃ p : Nat, a = (p : Int) := ⟨a.toNat, by omega⟩
          have hp : p < 3 := by omega
          refine wm_aload_n hC 0 (pc := 32) dX9_arrow_32 rfl rfl ?_
          refine wm_vV hC cv_X9_82 kc_X9_records rfl rfl (s_X9_records hI.2.1) rfl (by decide) rfl (Nat.le_of_ble_eq_true rfl) (pc := 33) dX9_arrow_33 (fun w33 hw33 => ?_)
          subst hw33
          refine wm_aload_n hC 0 (pc := 36) dX9_arrow_36 rfl rfl ?_
          refine wm_getR hC fl_X9_7_8 rfl rfl (pc := 37) dX9_arrow_37 ?_
          refine wm_iload_n hC 1 (pc := 40) dX9_arrow_40 rfl rfl ?_
          refine wm_iload_n hC 2 (pc := 41) dX9_arrow_41 rfl rfl ?_
          refine wm_iload_n hC 3 (pc := 42) dX9_arrow_42 rfl rfl ?_
          refine wm_pS hC cs_X9_63 kc_X9_placeOf (s_X9_placeOf) rfl (by decide) rfl (Nat.le_of_ble_eq_true rfl) (pc := 43) dX9_arrow_43 ?_
          refine wm_iload hC  (pc := 46) dX9_arrow_46 rfl ?_
          refine wm_iconst hC (pc := 48) dX9_arrow_48 ?_
          refine wm_iadd hC (pc := 49) dX9_arrow_49 ?_
          refine wm_iastore hC rfl (by omega) (by decide) (pc := 50) dX9_arrow_50 ?_
          refine wm_aload_n hC 0 (pc := 51) dX9_arrow_51 rfl rfl ?_
          refine wm_iload_n hC 1 (pc := 52) dX9_arrow_52 rfl rfl ?_
          refine wm_iload_n hC 2 (pc := 53) dX9_arrow_53 rfl rfl ?_
          refine wm_pV hC cv_X9_88 kc_X9_words rfl rfl (s_X9_words hp (by omega) (RPl.up (hI.1.congr (rrF_ne (by decide) (by decide))) (by omega))) rfl (by decide) rfl (Nat.le_of_ble_eq_true rfl) (pc := 54) dX9_arrow_54 ?_
          refine wm_pS hC cs_X9_91 kc_X9_bits (s_X9_bits (Nat.lt_of_lt_of_le (wmask_lt _ 6) (by decide))) rfl (by decide) rfl (Nat.le_of_ble_eq_true rfl) (pc := 57) dX9_arrow_57 ?_
          refine wm_iretI hC (pc := 60) dX9_arrow_60 ?_
          right
          exact ⟨by omega, rfl, rfl⟩
        · refine wm_ldc hC (-1000001) kI_X9_81 (pc := 29) dX9_arrow_29 ?_
          refine wm_iretI hC (pc := 31) dX9_arrow_31 ?_
          left
          exact ⟨by omega, rfl, rfl⟩
set_option maxRecDepth 100000 in
set_option maxHeartbeats 4000000 in
theorem s_X9_erase {l : Launch} {G : mG} {w : mW} {a b c : Int} (hI : RInv w) (ha : -2147483648 ≤ a ∧ a < 2147483648) (hb : -2147483648 ≤ b ∧ b < 2147483648) (hc : -2147483648 ≤ c ∧ c < 2147483648) : Mx l G 3 yX9_erase cX9_erase 5 (some .int) [mvR 31, mvI a, mvI b, mvI c] w (qI (fun z w' => (¬ (0 ≤ a ∧ a < 3 ∧ 0 ≤ b ∧ b < 8 ∧ 0 ≤ c ∧ c < 6) ∧ z = -1000001 ∧ w' = w) ∨ ((0 ≤ a ∧ a < 3 ∧ 0 ≤ b ∧ b < 8 ∧ 0 ≤ c ∧ c < 6) ∧ ((tgF (rv w) (2 * a.toNat + 1) b c = -1 ∧ z = -1000002 ∧ w' = w) ∨ (¬ tgF (rv w) (2 * a.toNat + 1) b c = -1 ∧ z = tgF (rv w) (2 * a.toNat + 1) b c ∧ w' = mup (rrF w) 32 (56 * a + 7 * b + 1 + c) 0))))) := by
  refine Mx.intro (by decide) RX9 rfl [some (mvR 31), some (mvI a), some (mvI b), some (mvI c), none] (Nat.le_of_ble_eq_true rfl) rfl (fun K hC => ?_)
  refine wm_iload_n hC 1 (pc := 0) dX9_erase_0 rfl rfl ?_
  refine wm_pS hC cs_X9_74 kc_X9_isPlan (s_X9_isPlan (by omega)) rfl (by decide) rfl (Nat.le_of_ble_eq_true rfl) (pc := 1) dX9_erase_1 ?_
  refine wm_ifd_eq hC 21 (pc := 4) dX9_erase_4 (by decide) (fun h4 => ?_) (fun h4 => ?_)
  · refine wm_ldc hC (-1000001) kI_X9_81 (pc := 21) dX9_erase_21 ?_
    refine wm_iretI hC (pc := 23) dX9_erase_23 ?_
    left
    exact ⟨by omega, rfl, rfl⟩
  · refine wm_iload_n hC 2 (pc := 7) dX9_erase_7 rfl rfl ?_
    refine wm_pS hC cs_X9_78 kc_X9_isState (s_X9_isState (by omega)) rfl (by decide) rfl (Nat.le_of_ble_eq_true rfl) (pc := 8) dX9_erase_8 ?_
    refine wm_ifd_eq hC 21 (pc := 11) dX9_erase_11 (by decide) (fun h11 => ?_) (fun h11 => ?_)
    · refine wm_ldc hC (-1000001) kI_X9_81 (pc := 21) dX9_erase_21 ?_
      refine wm_iretI hC (pc := 23) dX9_erase_23 ?_
      left
      exact ⟨by omega, rfl, rfl⟩
    · refine wm_iload_n hC 3 (pc := 14) dX9_erase_14 rfl rfl ?_
      refine wm_pS hC cs_X9_85 kc_X9_isWord (s_X9_isWord (by omega)) rfl (by decide) rfl (Nat.le_of_ble_eq_true rfl) (pc := 15) dX9_erase_15 ?_
      refine wm_ifd_ne hC 24 (pc := 18) dX9_erase_18 (by decide) (fun h18 => ?_) (fun h18 => ?_)
      · obtain ⟨p, rfl⟩ : ∃ p : Nat, a = (p : Int) := ⟨a.toNat, by omega⟩
        have hp : p < 3 := by omega
        refine wm_aload_n hC 0 (pc := 24) dX9_erase_24 rfl rfl ?_
        refine wm_iload_n hC 1 (pc := 25) dX9_erase_25 rfl rfl ?_
        refine wm_iload_n hC 2 (pc := 26) dX9_erase_26 rfl rfl ?_
        refine wm_iload_n hC 3 (pc := 27) dX9_erase_27 rfl rfl ?_
        refine wm_pV hC cv_X9_71 kc_X9_led rfl rfl (s_X9_led (by omega) (by omega) (by omega)) rfl (by decide) rfl (Nat.le_of_ble_eq_true rfl) (pc := 28) dX9_erase_28 ?_
        refine wm_istore hC  (pc := 31) dX9_erase_31  (by decide) rfl ?_
        refine wm_iload hC  (pc := 33) dX9_erase_33 rfl ?_
        have hb := tg_rng (hI.1.ok hp) (s := b) (k := c) (by omega) (by omega)
        refine wm_if_ge hC 41 (pc := 35) dX9_erase_35 (by decide) (by omega) (fun h35 => ?_) (fun h35 => ?_)
        · refine wm_aload_n hC 0 (pc := 41) dX9_erase_41 rfl rfl ?_
          refine wm_vV hC cv_X9_82 kc_X9_records rfl rfl (s_X9_records hI.2.1) rfl (by decide) rfl (Nat.le_of_ble_eq_true rfl) (pc := 42) dX9_erase_42 (fun w42 hw42 => ?_)
          subst hw42
          refine wm_aload_n hC 0 (pc := 45) dX9_erase_45 rfl rfl ?_
          refine wm_getR hC fl_X9_7_8 rfl rfl (pc := 46) dX9_erase_46 ?_
          refine wm_iload_n hC 1 (pc := 49) dX9_erase_49 rfl rfl ?_
          refine wm_iload_n hC 2 (pc := 50) dX9_erase_50 rfl rfl ?_
          refine wm_iload_n hC 3 (pc := 51) dX9_erase_51 rfl rfl ?_
          refine wm_pS hC cs_X9_63 kc_X9_placeOf (s_X9_placeOf) rfl (by decide) rfl (Nat.le_of_ble_eq_true rfl) (pc := 52) dX9_erase_52 ?_
          refine wm_iconst hC (pc := 55) dX9_erase_55 ?_
          refine wm_iastore hC rfl (by omega) (by decide) (pc := 56) dX9_erase_56 ?_
          refine wm_iload hC  (pc := 57) dX9_erase_57 rfl ?_
          refine wm_iretI hC (pc := 59) dX9_erase_59 ?_
          right
          exact ⟨by omega, Or.inr ⟨by show ¬ tgF (rv w) (2 * p + 1) b c = -1; omega, rfl, rfl⟩⟩
        · refine wm_ldc hC (-1000002) kI_X9_95 (pc := 38) dX9_erase_38 ?_
          refine wm_iretI hC (pc := 40) dX9_erase_40 ?_
          right
          exact ⟨by omega, Or.inl ⟨by show tgF (rv w) (2 * p + 1) b c = -1; omega, rfl, rfl⟩⟩
      · refine wm_ldc hC (-1000001) kI_X9_81 (pc := 21) dX9_erase_21 ?_
        refine wm_iretI hC (pc := 23) dX9_erase_23 ?_
        left
        exact ⟨by omega, rfl, rfl⟩
set_option maxRecDepth 100000 in
set_option maxHeartbeats 4000000 in
theorem s_X9_copy {l : Launch} {G : mG} {w : mW} {a b : Int} (hI : RInv w) (ha : -2147483648 ≤ a ∧ a < 2147483648) (hb : -2147483648 ≤ b ∧ b < 2147483648) : Mx l G 3 yX9_copy cX9_copy 4 (some .int) [mvR 31, mvI a, mvI b] w (qI (fun z w' => (¬ (0 ≤ a ∧ a < 3 ∧ 0 ≤ b ∧ b < 3 ∧ ¬ a = b) ∧ z = -1000001 ∧ w' = w) ∨ ((0 ≤ a ∧ a < 3 ∧ 0 ≤ b ∧ b < 3 ∧ ¬ a = b) ∧ z = ((cnt (fun s => decide (¬ kdF (rv w') (2 * a.toNat + 1) (s : Int) = 0)) 8 : Nat) : Int) ∧ w' = mcopy (rrF w) 32 32 (56 * a) (56 * b) 56))) := by
  refine Mx.intro (by decide) RX9 rfl [some (mvR 31), some (mvI a), some (mvI b), none] (Nat.le_of_ble_eq_true rfl) rfl (fun K hC => ?_)
  refine wm_iload_n hC 1 (pc := 0) dX9_copy_0 rfl rfl ?_
  refine wm_pS hC cs_X9_74 kc_X9_isPlan (s_X9_isPlan (by omega)) rfl (by decide) rfl (Nat.le_of_ble_eq_true rfl) (pc := 1) dX9_copy_1 ?_
  refine wm_ifd_eq hC 19 (pc := 4) dX9_copy_4 (by decide) (fun h4 => ?_) (fun h4 => ?_)
  · refine wm_ldc hC (-1000001) kI_X9_81 (pc := 19) dX9_copy_19 ?_
    refine wm_iretI hC (pc := 21) dX9_copy_21 ?_
    left
    exact ⟨by omega, rfl, rfl⟩
  · refine wm_iload_n hC 2 (pc := 7) dX9_copy_7 rfl rfl ?_
    refine wm_pS hC cs_X9_74 kc_X9_isPlan (s_X9_isPlan (by omega)) rfl (by decide) rfl (Nat.le_of_ble_eq_true rfl) (pc := 8) dX9_copy_8 ?_
    refine wm_ifd_eq hC 19 (pc := 11) dX9_copy_11 (by decide) (fun h11 => ?_) (fun h11 => ?_)
    · refine wm_ldc hC (-1000001) kI_X9_81 (pc := 19) dX9_copy_19 ?_
      refine wm_iretI hC (pc := 21) dX9_copy_21 ?_
      left
      exact ⟨by omega, rfl, rfl⟩
    · refine wm_iload_n hC 1 (pc := 14) dX9_copy_14 rfl rfl ?_
      refine wm_iload_n hC 2 (pc := 15) dX9_copy_15 rfl rfl ?_
      refine wm_icmp_ne hC 22 (pc := 16) dX9_copy_16 (by decide) (by omega) (by omega) (fun h16 => ?_) (fun h16 => ?_)
      · obtain ⟨p, rfl⟩ : ∃ p : Nat, a = (p : Int) := ⟨a.toNat, by omega⟩
        have hp : p < 3 := by omega
        obtain ⟨q, rfl⟩ : ∃ q : Nat, b = (q : Int) := ⟨b.toNat, by omega⟩
        have hq : q < 3 := by omega
        refine wm_aload_n hC 0 (pc := 22) dX9_copy_22 rfl rfl ?_
        refine wm_vV hC cv_X9_82 kc_X9_records rfl rfl (s_X9_records hI.2.1) rfl (by decide) rfl (Nat.le_of_ble_eq_true rfl) (pc := 23) dX9_copy_23 (fun w23 hw23 => ?_)
        subst hw23
        refine wm_iconst hC (pc := 26) dX9_copy_26 ?_
        refine wm_istore_n hC 3 (pc := 27) dX9_copy_27 rfl (by decide) rfl ?_
        have lp28 : ∀ (n : Nat) (j : Nat), n = 56 - j → j ≤ 56 → Wm l G K 3 4 (qI (fun z w' => (¬ (0 ≤ (p : Int) ∧ (p : Int) < 3 ∧ 0 ≤ (q : Int) ∧ (q : Int) < 3 ∧ ¬ (p : Int) = (q : Int)) ∧ z = -1000001 ∧ w' = w) ∨ ((0 ≤ (p : Int) ∧ (p : Int) < 3 ∧ 0 ≤ (q : Int) ∧ (q : Int) < 3 ∧ ¬ (p : Int) = (q : Int)) ∧ z = ((cnt (fun s => decide (¬ kdF (rv w') (2 * (p : Int).toNat + 1) (s : Int) = 0)) 8 : Nat) : Int) ∧ w' = mcopy (rrF w) 32 32 (56 * (p : Int)) (56 * (q : Int)) 56))) 28 [some (mvR 31), some (mvI (p : Int)), some (mvI (q : Int)), some (mvI (j : Int))] [] (mcopy (rrF w) 32 32 (56 * (p : Int)) (56 * (q : Int)) (j : Int)) := by
          intro n
          induction n using Nat.strongRecOn with
          | _ n ih =>
          intro j hn hj
          refine wm_iload_n hC 3 (pc := 28) dX9_copy_28 rfl rfl ?_
          refine wm_bipush hC (pc := 29) dX9_copy_29 (by decide) ?_
          refine wm_icmp_ge hC 62 (pc := 31) dX9_copy_31 (by decide) (by omega) (by omega) (fun h31 => ?_) (fun h31 => ?_)
          · refine wm_aload_n hC 0 (pc := 62) dX9_copy_62 rfl rfl ?_
            refine wm_iload_n hC 1 (pc := 63) dX9_copy_63 rfl rfl ?_
            refine wm_pV hC cv_X9_96 kc_X9_going rfl rfl (s_X9_going hp (RPl.copy (hI.1.congr (rrF_ne (by decide) (by decide))) hp hq (by omega))) rfl (by decide) rfl (Nat.le_of_ble_eq_true rfl) (pc := 64) dX9_copy_64 ?_
            refine wm_iretI hC (pc := 67) dX9_copy_67 ?_
            have : j = 56 := by omega
            subst this
            right
            exact ⟨by omega, rfl, rfl⟩
          · refine wm_aload_n hC 0 (pc := 34) dX9_copy_34 rfl rfl ?_
            refine wm_getR hC fl_X9_7_8 rfl rfl (pc := 35) dX9_copy_35 ?_
            refine wm_bipush hC (pc := 38) dX9_copy_38 (by decide) ?_
            refine wm_iload_n hC 2 (pc := 40) dX9_copy_40 rfl rfl ?_
            refine wm_imul hC (pc := 41) dX9_copy_41 ?_
            refine wm_iload_n hC 3 (pc := 42) dX9_copy_42 rfl rfl ?_
            refine wm_iadd hC (pc := 43) dX9_copy_43 ?_
            refine wm_aload_n hC 0 (pc := 44) dX9_copy_44 rfl rfl ?_
            refine wm_getR hC fl_X9_7_8 rfl rfl (pc := 45) dX9_copy_45 ?_
            refine wm_bipush hC (pc := 48) dX9_copy_48 (by decide) ?_
            refine wm_iload_n hC 1 (pc := 50) dX9_copy_50 rfl rfl ?_
            refine wm_imul hC (pc := 51) dX9_copy_51 ?_
            refine wm_iload_n hC 3 (pc := 52) dX9_copy_52 rfl rfl ?_
            refine wm_iadd hC (pc := 53) dX9_copy_53 ?_
            refine wm_iaload hC rfl (by omega) (by decide) (pc := 54) dX9_copy_54 ?_
            refine wm_iastore hC rfl (by omega) (by decide) (pc := 55) dX9_copy_55 ?_
            refine wm_iinc hC (pc := 56) dX9_copy_56 rfl rfl (by decide) rfl ?_
            refine wm_goto hC 28 (pc := 59) dX9_copy_59 (by decide) ?_
            rw [mcopy_up j (by omega) (by omega) (by omega)]
            exact ih _ (by omega) (j + 1) rfl (by omega)
        have hh := lp28 _ 0 rfl (by omega)
        rw [show ((0 : Nat) : Int) = 0 from rfl, mcopy_0] at hh
        exact hh
      · refine wm_ldc hC (-1000001) kI_X9_81 (pc := 19) dX9_copy_19 ?_
        refine wm_iretI hC (pc := 21) dX9_copy_21 ?_
        left
        exact ⟨by omega, rfl, rfl⟩
set_option maxRecDepth 100000 in
set_option maxHeartbeats 4000000 in
theorem s_X9_mirror {l : Launch} {G : mG} {w : mW} {a : Int} (hI : RInv w) (ha : -2147483648 ≤ a ∧ a < 2147483648) : Mx l G 3 yX9_mirror cX9_mirror 4 (some .int) [mvR 31, mvI a] w (qI (fun z w' => (¬ (0 ≤ a ∧ a < 3) ∧ z = -1000001 ∧ w' = w) ∨ ((0 ≤ a ∧ a < 3) ∧ z = ((cnt (fun s => decide (¬ kdF (rv w') (2 * a.toNat + 1) (s : Int) = 0)) 8 : Nat) : Int) ∧ w' = rmir (rrF w) a.toNat 56))) := by
  refine Mx.intro (by decide) RX9 rfl [some (mvR 31), some (mvI a), none, none] (Nat.le_of_ble_eq_true rfl) rfl (fun K hC => ?_)
  refine wm_iload_n hC 1 (pc := 0) dX9_mirror_0 rfl rfl ?_
  refine wm_pS hC cs_X9_74 kc_X9_isPlan (s_X9_isPlan (by omega)) rfl (by decide) rfl (Nat.le_of_ble_eq_true rfl) (pc := 1) dX9_mirror_1 ?_
  refine wm_ifd_ne hC 10 (pc := 4) dX9_mirror_4 (by decide) (fun h4 => ?_) (fun h4 => ?_)
  · obtain ⟨p, rfl⟩ : ∃ p : Nat, a = (p : Int) := ⟨a.toNat, by omega⟩
    have hp : p < 3 := by omega
    refine wm_aload_n hC 0 (pc := 10) dX9_mirror_10 rfl rfl ?_
    refine wm_vV hC cv_X9_82 kc_X9_records rfl rfl (s_X9_records hI.2.1) rfl (by decide) rfl (Nat.le_of_ble_eq_true rfl) (pc := 11) dX9_mirror_11 (fun w11 hw11 => ?_)
    subst hw11
    refine wm_iconst hC (pc := 14) dX9_mirror_14 ?_
    refine wm_istore_n hC 2 (pc := 15) dX9_mirror_15 rfl (by decide) rfl ?_
    have lp16 : ∀ (n : Nat) (j : Nat) (o : Option mV), n = 8 - j → j ≤ 8 → Wm l G K 3 4 (qI (fun z w' => (¬ (0 ≤ (p : Int) ∧ (p : Int) < 3) ∧ z = -1000001 ∧ w' = w) ∨ ((0 ≤ (p : Int) ∧ (p : Int) < 3) ∧ z = ((cnt (fun s => decide (¬ kdF (rv w') (2 * (p : Int).toNat + 1) (s : Int) = 0)) 8 : Nat) : Int) ∧ w' = rmir (rrF w) (p : Int).toNat 56))) 16 [some (mvR 31), some (mvI (p : Int)), some (mvI (j : Int)), o] [] (rmir (rrF w) p (7 * (j : Int))) := by
      intro n
      induction n using Nat.strongRecOn with
      | _ n ih =>
      intro j o hn hj
      refine wm_iload_n hC 2 (pc := 16) dX9_mirror_16 rfl rfl ?_
      refine wm_bipush hC (pc := 17) dX9_mirror_17 (by decide) ?_
      refine wm_icmp_ge hC 60 (pc := 19) dX9_mirror_19 (by decide) (by omega) (by omega) (fun h19 => ?_) (fun h19 => ?_)
      · refine wm_aload_n hC 0 (pc := 60) dX9_mirror_60 rfl rfl ?_
        refine wm_iload_n hC 1 (pc := 61) dX9_mirror_61 rfl rfl ?_
        refine wm_pV hC cv_X9_96 kc_X9_going rfl rfl (s_X9_going hp (RPl.mir (hI.1.congr (rrF_ne (by decide) (by decide))) _ _)) rfl (by decide) rfl (Nat.le_of_ble_eq_true rfl) (pc := 62) dX9_mirror_62 ?_
        refine wm_iretI hC (pc := 65) dX9_mirror_65 ?_
        have : j = 8 := by omega
        subst this
        right
        exact ⟨by omega, rfl, rfl⟩
      · refine wm_aload_n hC 0 (pc := 22) dX9_mirror_22 rfl rfl ?_
        refine wm_iload_n hC 1 (pc := 23) dX9_mirror_23 rfl rfl ?_
        refine wm_iload_n hC 2 (pc := 24) dX9_mirror_24 rfl rfl ?_
        refine wm_pV hC cv_X9_67 kc_X9_kindOf rfl rfl (s_X9_kindOf hp (by omega)) rfl (by decide) rfl (Nat.le_of_ble_eq_true rfl) (pc := 25) dX9_mirror_25 ?_
        rw [rv_k, rmir_at]
        have hb := ((hI.1.congr (rrF_ne (w := w) (a := 32) (by decide) (by decide))) (56 * (p : Int) + 7 * (j : Int)) (by omega) (by omega)).1 (by omega)
        refine wm_istore_n hC 3 (pc := 28) dX9_mirror_28 rfl (by decide) rfl ?_
        refine wm_aload_n hC 0 (pc := 29) dX9_mirror_29 rfl rfl ?_
        refine wm_getR hC fl_X9_7_8 rfl rfl (pc := 30) dX9_mirror_30 ?_
        refine wm_bipush hC (pc := 33) dX9_mirror_33 (by decide) ?_
        refine wm_iload_n hC 1 (pc := 35) dX9_mirror_35 rfl rfl ?_
        refine wm_imul hC (pc := 36) dX9_mirror_36 ?_
        refine wm_bipush hC (pc := 37) dX9_mirror_37 (by decide) ?_
        refine wm_iload_n hC 2 (pc := 39) dX9_mirror_39 rfl rfl ?_
        refine wm_imul hC (pc := 40) dX9_mirror_40 ?_
        refine wm_iadd hC (pc := 41) dX9_mirror_41 ?_
        refine wm_iload_n hC 3 (pc := 42) dX9_mirror_42 rfl rfl ?_
        refine wm_if_ne hC 50 (pc := 43) dX9_mirror_43 (by decide) (by omega) (fun h43 => ?_) (fun h43 => ?_)
        · have e : 3 - rrF w 32 (56 * (p : Int) + 7 * (j : Int)) = swp (rrF w 32 (56 * (p : Int) + 7 * (j : Int))) := by unfold swp; (repeat' split) <;> omega
          refine wm_iconst hC (pc := 50) dX9_mirror_50 ?_
          refine wm_iload_n hC 3 (pc := 51) dX9_mirror_51 rfl rfl ?_
          refine wm_isub hC (pc := 52) dX9_mirror_52 ?_
          refine wm_iastore hC rfl (by omega) (by decide) (pc := 53) dX9_mirror_53 ?_
          refine wm_iinc hC (pc := 54) dX9_mirror_54 rfl rfl (by decide) rfl ?_
          refine wm_goto hC 16 (pc := 57) dX9_mirror_57 (by decide) ?_
          rw [rmir_k _ _ _ _ e]
          exact ih _ (by omega) (j + 1) _ rfl (by omega)
        · have e : (0 : Int) = swp (rrF w 32 (56 * (p : Int) + 7 * (j : Int))) := by rw [h43]; rfl
          refine wm_iconst hC (pc := 46) dX9_mirror_46 ?_
          refine wm_goto hC 53 (pc := 47) dX9_mirror_47 (by decide) ?_
          refine wm_iastore hC rfl (by omega) (by decide) (pc := 53) dX9_mirror_53 ?_
          refine wm_iinc hC (pc := 54) dX9_mirror_54 rfl rfl (by decide) rfl ?_
          refine wm_goto hC 16 (pc := 57) dX9_mirror_57 (by decide) ?_
          rw [rmir_k _ _ _ _ e]
          exact ih _ (by omega) (j + 1) _ rfl (by omega)
    have hh := lp16 _ 0 none rfl (by omega)
    rw [show 7 * ((0 : Nat) : Int) = 0 from rfl, rmir_0] at hh
    exact hh
  · refine wm_ldc hC (-1000001) kI_X9_81 (pc := 7) dX9_mirror_7 ?_
    refine wm_iretI hC (pc := 9) dX9_mirror_9 ?_
    left
    exact ⟨by omega, rfl, rfl⟩
set_option maxRecDepth 100000 in
set_option maxHeartbeats 4000000 in
theorem s_X9_undo {l : Launch} {G : mG} {w : mW} (hI : RInv w) : Mx l G 0 yX9_undo cX9_undo 2 (some .int) [mvR 31] w (qI (fun z w' => (w 31 2 = 0 ∧ z = -1000002 ∧ w' = w) ∨ (¬ w 31 2 = 0 ∧ z = w' 31 2 ∧ w' = ruF w))) := by
  refine Mx.intro (by decide) RX9 rfl [some (mvR 31), none] (Nat.le_of_ble_eq_true rfl) rfl (fun K hC => ?_)
  refine wm_aload_n hC 0 (pc := 0) dX9_undo_0 rfl rfl ?_
  refine wm_getI hC 31 2 fl_X9_55_8 rfl rfl rfl (pc := 1) dX9_undo_1 ?_
  have hb := hI.2.1
  refine wm_if_ne hC 10 (pc := 4) dX9_undo_4 (by decide) (by omega) (fun h4 => ?_) (fun h4 => ?_)
  · have hb := hI.2.1
    refine wm_aload_n hC 0 (pc := 10) dX9_undo_10 rfl rfl ?_
    refine wm_dup hC (pc := 11) dX9_undo_11 rfl ?_
    refine wm_getI hC 31 2 fl_X9_55_8 rfl rfl rfl (pc := 12) dX9_undo_12 ?_
    refine wm_iconst hC (pc := 15) dX9_undo_15 ?_
    refine wm_isub hC (pc := 16) dX9_undo_16 ?_
    refine wm_putI hC 31 2 fp_X9_55_8 rfl rfl rfl (pc := 17) dX9_undo_17 ?_
    refine wm_iconst hC (pc := 20) dX9_undo_20 ?_
    refine wm_istore_n hC 1 (pc := 21) dX9_undo_21 rfl (by decide) rfl ?_
    have lp22 : ∀ (n : Nat) (j : Nat), n = 168 - j → j ≤ 168 → Wm l G K 0 2 (qI (fun z w' => (w 31 2 = 0 ∧ z = -1000002 ∧ w' = w) ∨ (¬ w 31 2 = 0 ∧ z = w' 31 2 ∧ w' = ruF w))) 22 [some (mvR 31), some (mvI (j : Int))] [] (mcopy (mup w 31 2 (w 31 2 - 1)) 33 32 (168 * (w 31 2 - 1)) 0 (j : Int)) := by
      intro n
      induction n using Nat.strongRecOn with
      | _ n ih =>
      intro j hn hj
      refine wm_iload_n hC 1 (pc := 22) dX9_undo_22 rfl rfl ?_
      refine wm_sipush hC (pc := 23) dX9_undo_23 (by decide) ?_
      refine wm_icmp_ge hC 56 (pc := 26) dX9_undo_26 (by decide) (by omega) (by omega) (fun h26 => ?_) (fun h26 => ?_)
      · refine wm_aload_n hC 0 (pc := 56) dX9_undo_56 rfl rfl ?_
        refine wm_getI hC 31 2 fl_X9_55_8 rfl rfl rfl (pc := 57) dX9_undo_57 ?_
        refine wm_iretI hC (pc := 60) dX9_undo_60 ?_
        have : j = 168 := by omega
        subst this
        right
        exact ⟨by omega, rfl, rfl⟩
      · refine wm_aload_n hC 0 (pc := 29) dX9_undo_29 rfl rfl ?_
        refine wm_getR hC fl_X9_7_8 rfl rfl (pc := 30) dX9_undo_30 ?_
        refine wm_iload_n hC 1 (pc := 33) dX9_undo_33 rfl rfl ?_
        refine wm_aload_n hC 0 (pc := 34) dX9_undo_34 rfl rfl ?_
        refine wm_getR hC fl_X9_13_8 rfl rfl (pc := 35) dX9_undo_35 ?_
        refine wm_sipush hC (pc := 38) dX9_undo_38 (by decide) ?_
        refine wm_aload_n hC 0 (pc := 41) dX9_undo_41 rfl rfl ?_
        refine wm_getI hC 31 2 fl_X9_55_8 rfl rfl rfl (pc := 42) dX9_undo_42 ?_
        refine wm_imul hC (pc := 45) dX9_undo_45 ?_
        refine wm_iload_n hC 1 (pc := 46) dX9_undo_46 rfl rfl ?_
        refine wm_iadd hC (pc := 47) dX9_undo_47 ?_
        refine wm_iaload hC rfl (by rw [mcopy_ne (by decide), mup_at]; omega) (by decide) (pc := 48) dX9_undo_48 ?_
        refine wm_iastore hC rfl (by omega) (by decide) (pc := 49) dX9_undo_49 ?_
        refine wm_iinc hC (pc := 50) dX9_undo_50 rfl rfl (by decide) rfl ?_
        refine wm_goto hC 22 (pc := 53) dX9_undo_53 (by decide) ?_
        rw [mcopy_up j (by omega) (by omega) (by rw [mcopy_ne (by decide), mup_at])]
        exact ih _ (by omega) (j + 1) rfl (by omega)
    have hh := lp22 _ 0 rfl (by omega)
    rw [show ((0 : Nat) : Int) = 0 from rfl, mcopy_0] at hh
    exact hh
  · refine wm_ldc hC (-1000002) kI_X9_95 (pc := 7) dX9_undo_7 ?_
    refine wm_iretI hC (pc := 9) dX9_undo_9 ?_
    left
    exact ⟨by omega, rfl, rfl⟩
