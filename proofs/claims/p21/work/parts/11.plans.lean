/-! the plans, and Integer.bitCount -/
def cnt (f : Nat → Bool) : Nat → Nat
  | 0 => 0
  | n + 1 => cnt f n + (f n).toNat
def msum (f : Nat → Nat) : Nat → Nat
  | 0 => 0
  | n + 1 => msum f n + f n
theorem cnt_le (f : Nat → Bool) : ∀ n, cnt f n ≤ n
  | 0 => Nat.le_refl 0
  | n + 1 => by have h := cnt_le f n; have h2 : (f n).toNat ≤ 1 := by { cases f n <;> decide }; show cnt f n + (f n).toNat ≤ n + 1; omega
def mpop (s : Nat) : Nat := cnt (fun i => s.testBit i) 8
theorem mpop_le (s : Nat) : mpop s ≤ 8 := cnt_le _ 8
theorem msum_le (f : Nat → Nat) (b : Nat) (h : ∀ n, f n ≤ b) : ∀ n, msum f n ≤ n * b
  | 0 => by show 0 ≤ 0 * b; omega
  | n + 1 => by have h1 := msum_le f b h n; have h2 := h n; show msum f n + f n ≤ (n + 1) * b; rw [Nat.add_mul]; omega
def mcopy (w : mW) (i j : Nat) (sp dp n : Int) : mW := fun a b => if a = j ∧ dp ≤ b ∧ b < dp + n then w i (sp + (b - dp)) else w a b
/-- a plan whose kinds and targets are in their ranges -/
def PlanOK (w : mW) (p : Nat) : Prop := ∀ s : Int, 0 ≤ s → s < 8 → (0 ≤ w (p + 1) (s * 7) ∧ w (p + 1) (s * 7) < 3) ∧ ∀ k : Int, 0 ≤ k → k < 6 → -1 ≤ w (p + 1) (s * 7 + 1 + k) ∧ w (p + 1) (s * 7 + 1 + k) < 8
def hasW (w : mW) (p : Nat) (s : Int) (k : Nat) : Bool := decide (¬ w (p + 1) (s * 7 + 1 + (k : Int)) = -1)
def sbF (w : mW) (p : Nat) (s : Int) (k : Nat) : Nat := if w (p + 1) (s * 7 + 1 + (k : Int)) = -1 ∨ w (p + 1) (s * 7) = 0 then 0 else 2 ^ (w (p + 1) (s * 7 + 1 + (k : Int))).toNat
def pclr (w : mW) (p : Nat) (m : Int) : mW := fun a b => if a = p + 1 ∧ 0 ≤ b ∧ b < m then (if b % 7 = 0 then 0 else -1) else w a b
theorem pclr_0 (w : mW) (p : Nat) : pclr w p 0 = w := by funext a b; unfold pclr; rw [if_neg (by omega)]
theorem pclr_k (w : mW) (p j : Nat) : mup (pclr w p ((j : Int) * 7)) (p + 1) ((j : Int) * 7) 0 = pclr w p ((j : Int) * 7 + 1) := by
  funext a b; simp only [pclr, mup]
  by_cases h : a = p + 1 ∧ b = (j : Int) * 7
  · rw [if_pos h, if_pos (by omega), if_pos (by omega)]
  · rw [if_neg h]
    by_cases h2 : a = p + 1 ∧ 0 ≤ b ∧ b < (j : Int) * 7
    · rw [if_pos h2, if_pos (show a = p + 1 ∧ 0 ≤ b ∧ b < (j : Int) * 7 + 1 by omega)]
    · rw [if_neg h2, if_neg (by omega)]
theorem pclr_w (w : mW) (p j k : Nat) (hk : k < 6) : mup (pclr w p ((j : Int) * 7 + 1 + k)) (p + 1) ((j : Int) * 7 + 1 + k) (-1) = pclr w p ((j : Int) * 7 + 1 + ((k + 1 : Nat) : Int)) := by
  funext a b; simp only [pclr, mup]
  by_cases h : a = p + 1 ∧ b = (j : Int) * 7 + 1 + k
  · rw [if_pos h, if_pos (by omega), if_neg (by omega)]
  · rw [if_neg h]
    by_cases h2 : a = p + 1 ∧ 0 ≤ b ∧ b < (j : Int) * 7 + 1 + k
    · rw [if_pos h2, if_pos (show a = p + 1 ∧ 0 ≤ b ∧ b < (j : Int) * 7 + 1 + ((k + 1 : Nat) : Int) by omega)]
    · rw [if_neg h2, if_neg (by omega)]
def swp (k : Int) : Int := if k = 0 then 0 else if k = 1 then 2 else 1
def pswp (w : mW) (p : Nat) (m : Int) : mW := fun a b => if a = p + 1 ∧ 0 ≤ b ∧ b < m ∧ b % 7 = 0 then swp (w a b) else w a b
theorem pswp_0 (w : mW) (p : Nat) : pswp w p 0 = w := by funext a b; unfold pswp; rw [if_neg (by omega)]
theorem pswp_at (w : mW) (p j : Nat) : pswp w p ((j : Int) * 7) (p + 1) ((j : Int) * 7) = w (p + 1) ((j : Int) * 7) := by unfold pswp; rw [if_neg (by omega)]
theorem pswp_k (w : mW) (p j : Nat) (z : Int) (hz : z = swp (w (p + 1) ((j : Int) * 7))) : mup (pswp w p ((j : Int) * 7)) (p + 1) ((j : Int) * 7) z = pswp w p (((j + 1 : Nat) : Int) * 7) := by
  funext a b; simp only [pswp, mup]
  by_cases h : a = p + 1 ∧ b = (j : Int) * 7
  · rw [if_pos h, if_pos (by omega), hz, h.1, h.2]
  · rw [if_neg h]
    by_cases h2 : a = p + 1 ∧ 0 ≤ b ∧ b < (j : Int) * 7 ∧ b % 7 = 0
    · rw [if_pos h2, if_pos (by omega)]
    · rw [if_neg h2, if_neg (by omega)]
theorem pswp_n (w : mW) (p j : Nat) (h0 : w (p + 1) ((j : Int) * 7) = 0) : pswp w p ((j : Int) * 7) = pswp w p (((j + 1 : Nat) : Int) * 7) := by
  rw [← pswp_k w p j 0 (by rw [h0]; rfl)]
  funext a b; simp only [mup]
  by_cases h : a = p + 1 ∧ b = (j : Int) * 7
  · rw [if_pos h, h.1, h.2, pswp_at, h0]
  · rw [if_neg h]
def rin (sb : Nat → Nat) (r : Nat) : Nat → Nat
  | 0 => r
  | n + 1 => if (rin sb r n).testBit n then rin sb r n ||| sb n else rin sb r n
def rout (sb : Nat → Nat) (r : Nat) : Nat → Nat
  | 0 => r
  | n + 1 => rin sb (rout sb r n) 8
theorem rin_lt (sb : Nat → Nat) (hsb : ∀ n, sb n < 2 ^ 8) (r : Nat) (hr : r < 2 ^ 8) : ∀ n, rin sb r n < 2 ^ 8
  | 0 => hr
  | n + 1 => by
    have h := rin_lt sb hsb r hr n
    unfold rin
    split
    · exact Nat.or_lt_two_pow h (hsb n)
    · exact h
theorem rout_lt (sb : Nat → Nat) (hsb : ∀ n, sb n < 2 ^ 8) (r : Nat) (hr : r < 2 ^ 8) : ∀ n, rout sb r n < 2 ^ 8
  | 0 => hr
  | n + 1 => rin_lt sb hsb _ (rout_lt sb hsb r hr n) 8
/-- the states behind a state, as a set; of a state that there is not, none -/
def sbOf (w : mW) (p : Nat) (s : Nat) : Nat := if s < 8 then wor (sbF w p s) 6 else 0
theorem sbF_lt {w : mW} {p : Nat} (hk : PlanOK w p) {s : Nat} (hs : s < 8) : ∀ n, n ≤ 6 → wor (sbF w p s) n < 2 ^ 8
  | 0, _ => Nat.two_pow_pos 8
  | n + 1, h => by
    refine Nat.or_lt_two_pow (sbF_lt hk hs n (by omega)) ?_
    unfold sbF
    split
    · decide
    · have := ((hk s (by omega) (by omega)).2 n (by omega) (by omega)).2
      exact Nat.pow_lt_pow_right (by decide) (by omega)
theorem sbOf_lt {w : mW} {p : Nat} (hk : PlanOK w p) (s : Nat) : sbOf w p s < 2 ^ 8 := by
  unfold sbOf; split
  · exact sbF_lt hk (by omega) 6 (Nat.le_refl 6)
  · decide
def comesF (w : mW) (p s : Nat) : Nat := rout (sbOf w p) (2 ^ s) 7
theorem comesF_lt {w : mW} {p s : Nat} (hk : PlanOK w p) (hs : s < 8) : comesF w p s < 2 ^ 8 := rout_lt _ (sbOf_lt hk) _ (Nat.pow_lt_pow_right (by decide) hs) 7
def bcE (s : Nat) : Nat :=
  let a := s - (s / 2 ^ 1 &&& 1431655765)
  let b := (a &&& 858993459) + (a / 2 ^ 2 &&& 858993459)
  let c := (b + b / 2 ^ 4) &&& 252645135
  let d := c + c / 2 ^ 8
  let e := d + d / 2 ^ 16
  e &&& 63
theorem bcE_ok : ∀ s, s < 256 → bcE s = mpop s := by decide +kernel
theorem bc_lt : ∀ s, s < 256 → (s - (s / 2 ^ 1 &&& 1431655765)) < 256 ∧ (s / 2 ^ 1 &&& 1431655765) ≤ s := by decide +kernel
set_option maxRecDepth 100000 in
set_option maxHeartbeats 4000000 in
theorem s_X3_kindOf {l : Launch} {G : mG} {w : mW} {p : Nat} (hp : PlanIx p) {z : Int} (hz : 0 ≤ z ∧ z < 8) : Mx l G 1 yX3_kindOf cX3_kindOf 2 (some .int) [mvR p, mvI z] w (qP (mvI (w (p + 1) (z * 7))) w) := by
  refine Mx.intro (by decide) RX3 rfl [some (mvR p), some (mvI z)] (Nat.le_of_ble_eq_true rfl) rfl (fun K hC => ?_)
  refine wm_iload_n hC 1 (pc := 0) dX3_kindOf_0 rfl rfl ?_
  refine wm_pN hC cn_X3_26 kc_X8_isState (s_X8_isState (by omega)) rfl (by decide) rfl (Nat.le_of_ble_eq_true rfl) (pc := 1) dX3_kindOf_1 ?_
  refine wm_ifd_eq hC 19 (pc := 4) dX3_kindOf_4 (by decide) (fun h4 => ?_) (fun h4 => ?_)
  · omega
  · refine wm_aload_n hC 0 (pc := 7) dX3_kindOf_7 rfl rfl ?_
    refine wm_getR hC fl_X3_11_2 hp.1 rfl (pc := 8) dX3_kindOf_8 ?_
    refine wm_iload_n hC 1 (pc := 11) dX3_kindOf_11 rfl rfl ?_
    refine wm_bipush hC (pc := 12) dX3_kindOf_12 (by decide) ?_
    refine wm_imul hC (pc := 14) dX3_kindOf_14 ?_
    refine wm_iaload hC hp.2 (by omega) (by decide) (pc := 15) dX3_kindOf_15 ?_
    refine wm_goto hC 20 (pc := 16) dX3_kindOf_16 (by decide) ?_
    refine wm_iretP hC (pc := 20) dX3_kindOf_20 ?_ rfl
    rfl
set_option maxRecDepth 100000 in
set_option maxHeartbeats 4000000 in
theorem s_X3_setKind {l : Launch} {G : mG} {w : mW} {p : Nat} (hp : PlanIx p) {z v : Int} (hz : 0 ≤ z ∧ z < 8) : Mx l G 1 yX3_setKind cX3_setKind 3 none [mvR p, mvI z, mvI v] w (qV (fun w' => w' = mup w (p + 1) (z * 7) v)) := by
  refine Mx.intro (by decide) RX3 rfl [some (mvR p), some (mvI z), some (mvI v)] (Nat.le_of_ble_eq_true rfl) rfl (fun K hC => ?_)
  refine wm_iload_n hC 1 (pc := 0) dX3_setKind_0 rfl rfl ?_
  refine wm_pN hC cn_X3_26 kc_X8_isState (s_X8_isState (by omega)) rfl (by decide) rfl (Nat.le_of_ble_eq_true rfl) (pc := 1) dX3_setKind_1 ?_
  refine wm_ifd_eq hC 17 (pc := 4) dX3_setKind_4 (by decide) (fun h4 => ?_) (fun h4 => ?_)
  · omega
  · refine wm_aload_n hC 0 (pc := 7) dX3_setKind_7 rfl rfl ?_
    refine wm_getR hC fl_X3_11_2 hp.1 rfl (pc := 8) dX3_setKind_8 ?_
    refine wm_iload_n hC 1 (pc := 11) dX3_setKind_11 rfl rfl ?_
    refine wm_bipush hC (pc := 12) dX3_setKind_12 (by decide) ?_
    refine wm_imul hC (pc := 14) dX3_setKind_14 ?_
    refine wm_iload_n hC 2 (pc := 15) dX3_setKind_15 rfl rfl ?_
    refine wm_iastore hC hp.2 (by omega) (by decide) (pc := 16) dX3_setKind_16 ?_
    refine wm_retV hC (pc := 17) dX3_setKind_17 ?_
    rfl
set_option maxRecDepth 100000 in
set_option maxHeartbeats 4000000 in
theorem s_X3_targetOf {l : Launch} {G : mG} {w : mW} {p : Nat} (hp : PlanIx p) {z k : Int} (hz : 0 ≤ z ∧ z < 8) (hw : 0 ≤ k ∧ k < 6) : Mx l G 1 yX3_targetOf cX3_targetOf 3 (some .int) [mvR p, mvI z, mvI k] w (qP (mvI (w (p + 1) (z * 7 + 1 + k))) w) := by
  refine Mx.intro (by decide) RX3 rfl [some (mvR p), some (mvI z), some (mvI k)] (Nat.le_of_ble_eq_true rfl) rfl (fun K hC => ?_)
  refine wm_iload_n hC 1 (pc := 0) dX3_targetOf_0 rfl rfl ?_
  refine wm_pN hC cn_X3_26 kc_X8_isState (s_X8_isState (by omega)) rfl (by decide) rfl (Nat.le_of_ble_eq_true rfl) (pc := 1) dX3_targetOf_1 ?_
  refine wm_ifd_eq hC 30 (pc := 4) dX3_targetOf_4 (by decide) (fun h4 => ?_) (fun h4 => ?_)
  · omega
  · refine wm_iload_n hC 2 (pc := 7) dX3_targetOf_7 rfl rfl ?_
    refine wm_pN hC cn_X3_30 kc_X8_isWord (s_X8_isWord (by omega)) rfl (by decide) rfl (Nat.le_of_ble_eq_true rfl) (pc := 8) dX3_targetOf_8 ?_
    refine wm_ifd_eq hC 30 (pc := 11) dX3_targetOf_11 (by decide) (fun h11 => ?_) (fun h11 => ?_)
    · omega
    · refine wm_aload_n hC 0 (pc := 14) dX3_targetOf_14 rfl rfl ?_
      refine wm_getR hC fl_X3_11_2 hp.1 rfl (pc := 15) dX3_targetOf_15 ?_
      refine wm_iload_n hC 1 (pc := 18) dX3_targetOf_18 rfl rfl ?_
      refine wm_bipush hC (pc := 19) dX3_targetOf_19 (by decide) ?_
      refine wm_imul hC (pc := 21) dX3_targetOf_21 ?_
      refine wm_iconst hC (pc := 22) dX3_targetOf_22 ?_
      refine wm_iadd hC (pc := 23) dX3_targetOf_23 ?_
      refine wm_iload_n hC 2 (pc := 24) dX3_targetOf_24 rfl rfl ?_
      refine wm_iadd hC (pc := 25) dX3_targetOf_25 ?_
      refine wm_iaload hC hp.2 (by omega) (by decide) (pc := 26) dX3_targetOf_26 ?_
      refine wm_goto hC 31 (pc := 27) dX3_targetOf_27 (by decide) ?_
      refine wm_iretP hC (pc := 31) dX3_targetOf_31 ?_ rfl
      rfl
set_option maxRecDepth 100000 in
set_option maxHeartbeats 4000000 in
theorem s_X3_setTarget {l : Launch} {G : mG} {w : mW} {p : Nat} (hp : PlanIx p) {z k v : Int} (hz : 0 ≤ z ∧ z < 8) (hw : 0 ≤ k ∧ k < 6) : Mx l G 1 yX3_setTarget cX3_setTarget 4 none [mvR p, mvI z, mvI k, mvI v] w (qV (fun w' => w' = mup w (p + 1) (z * 7 + 1 + k) v)) := by
  refine Mx.intro (by decide) RX3 rfl [some (mvR p), some (mvI z), some (mvI k), some (mvI v)] (Nat.le_of_ble_eq_true rfl) rfl (fun K hC => ?_)
  refine wm_iload_n hC 1 (pc := 0) dX3_setTarget_0 rfl rfl ?_
  refine wm_pN hC cn_X3_26 kc_X8_isState (s_X8_isState (by omega)) rfl (by decide) rfl (Nat.le_of_ble_eq_true rfl) (pc := 1) dX3_setTarget_1 ?_
  refine wm_ifd_eq hC 28 (pc := 4) dX3_setTarget_4 (by decide) (fun h4 => ?_) (fun h4 => ?_)
  · omega
  · refine wm_iload_n hC 2 (pc := 7) dX3_setTarget_7 rfl rfl ?_
    refine wm_pN hC cn_X3_30 kc_X8_isWord (s_X8_isWord (by omega)) rfl (by decide) rfl (Nat.le_of_ble_eq_true rfl) (pc := 8) dX3_setTarget_8 ?_
    refine wm_ifd_eq hC 28 (pc := 11) dX3_setTarget_11 (by decide) (fun h11 => ?_) (fun h11 => ?_)
    · omega
    · refine wm_aload_n hC 0 (pc := 14) dX3_setTarget_14 rfl rfl ?_
      refine wm_getR hC fl_X3_11_2 hp.1 rfl (pc := 15) dX3_setTarget_15 ?_
      refine wm_iload_n hC 1 (pc := 18) dX3_setTarget_18 rfl rfl ?_
      refine wm_bipush hC (pc := 19) dX3_setTarget_19 (by decide) ?_
      refine wm_imul hC (pc := 21) dX3_setTarget_21 ?_
      refine wm_iconst hC (pc := 22) dX3_setTarget_22 ?_
      refine wm_iadd hC (pc := 23) dX3_setTarget_23 ?_
      refine wm_iload_n hC 2 (pc := 24) dX3_setTarget_24 rfl rfl ?_
      refine wm_iadd hC (pc := 25) dX3_setTarget_25 ?_
      refine wm_iload_n hC 3 (pc := 26) dX3_setTarget_26 rfl rfl ?_
      refine wm_iastore hC hp.2 (by omega) (by decide) (pc := 27) dX3_setTarget_27 ?_
      refine wm_retV hC (pc := 28) dX3_setTarget_28 ?_
      rfl
set_option maxRecDepth 100000 in
set_option maxHeartbeats 4000000 in
theorem s_X3_wordsOf {l : Launch} {G : mG} {w : mW} {p : Nat} (hp : PlanIx p) {z : Int} (hz : 0 ≤ z ∧ z < 8) (hk : PlanOK w p) : Mx l G 2 yX3_wordsOf cX3_wordsOf 4 (some .int) [mvR p, mvI z] w (qP (mvI ((wmask (hasW w p z) 6 : Nat) : Int)) w) := by
  refine Mx.intro (by decide) RX3 rfl [some (mvR p), some (mvI z), none, none] (Nat.le_of_ble_eq_true rfl) rfl (fun K hC => ?_)
  refine wm_iconst hC (pc := 0) dX3_wordsOf_0 ?_
  refine wm_istore_n hC 2 (pc := 1) dX3_wordsOf_1 rfl (by decide) rfl ?_
  refine wm_iconst hC (pc := 2) dX3_wordsOf_2 ?_
  refine wm_istore_n hC 3 (pc := 3) dX3_wordsOf_3 rfl (by decide) rfl ?_
  have lp4 : ∀ (n : Nat) (j : Nat), n = 6 - j → j ≤ 6 → Wm l G K 2 4 (qP (mvI ((wmask (hasW w p z) 6 : Nat) : Int)) w) 4 [some (mvR p), some (mvI z), some (mvI ((wmask (hasW w p z) j : Nat) : Int)), some (mvI (j : Int))] [] w := by
    intro n
    induction n using Nat.strongRecOn with
    | _ n ih =>
    intro j hn hj
    refine wm_iload_n hC 3 (pc := 4) dX3_wordsOf_4 rfl rfl ?_
    refine wm_bipush hC (pc := 5) dX3_wordsOf_5 (by decide) ?_
    refine wm_icmp_ge hC 32 (pc := 7) dX3_wordsOf_7 (by decide) (by omega) (by omega) (fun h7 => ?_) (fun h7 => ?_)
    · refine wm_iload_n hC 2 (pc := 32) dX3_wordsOf_32 rfl rfl ?_
      refine wm_iretP hC (pc := 33) dX3_wordsOf_33 ?_ rfl
      have : j = 6 := by omega
      rw [this]
    · refine wm_aload_n hC 0 (pc := 10) dX3_wordsOf_10 rfl rfl ?_
      refine wm_iload_n hC 1 (pc := 11) dX3_wordsOf_11 rfl rfl ?_
      refine wm_iload_n hC 3 (pc := 12) dX3_wordsOf_12 rfl rfl ?_
      refine wm_pV hC cv_X3_33 kc_X3_targetOf hp.1 rfl (s_X3_targetOf hp (by omega) (by omega)) rfl (by decide) rfl (Nat.le_of_ble_eq_true rfl) (pc := 13) dX3_wordsOf_13 ?_
      refine wm_iconst hC (pc := 16) dX3_wordsOf_16 ?_
      have hb := (hk z (by omega) (by omega)).2 j (by omega) (by omega)
      refine wm_icmp_eq hC 26 (pc := 17) dX3_wordsOf_17 (by decide) (by omega) (by omega) (fun h17 => ?_) (fun h17 => ?_)
      · have e : wmask (hasW w p z) (j + 1) = wmask (hasW w p z) j := by simp [wmask, hasW, h17]
        refine wm_iinc hC (pc := 26) dX3_wordsOf_26 rfl rfl (by decide) rfl ?_
        refine wm_goto hC 4 (pc := 29) dX3_wordsOf_29 (by decide) ?_
        have hh := ih _ (by omega) (j + 1) rfl (by omega)
        rw [e] at hh
        exact hh
      · have e : wmask (hasW w p z) (j + 1) = wmask (hasW w p z) j ||| 2 ^ j := by simp [wmask, hasW, h17]
        refine wm_iload_n hC 2 (pc := 20) dX3_wordsOf_20 rfl rfl ?_
        refine wm_iconst hC (pc := 21) dX3_wordsOf_21 ?_
        refine wm_iload_n hC 3 (pc := 22) dX3_wordsOf_22 rfl rfl ?_
        refine wm_ishl1 hC j (pc := 23) dX3_wordsOf_23 rfl (by omega) ?_
        refine wm_ior hC _ _ (pc := 24) dX3_wordsOf_24 rfl rfl ?_
        refine wm_istore_n hC 2 (pc := 25) dX3_wordsOf_25 rfl (by decide) rfl ?_
        refine wm_iinc hC (pc := 26) dX3_wordsOf_26 rfl rfl (by decide) rfl ?_
        refine wm_goto hC 4 (pc := 29) dX3_wordsOf_29 (by decide) ?_
        have hh := ih _ (by omega) (j + 1) rfl (by omega)
        rw [e] at hh
        exact hh
  exact lp4 _ 0 rfl (by omega)
set_option maxRecDepth 100000 in
set_option maxHeartbeats 4000000 in
theorem s_J6_bitCount_0f7a4 {l : Launch} {G : mG} {w : mW} {s : Nat} (hs : s < 256) : Mx l G 0 yJ6_bitCount_0f7a4 cJ6_bitCount_0f7a4 1 (some .int) [mvI (s : Int)] w (qP (mvI ((mpop s : Nat) : Int)) w) := by
  refine Mx.intro (by decide) RJ6 rfl [some (mvI (s : Int))] (Nat.le_of_ble_eq_true rfl) rfl (fun K hC => ?_)
  have hb1 := bc_lt s hs
  have ea : (s : Int) - ((s / 2 ^ 1 &&& 1431655765 : Nat) : Int) = ((s - (s / 2 ^ 1 &&& 1431655765) : Nat) : Int) := by omega
  refine wm_iload_n hC 0 (pc := 0) dJ6_bitCount_0f7a4_0 rfl rfl ?_
  refine wm_iload_n hC 0 (pc := 1) dJ6_bitCount_0f7a4_1 rfl rfl ?_
  refine wm_iconst hC (pc := 2) dJ6_bitCount_0f7a4_2 ?_
  refine wm_iushr hC s 1 (pc := 3) dJ6_bitCount_0f7a4_3 rfl rfl (by omega) (by omega) ?_
  refine wm_ldcw hC (1431655765) kI_J6_265 (pc := 4) dJ6_bitCount_0f7a4_4 ?_
  refine wm_iand hC (s / 2 ^ 1) 1431655765 (pc := 7) dJ6_bitCount_0f7a4_7 rfl rfl ?_
  refine wm_isub hC (pc := 8) dJ6_bitCount_0f7a4_8 ?_
  refine wm_istore_n hC 0 (pc := 9) dJ6_bitCount_0f7a4_9 rfl (by decide) rfl ?_
  rw [ea]
  generalize ha : s - (s / 2 ^ 1 &&& 1431655765) = a at *
  refine wm_iload_n hC 0 (pc := 10) dJ6_bitCount_0f7a4_10 rfl rfl ?_
  refine wm_ldcw hC (858993459) kI_J6_266 (pc := 11) dJ6_bitCount_0f7a4_11 ?_
  refine wm_iand hC a 858993459 (pc := 14) dJ6_bitCount_0f7a4_14 rfl rfl ?_
  refine wm_iload_n hC 0 (pc := 15) dJ6_bitCount_0f7a4_15 rfl rfl ?_
  refine wm_iconst hC (pc := 16) dJ6_bitCount_0f7a4_16 ?_
  refine wm_iushr hC a 2 (pc := 17) dJ6_bitCount_0f7a4_17 rfl rfl (by omega) (by omega) ?_
  refine wm_ldcw hC (858993459) kI_J6_266 (pc := 18) dJ6_bitCount_0f7a4_18 ?_
  refine wm_iand hC (a / 2 ^ 2) 858993459 (pc := 21) dJ6_bitCount_0f7a4_21 rfl rfl ?_
  refine wm_iadd hC (pc := 22) dJ6_bitCount_0f7a4_22 ?_
  refine wm_istore_n hC 0 (pc := 23) dJ6_bitCount_0f7a4_23 rfl (by decide) rfl ?_
  have hb2 : (a &&& 858993459) ≤ a := Nat.and_le_left
  have hb3 : (a / 2 ^ 2 &&& 858993459) ≤ a / 2 ^ 2 := Nat.and_le_left
  generalize hb : (a &&& 858993459) + (a / 2 ^ 2 &&& 858993459) = b
  have eb : ((a &&& 858993459 : Nat) : Int) + ((a / 2 ^ 2 &&& 858993459 : Nat) : Int) = (b : Int) := by omega
  rw [eb]
  refine wm_iload_n hC 0 (pc := 24) dJ6_bitCount_0f7a4_24 rfl rfl ?_
  refine wm_iload_n hC 0 (pc := 25) dJ6_bitCount_0f7a4_25 rfl rfl ?_
  refine wm_iconst hC (pc := 26) dJ6_bitCount_0f7a4_26 ?_
  refine wm_iushr hC b 4 (pc := 27) dJ6_bitCount_0f7a4_27 rfl rfl (by omega) (by omega) ?_
  refine wm_iadd hC (pc := 28) dJ6_bitCount_0f7a4_28 ?_
  refine wm_ldcw hC (252645135) kI_J6_267 (pc := 29) dJ6_bitCount_0f7a4_29 ?_
  refine wm_iand hC (b + b / 2 ^ 4) 252645135 (pc := 32) dJ6_bitCount_0f7a4_32 (by omega) rfl ?_
  refine wm_istore_n hC 0 (pc := 33) dJ6_bitCount_0f7a4_33 rfl (by decide) rfl ?_
  have hc1 : ((b + b / 2 ^ 4) &&& 252645135) ≤ b + b / 2 ^ 4 := Nat.and_le_left
  generalize hc : (b + b / 2 ^ 4) &&& 252645135 = c at *
  refine wm_iload_n hC 0 (pc := 34) dJ6_bitCount_0f7a4_34 rfl rfl ?_
  refine wm_iload_n hC 0 (pc := 35) dJ6_bitCount_0f7a4_35 rfl rfl ?_
  refine wm_bipush hC (pc := 36) dJ6_bitCount_0f7a4_36 (by decide) ?_
  refine wm_iushr hC c 8 (pc := 38) dJ6_bitCount_0f7a4_38 rfl rfl (by omega) (by omega) ?_
  refine wm_iadd hC (pc := 39) dJ6_bitCount_0f7a4_39 ?_
  refine wm_istore_n hC 0 (pc := 40) dJ6_bitCount_0f7a4_40 rfl (by decide) rfl ?_
  refine wm_iload_n hC 0 (pc := 41) dJ6_bitCount_0f7a4_41 rfl rfl ?_
  refine wm_iload_n hC 0 (pc := 42) dJ6_bitCount_0f7a4_42 rfl rfl ?_
  refine wm_bipush hC (pc := 43) dJ6_bitCount_0f7a4_43 (by decide) ?_
  refine wm_iushr hC (c + c / 2 ^ 8) 16 (pc := 45) dJ6_bitCount_0f7a4_45 (by omega) rfl (by omega) (by omega) ?_
  refine wm_iadd hC (pc := 46) dJ6_bitCount_0f7a4_46 ?_
  refine wm_istore_n hC 0 (pc := 47) dJ6_bitCount_0f7a4_47 rfl (by decide) rfl ?_
  refine wm_iload_n hC 0 (pc := 48) dJ6_bitCount_0f7a4_48 rfl rfl ?_
  refine wm_bipush hC (pc := 49) dJ6_bitCount_0f7a4_49 (by decide) ?_
  refine wm_iand hC (c + c / 2 ^ 8 + (c + c / 2 ^ 8) / 2 ^ 16) 63 (pc := 51) dJ6_bitCount_0f7a4_51 (by omega) rfl ?_
  refine wm_iretP hC (pc := 52) dJ6_bitCount_0f7a4_52 ?_ rfl
  have h := bcE_ok s hs
  simp only [bcE, ha, hb, hc] at h
  rw [h]
set_option maxRecDepth 100000 in
set_option maxHeartbeats 4000000 in
theorem s_X3_arrows {l : Launch} {G : mG} {w : mW} {p : Nat} (hp : PlanIx p) (hk : PlanOK w p) : Mx l G 3 yX3_arrows cX3_arrows 3 (some .int) [mvR p] w (qP (mvI ((msum (fun s => mpop (wmask (hasW w p s) 6)) 8 : Nat) : Int)) w) := by
  refine Mx.intro (by decide) RX3 rfl [some (mvR p), none, none] (Nat.le_of_ble_eq_true rfl) rfl (fun K hC => ?_)
  refine wm_iconst hC (pc := 0) dX3_arrows_0 ?_
  refine wm_istore_n hC 1 (pc := 1) dX3_arrows_1 rfl (by decide) rfl ?_
  refine wm_iconst hC (pc := 2) dX3_arrows_2 ?_
  refine wm_istore_n hC 2 (pc := 3) dX3_arrows_3 rfl (by decide) rfl ?_
  have lp4 : ∀ (n : Nat) (j : Nat), n = 8 - j → j ≤ 8 → Wm l G K 3 3 (qP (mvI ((msum (fun s => mpop (wmask (hasW w p s) 6)) 8 : Nat) : Int)) w) 4 [some (mvR p), some (mvI ((msum (fun s => mpop (wmask (hasW w p s) 6)) j : Nat) : Int)), some (mvI (j : Int))] [] w := by
    intro n
    induction n using Nat.strongRecOn with
    | _ n ih =>
    intro j hn hj
    refine wm_iload_n hC 2 (pc := 4) dX3_arrows_4 rfl rfl ?_
    refine wm_bipush hC (pc := 5) dX3_arrows_5 (by decide) ?_
    refine wm_icmp_ge hC 27 (pc := 7) dX3_arrows_7 (by decide) (by omega) (by omega) (fun h7 => ?_) (fun h7 => ?_)
    · refine wm_iload_n hC 1 (pc := 27) dX3_arrows_27 rfl rfl ?_
      refine wm_iretP hC (pc := 28) dX3_arrows_28 ?_ rfl
      have : j = 8 := by omega
      rw [this]
    · refine wm_iload_n hC 1 (pc := 10) dX3_arrows_10 rfl rfl ?_
      refine wm_aload_n hC 0 (pc := 11) dX3_arrows_11 rfl rfl ?_
      refine wm_iload_n hC 2 (pc := 12) dX3_arrows_12 rfl rfl ?_
      refine wm_pV hC cv_X3_37 kc_X3_wordsOf hp.1 rfl (s_X3_wordsOf hp (by omega) hk) rfl (by decide) rfl (Nat.le_of_ble_eq_true rfl) (pc := 13) dX3_arrows_13 ?_
      refine wm_pS hC cs_X3_41 kc_J6_bitCount_0f7a4 (s_J6_bitCount_0f7a4 (Nat.lt_of_lt_of_le (wmask_lt _ 6) (by decide))) rfl (by decide) rfl (Nat.le_of_ble_eq_true rfl) (pc := 16) dX3_arrows_16 ?_
      refine wm_iadd hC (pc := 19) dX3_arrows_19 ?_
      refine wm_istore_n hC 1 (pc := 20) dX3_arrows_20 rfl (by decide) rfl ?_
      refine wm_iinc hC (pc := 21) dX3_arrows_21 rfl rfl (by decide) rfl ?_
      refine wm_goto hC 4 (pc := 24) dX3_arrows_24 (by decide) ?_
      exact ih _ (by omega) (j + 1) rfl (by omega)
  exact lp4 _ 0 rfl (by omega)
set_option maxRecDepth 100000 in
set_option maxHeartbeats 4000000 in
theorem s_X3_lastingStates {l : Launch} {G : mG} {w : mW} {p : Nat} (hp : PlanIx p) (hk : PlanOK w p) : Mx l G 2 yX3_lastingStates cX3_lastingStates 3 (some .int) [mvR p] w (qP (mvI ((cnt (fun s => decide (¬ w (p + 1) ((s : Int) * 7) = 0)) 8 : Nat) : Int)) w) := by
  refine Mx.intro (by decide) RX3 rfl [some (mvR p), none, none] (Nat.le_of_ble_eq_true rfl) rfl (fun K hC => ?_)
  refine wm_iconst hC (pc := 0) dX3_lastingStates_0 ?_
  refine wm_istore_n hC 1 (pc := 1) dX3_lastingStates_1 rfl (by decide) rfl ?_
  refine wm_iconst hC (pc := 2) dX3_lastingStates_2 ?_
  refine wm_istore_n hC 2 (pc := 3) dX3_lastingStates_3 rfl (by decide) rfl ?_
  have lp4 : ∀ (n : Nat) (j : Nat), n = 8 - j → j ≤ 8 → Wm l G K 2 3 (qP (mvI ((cnt (fun s => decide (¬ w (p + 1) ((s : Int) * 7) = 0)) 8 : Nat) : Int)) w) 4 [some (mvR p), some (mvI ((cnt (fun s => decide (¬ w (p + 1) ((s : Int) * 7) = 0)) j : Nat) : Int)), some (mvI (j : Int))] [] w := by
    intro n
    induction n using Nat.strongRecOn with
    | _ n ih =>
    intro j hn hj
    refine wm_iload_n hC 2 (pc := 4) dX3_lastingStates_4 rfl rfl ?_
    refine wm_bipush hC (pc := 5) dX3_lastingStates_5 (by decide) ?_
    refine wm_icmp_ge hC 27 (pc := 7) dX3_lastingStates_7 (by decide) (by omega) (by omega) (fun h7 => ?_) (fun h7 => ?_)
    · refine wm_iload_n hC 1 (pc := 27) dX3_lastingStates_27 rfl rfl ?_
      refine wm_iretP hC (pc := 28) dX3_lastingStates_28 ?_ rfl
      have : j = 8 := by omega
      rw [this]
    · refine wm_aload_n hC 0 (pc := 10) dX3_lastingStates_10 rfl rfl ?_
      refine wm_iload_n hC 2 (pc := 11) dX3_lastingStates_11 rfl rfl ?_
      refine wm_pV hC cv_X3_46 kc_X3_kindOf hp.1 rfl (s_X3_kindOf hp (by omega)) rfl (by decide) rfl (Nat.le_of_ble_eq_true rfl) (pc := 12) dX3_lastingStates_12 ?_
      have hb := (hk j (by omega) (by omega)).1
      refine wm_if_eq hC 21 (pc := 15) dX3_lastingStates_15 (by decide) (by omega) (fun h15 => ?_) (fun h15 => ?_)
      · have e : cnt (fun s => decide (¬ w (p + 1) ((s : Int) * 7) = 0)) (j + 1) = cnt (fun s => decide (¬ w (p + 1) ((s : Int) * 7) = 0)) j := by simp [cnt, h15]
        refine wm_iinc hC (pc := 21) dX3_lastingStates_21 rfl rfl (by decide) rfl ?_
        refine wm_goto hC 4 (pc := 24) dX3_lastingStates_24 (by decide) ?_
        have hh := ih _ (by omega) (j + 1) rfl (by omega)
        rw [e] at hh
        exact hh
      · have e : cnt (fun s => decide (¬ w (p + 1) ((s : Int) * 7) = 0)) (j + 1) = cnt (fun s => decide (¬ w (p + 1) ((s : Int) * 7) = 0)) j + 1 := by simp [cnt, h15]
        refine wm_iinc hC (pc := 18) dX3_lastingStates_18 rfl rfl (by decide) rfl ?_
        refine wm_iinc hC (pc := 21) dX3_lastingStates_21 rfl rfl (by decide) rfl ?_
        refine wm_goto hC 4 (pc := 24) dX3_lastingStates_24 (by decide) ?_
        have hh := ih _ (by omega) (j + 1) rfl (by omega)
        rw [e] at hh
        exact hh
  exact lp4 _ 0 rfl (by omega)
set_option maxRecDepth 100000 in
set_option maxHeartbeats 4000000 in
theorem s_X3_clear {l : Launch} {G : mG} {w : mW} {p : Nat} (hp : PlanIx p) : Mx l G 2 yX3_clear cX3_clear 3 none [mvR p] w (qV (fun w' => w' = pclr w p 56)) := by
  refine Mx.intro (by decide) RX3 rfl [some (mvR p), none, none] (Nat.le_of_ble_eq_true rfl) rfl (fun K hC => ?_)
  refine wm_iconst hC (pc := 0) dX3_clear_0 ?_
  refine wm_istore_n hC 1 (pc := 1) dX3_clear_1 rfl (by decide) rfl ?_
  have lp2 : ∀ (n : Nat) (j : Nat) (o : Option mV), n = 8 - j → j ≤ 8 → Wm l G K 2 3 (qV (fun w' => w' = pclr w p 56)) 2 [some (mvR p), some (mvI (j : Int)), o] [] (pclr w p ((j : Int) * 7)) := by
    intro n
    induction n using Nat.strongRecOn with
    | _ n ih =>
    intro j o hn hj
    refine wm_iload_n hC 1 (pc := 2) dX3_clear_2 rfl rfl ?_
    refine wm_bipush hC (pc := 3) dX3_clear_3 (by decide) ?_
    refine wm_icmp_ge hC 41 (pc := 5) dX3_clear_5 (by decide) (by omega) (by omega) (fun h5 => ?_) (fun h5 => ?_)
    · refine wm_retV hC (pc := 41) dX3_clear_41 ?_
      have : (j : Int) * 7 = 56 := by omega
      rw [this]
    · refine wm_aload_n hC 0 (pc := 8) dX3_clear_8 rfl rfl ?_
      refine wm_iload_n hC 1 (pc := 9) dX3_clear_9 rfl rfl ?_
      refine wm_iconst hC (pc := 10) dX3_clear_10 ?_
      refine wm_vV hC cv_X3_18 kc_X3_setKind hp.1 rfl (s_X3_setKind hp (by omega)) rfl (by decide) rfl (Nat.le_of_ble_eq_true rfl) (pc := 11) dX3_clear_11 (fun w11 hw11 => ?_)
      subst hw11
      rw [pclr_k]
      refine wm_iconst hC (pc := 14) dX3_clear_14 ?_
      refine wm_istore_n hC 2 (pc := 15) dX3_clear_15 rfl (by decide) rfl ?_
      have lp16 : ∀ (n : Nat) (k : Nat), n = 6 - k → k ≤ 6 → Wm l G K 2 3 (qV (fun w' => w' = pclr w p 56)) 16 [some (mvR p), some (mvI (j : Int)), some (mvI (k : Int))] [] (pclr w p ((j : Int) * 7 + 1 + (k : Int))) := by
        intro n
        induction n using Nat.strongRecOn with
        | _ n ih =>
        intro k hm hk2
        rename_i n0 ih0
        refine wm_iload_n hC 2 (pc := 16) dX3_clear_16 rfl rfl ?_
        refine wm_bipush hC (pc := 17) dX3_clear_17 (by decide) ?_
        refine wm_icmp_ge hC 35 (pc := 19) dX3_clear_19 (by decide) (by omega) (by omega) (fun h19 => ?_) (fun h19 => ?_)
        · refine wm_iinc hC (pc := 35) dX3_clear_35 rfl rfl (by decide) rfl ?_
          refine wm_goto hC 2 (pc := 38) dX3_clear_38 (by decide) ?_
          have e : (j : Int) * 7 + 1 + (k : Int) = ((j + 1 : Nat) : Int) * 7 := by omega
          rw [e]
          exact ih0 _ (by omega) (j + 1) _ rfl (by omega)
        · refine wm_aload_n hC 0 (pc := 22) dX3_clear_22 rfl rfl ?_
          refine wm_iload_n hC 1 (pc := 23) dX3_clear_23 rfl rfl ?_
          refine wm_iload_n hC 2 (pc := 24) dX3_clear_24 rfl rfl ?_
          refine wm_iconst hC (pc := 25) dX3_clear_25 ?_
          refine wm_vV hC cv_X3_22 kc_X3_setTarget hp.1 rfl (s_X3_setTarget hp (by omega) (by omega)) rfl (by decide) rfl (Nat.le_of_ble_eq_true rfl) (pc := 26) dX3_clear_26 (fun w26 hw26 => ?_)
          subst hw26
          rw [pclr_w w p j k (by omega)]
          refine wm_iinc hC (pc := 29) dX3_clear_29 rfl rfl (by decide) rfl ?_
          refine wm_goto hC 16 (pc := 32) dX3_clear_32 (by decide) ?_
          exact ih _ (by omega) (k + 1) rfl (by omega)
      have hh := lp16 _ 0 rfl (by omega)
      rw [show (j : Int) * 7 + 1 + ((0 : Nat) : Int) = (j : Int) * 7 + 1 by omega] at hh
      exact hh
  have hh := lp2 _ 0 none rfl (by omega)
  rw [show (((0 : Nat) : Int) * 7) = 0 from rfl, pclr_0] at hh
  exact hh
set_option maxRecDepth 100000 in
set_option maxHeartbeats 4000000 in
theorem s_X3_swapSides {l : Launch} {G : mG} {w : mW} {p : Nat} (hp : PlanIx p) (hk : PlanOK w p) : Mx l G 2 yX3_swapSides cX3_swapSides 3 none [mvR p] w (qV (fun w' => w' = pswp w p 56)) := by
  refine Mx.intro (by decide) RX3 rfl [some (mvR p), none, none] (Nat.le_of_ble_eq_true rfl) rfl (fun K hC => ?_)
  refine wm_iconst hC (pc := 0) dX3_swapSides_0 ?_
  refine wm_istore_n hC 1 (pc := 1) dX3_swapSides_1 rfl (by decide) rfl ?_
  have lp2 : ∀ (n : Nat) (j : Nat) (o : Option mV), n = 8 - j → j ≤ 8 → Wm l G K 2 3 (qV (fun w' => w' = pswp w p 56)) 2 [some (mvR p), some (mvI (j : Int)), o] [] (pswp w p ((j : Int) * 7)) := by
    intro n
    induction n using Nat.strongRecOn with
    | _ n ih =>
    intro j o hn hj
    refine wm_iload_n hC 1 (pc := 2) dX3_swapSides_2 rfl rfl ?_
    refine wm_bipush hC (pc := 3) dX3_swapSides_3 (by decide) ?_
    refine wm_icmp_ge hC 39 (pc := 5) dX3_swapSides_5 (by decide) (by omega) (by omega) (fun h5 => ?_) (fun h5 => ?_)
    · refine wm_retV hC (pc := 39) dX3_swapSides_39 ?_
      have : (j : Int) * 7 = 56 := by omega
      rw [this]
    · refine wm_aload_n hC 0 (pc := 8) dX3_swapSides_8 rfl rfl ?_
      refine wm_iload_n hC 1 (pc := 9) dX3_swapSides_9 rfl rfl ?_
      refine wm_pV hC cv_X3_46 kc_X3_kindOf hp.1 rfl (s_X3_kindOf hp (by omega)) rfl (by decide) rfl (Nat.le_of_ble_eq_true rfl) (pc := 10) dX3_swapSides_10 ?_
      refine wm_istore_n hC 2 (pc := 13) dX3_swapSides_13 rfl (by decide) rfl ?_
      refine wm_iload_n hC 2 (pc := 14) dX3_swapSides_14 rfl rfl ?_
      rw [pswp_at]
      have hb := (hk j (by omega) (by omega)).1
      refine wm_if_eq hC 33 (pc := 15) dX3_swapSides_15 (by decide) (by omega) (fun h15 => ?_) (fun h15 => ?_)
      · rw [pswp_n w p j h15]
        refine wm_iinc hC (pc := 33) dX3_swapSides_33 rfl rfl (by decide) rfl ?_
        refine wm_goto hC 2 (pc := 36) dX3_swapSides_36 (by decide) ?_
        first | (rw [pswp_k w p j _ e]; exact ih _ (by omega) (j + 1) _ rfl (by omega)) | exact ih _ (by omega) (j + 1) _ rfl (by omega)
      · refine wm_aload_n hC 0 (pc := 18) dX3_swapSides_18 rfl rfl ?_
        refine wm_iload_n hC 1 (pc := 19) dX3_swapSides_19 rfl rfl ?_
        refine wm_iload_n hC 2 (pc := 20) dX3_swapSides_20 rfl rfl ?_
        refine wm_iconst hC (pc := 21) dX3_swapSides_21 ?_
        refine wm_icmp_ne hC 29 (pc := 22) dX3_swapSides_22 (by decide) (by omega) (by omega) (fun h22 => ?_) (fun h22 => ?_)
        · have e : (1 : Int) = swp (w (p + 1) ((j : Int) * 7)) := by unfold swp; rw [if_neg (by omega), if_neg (by omega)]
          refine wm_iconst hC (pc := 29) dX3_swapSides_29 ?_
          refine wm_vV hC cv_X3_18 kc_X3_setKind hp.1 rfl (s_X3_setKind hp (by omega)) rfl (by decide) rfl (Nat.le_of_ble_eq_true rfl) (pc := 30) dX3_swapSides_30 (fun w30 hw30 => ?_)
          subst hw30
          refine wm_iinc hC (pc := 33) dX3_swapSides_33 rfl rfl (by decide) rfl ?_
          refine wm_goto hC 2 (pc := 36) dX3_swapSides_36 (by decide) ?_
          first | (rw [pswp_k w p j _ e]; exact ih _ (by omega) (j + 1) _ rfl (by omega)) | exact ih _ (by omega) (j + 1) _ rfl (by omega)
        · have e : (2 : Int) = swp (w (p + 1) ((j : Int) * 7)) := by unfold swp; rw [if_neg (by omega), if_pos (by omega)]
          refine wm_iconst hC (pc := 25) dX3_swapSides_25 ?_
          refine wm_goto hC 30 (pc := 26) dX3_swapSides_26 (by decide) ?_
          refine wm_vV hC cv_X3_18 kc_X3_setKind hp.1 rfl (s_X3_setKind hp (by omega)) rfl (by decide) rfl (Nat.le_of_ble_eq_true rfl) (pc := 30) dX3_swapSides_30 (fun w30 hw30 => ?_)
          subst hw30
          refine wm_iinc hC (pc := 33) dX3_swapSides_33 rfl rfl (by decide) rfl ?_
          refine wm_goto hC 2 (pc := 36) dX3_swapSides_36 (by decide) ?_
          first | (rw [pswp_k w p j _ e]; exact ih _ (by omega) (j + 1) _ rfl (by omega)) | exact ih _ (by omega) (j + 1) _ rfl (by omega)
  have hh := lp2 _ 0 none rfl (by omega)
  rw [show (((0 : Nat) : Int) * 7) = 0 from rfl, pswp_0] at hh
  exact hh
set_option maxRecDepth 100000 in
set_option maxHeartbeats 4000000 in
theorem s_X3_statesBehind {l : Launch} {G : mG} {w : mW} {p : Nat} (hp : PlanIx p) {s : Nat} (hs : s < 8) (hk : PlanOK w p) : Mx l G 2 yX3_statesBehind cX3_statesBehind 5 (some .int) [mvR p, mvI (s : Int)] w (qP (mvI ((sbOf w p s : Nat) : Int)) w) := by
  refine Mx.intro (by decide) RX3 rfl [some (mvR p), some (mvI (s : Int)), none, none, none] (Nat.le_of_ble_eq_true rfl) rfl (fun K hC => ?_)
  refine wm_iconst hC (pc := 0) dX3_statesBehind_0 ?_
  refine wm_istore_n hC 2 (pc := 1) dX3_statesBehind_1 rfl (by decide) rfl ?_
  refine wm_iconst hC (pc := 2) dX3_statesBehind_2 ?_
  refine wm_istore_n hC 3 (pc := 3) dX3_statesBehind_3 rfl (by decide) rfl ?_
  have lp4 : ∀ (n : Nat) (j : Nat) (o : Option mV) (ho : mok [some (mvR p), some (mvI (s : Int)), none, none, o] 4 = true), n = 6 - j → j ≤ 6 → Wm l G K 2 5 (qP (mvI ((sbOf w p s : Nat) : Int)) w) 4 [some (mvR p), some (mvI (s : Int)), some (mvI ((wor (sbF w p s) j : Nat) : Int)), some (mvI (j : Int)), o] [] w := by
    intro n
    induction n using Nat.strongRecOn with
    | _ n ih =>
    intro j o ho hn hj
    refine wm_iload_n hC 3 (pc := 4) dX3_statesBehind_4 rfl rfl ?_
    refine wm_bipush hC (pc := 5) dX3_statesBehind_5 (by decide) ?_
    refine wm_icmp_ge hC 45 (pc := 7) dX3_statesBehind_7 (by decide) (by omega) (by omega) (fun h7 => ?_) (fun h7 => ?_)
    · refine wm_iload_n hC 2 (pc := 45) dX3_statesBehind_45 rfl rfl ?_
      refine wm_iretP hC (pc := 46) dX3_statesBehind_46 ?_ rfl
      have : j = 6 := by omega
      rw [this]
      simp [sbOf, hs]
    · refine wm_aload_n hC 0 (pc := 10) dX3_statesBehind_10 rfl rfl ?_
      refine wm_iload_n hC 1 (pc := 11) dX3_statesBehind_11 rfl rfl ?_
      refine wm_iload_n hC 3 (pc := 12) dX3_statesBehind_12 rfl rfl ?_
      refine wm_pV hC cv_X3_33 kc_X3_targetOf hp.1 rfl (s_X3_targetOf hp (by omega) (by omega)) rfl (by decide) rfl (Nat.le_of_ble_eq_true rfl) (pc := 13) dX3_statesBehind_13 ?_
      refine wm_istore hC  (pc := 16) dX3_statesBehind_16  (by decide) rfl ?_
      have hb := (hk s (by omega) (by omega)).2 j (by omega) (by omega)
      refine wm_iload hC  (pc := 18) dX3_statesBehind_18 rfl ?_
      refine wm_iconst hC (pc := 20) dX3_statesBehind_20 ?_
      refine wm_icmp_eq hC 39 (pc := 21) dX3_statesBehind_21 (by decide) (by omega) (by omega) (fun h21 => ?_) (fun h21 => ?_)
      · have e : wor (sbF w p s) (j + 1) = wor (sbF w p s) j := by simp [wor, sbF, h21]
        refine wm_iinc hC (pc := 39) dX3_statesBehind_39 rfl rfl (by decide) rfl ?_
        refine wm_goto hC 4 (pc := 42) dX3_statesBehind_42 (by decide) ?_
        have hh := ih _ (by omega) (j + 1) (some (mvI (w (p + 1) ((s : Int) * 7 + 1 + (j : Int))))) rfl rfl (by omega)
        rw [e] at hh
        exact hh
      · refine wm_aload_n hC 0 (pc := 24) dX3_statesBehind_24 rfl rfl ?_
        refine wm_iload_n hC 1 (pc := 25) dX3_statesBehind_25 rfl rfl ?_
        refine wm_pV hC cv_X3_46 kc_X3_kindOf hp.1 rfl (s_X3_kindOf hp (by omega)) rfl (by decide) rfl (Nat.le_of_ble_eq_true rfl) (pc := 26) dX3_statesBehind_26 ?_
        have hb0 := (hk s (by omega) (by omega)).1
        refine wm_if_eq hC 39 (pc := 29) dX3_statesBehind_29 (by decide) (by omega) (fun h29 => ?_) (fun h29 => ?_)
        · have e : wor (sbF w p s) (j + 1) = wor (sbF w p s) j := by simp [wor, sbF, h29]
          refine wm_iinc hC (pc := 39) dX3_statesBehind_39 rfl rfl (by decide) rfl ?_
          refine wm_goto hC 4 (pc := 42) dX3_statesBehind_42 (by decide) ?_
          have hh := ih _ (by omega) (j + 1) (some (mvI (w (p + 1) ((s : Int) * 7 + 1 + (j : Int))))) rfl rfl (by omega)
          rw [e] at hh
          exact hh
        · have e : wor (sbF w p s) (j + 1) = wor (sbF w p s) j ||| 2 ^ (w (p + 1) ((s : Int) * 7 + 1 + (j : Int))).toNat := by simp [wor, sbF, h29, h21]
          refine wm_iload_n hC 2 (pc := 32) dX3_statesBehind_32 rfl rfl ?_
          refine wm_iconst hC (pc := 33) dX3_statesBehind_33 ?_
          refine wm_iload hC  (pc := 34) dX3_statesBehind_34 rfl ?_
          have ep : w (p + 1) ((s : Int) * 7 + 1 + (j : Int)) = (((w (p + 1) ((s : Int) * 7 + 1 + (j : Int))).toNat : Nat) : Int) := by omega
          refine wm_ishl1 hC _ (pc := 36) dX3_statesBehind_36 ep (by omega) ?_
          refine wm_ior hC _ _ (pc := 37) dX3_statesBehind_37 rfl rfl ?_
          refine wm_istore_n hC 2 (pc := 38) dX3_statesBehind_38 rfl (by decide) rfl ?_
          refine wm_iinc hC (pc := 39) dX3_statesBehind_39 rfl rfl (by decide) rfl ?_
          refine wm_goto hC 4 (pc := 42) dX3_statesBehind_42 (by decide) ?_
          have hh := ih _ (by omega) (j + 1) (some (mvI (w (p + 1) ((s : Int) * 7 + 1 + (j : Int))))) rfl rfl (by omega)
          rw [e] at hh
          exact hh
  exact lp4 _ 0 none rfl rfl (by omega)
set_option maxRecDepth 100000 in
set_option maxHeartbeats 4000000 in
theorem s_X3_comesTo {l : Launch} {G : mG} {w : mW} {p : Nat} (hp : PlanIx p) {s : Nat} (hs : s < 8) (hk : PlanOK w p) : Mx l G 3 yX3_comesTo cX3_comesTo 5 (some .int) [mvR p, mvI (s : Int)] w (qP (mvI ((comesF w p s : Nat) : Int)) w) := by
  refine Mx.intro (by decide) RX3 rfl [some (mvR p), some (mvI (s : Int)), none, none, none] (Nat.le_of_ble_eq_true rfl) rfl (fun K hC => ?_)
  refine wm_iload_n hC 1 (pc := 0) dX3_comesTo_0 rfl rfl ?_
  refine wm_pN hC cn_X3_26 kc_X8_isState (s_X8_isState (by omega)) rfl (by decide) rfl (Nat.le_of_ble_eq_true rfl) (pc := 1) dX3_comesTo_1 ?_
  refine wm_ifd_eq hC 13 (pc := 4) dX3_comesTo_4 (by decide) (fun h4 => ?_) (fun h4 => ?_)
  · omega
  · refine wm_iconst hC (pc := 7) dX3_comesTo_7 ?_
    refine wm_iload_n hC 1 (pc := 8) dX3_comesTo_8 rfl rfl ?_
    refine wm_ishl1 hC s (pc := 9) dX3_comesTo_9 rfl (by omega) ?_
    refine wm_goto hC 14 (pc := 10) dX3_comesTo_10 (by decide) ?_
    refine wm_istore_n hC 2 (pc := 14) dX3_comesTo_14 rfl (by decide) rfl ?_
    refine wm_iconst hC (pc := 15) dX3_comesTo_15 ?_
    refine wm_istore_n hC 3 (pc := 16) dX3_comesTo_16 rfl (by decide) rfl ?_
    have lp17 : ∀ (n : Nat) (r : Nat) (o : Option mV), n = 7 - r → r ≤ 7 → Wm l G K 3 5 (qP (mvI ((comesF w p s : Nat) : Int)) w) 17 [some (mvR p), some (mvI (s : Int)), some (mvI ((rout (sbOf w p) (2 ^ s) r : Nat) : Int)), some (mvI ((r + 1 : Nat) : Int)), o] [] w := by
      intro n
      induction n using Nat.strongRecOn with
      | _ n ih =>
      intro r o hn hr
      refine wm_iload_n hC 3 (pc := 17) dX3_comesTo_17 rfl rfl ?_
      refine wm_bipush hC (pc := 18) dX3_comesTo_18 (by decide) ?_
      refine wm_icmp_ge hC 63 (pc := 20) dX3_comesTo_20 (by decide) (by omega) (by omega) (fun h20 => ?_) (fun h20 => ?_)
      · refine wm_iload_n hC 2 (pc := 63) dX3_comesTo_63 rfl rfl ?_
        refine wm_iretP hC (pc := 64) dX3_comesTo_64 ?_ rfl
        have : r = 7 := by omega
        rw [this]
        rfl
      · refine wm_iconst hC (pc := 23) dX3_comesTo_23 ?_
        refine wm_istore hC  (pc := 24) dX3_comesTo_24  (by decide) rfl ?_
        have lp26 : ∀ (n : Nat) (f : Nat), n = 8 - f → f ≤ 8 → Wm l G K 3 5 (qP (mvI ((comesF w p s : Nat) : Int)) w) 26 [some (mvR p), some (mvI (s : Int)), some (mvI ((rin (sbOf w p) (rout (sbOf w p) (2 ^ s) r) f : Nat) : Int)), some (mvI ((r + 1 : Nat) : Int)), some (mvI (f : Int))] [] w := by
          intro n
          induction n using Nat.strongRecOn with
          | _ n ih =>
          intro f hm hf
          rename_i n0 ih0
          refine wm_iload hC  (pc := 26) dX3_comesTo_26 rfl ?_
          refine wm_bipush hC (pc := 28) dX3_comesTo_28 (by decide) ?_
          refine wm_icmp_ge hC 57 (pc := 30) dX3_comesTo_30 (by decide) (by omega) (by omega) (fun h30 => ?_) (fun h30 => ?_)
          · refine wm_iinc hC (pc := 57) dX3_comesTo_57 rfl rfl (by decide) rfl ?_
            refine wm_goto hC 17 (pc := 60) dX3_comesTo_60 (by decide) ?_
            obtain rfl : f = 8 := by omega
            exact ih0 _ (by omega) (r + 1) _ rfl (by omega)
          · refine wm_iload_n hC 2 (pc := 33) dX3_comesTo_33 rfl rfl ?_
            refine wm_iload hC  (pc := 34) dX3_comesTo_34 rfl ?_
            refine wm_pN hC cn_X3_49 kc_X8_holds (s_X8_holds (by have := rin_lt _ (sbOf_lt hk) _ (rout_lt _ (sbOf_lt hk) (2 ^ s) (Nat.pow_lt_pow_right (by decide) hs) r) f; omega) (by omega)) rfl (by decide) rfl (Nat.le_of_ble_eq_true rfl) (pc := 36) dX3_comesTo_36 ?_
            refine wm_ifb_eq hC 51 (pc := 39) dX3_comesTo_39 (by decide) (fun h39 => ?_) (fun h39 => ?_)
            · have e : rin (sbOf w p) (rout (sbOf w p) (2 ^ s) r) (f + 1) = rin (sbOf w p) (rout (sbOf w p) (2 ^ s) r) f := by simp [rin, h39]
              refine wm_iinc hC (pc := 51) dX3_comesTo_51 rfl rfl (by decide) rfl ?_
              refine wm_goto hC 26 (pc := 54) dX3_comesTo_54 (by decide) ?_
              have hh := ih _ (by omega) (f + 1) rfl (by omega)
              rw [e] at hh
              exact hh
            · have e : rin (sbOf w p) (rout (sbOf w p) (2 ^ s) r) (f + 1) = rin (sbOf w p) (rout (sbOf w p) (2 ^ s) r) f ||| sbOf w p f := by simp [rin, h39]
              refine wm_iload_n hC 2 (pc := 42) dX3_comesTo_42 rfl rfl ?_
              refine wm_aload_n hC 0 (pc := 43) dX3_comesTo_43 rfl rfl ?_
              refine wm_iload hC  (pc := 44) dX3_comesTo_44 rfl ?_
              refine wm_pV hC cv_X3_53 kc_X3_statesBehind hp.1 rfl (s_X3_statesBehind hp (by omega) hk) rfl (by decide) rfl (Nat.le_of_ble_eq_true rfl) (pc := 46) dX3_comesTo_46 ?_
              refine wm_ior hC _ _ (pc := 49) dX3_comesTo_49 rfl rfl ?_
              refine wm_istore_n hC 2 (pc := 50) dX3_comesTo_50 rfl (by decide) rfl ?_
              refine wm_iinc hC (pc := 51) dX3_comesTo_51 rfl rfl (by decide) rfl ?_
              refine wm_goto hC 26 (pc := 54) dX3_comesTo_54 (by decide) ?_
              have hh := ih _ (by omega) (f + 1) rfl (by omega)
              rw [e] at hh
              exact hh
        exact lp26 _ 0 rfl (by omega)
    exact lp17 _ 0 none rfl (by omega)
set_option maxRecDepth 100000 in
set_option maxHeartbeats 4000000 in
theorem s_X3_take {l : Launch} {G : mG} {w : mW} {p : Nat} (hp : PlanIx p) {q : Nat} (hq : PlanIx q) : Mx l G 1 yX3_take cX3_take 2 none [mvR p, mvR q] w (qV (fun w' => w' = mcopy w (q + 1) (p + 1) 0 0 56)) := by
  refine Mx.intro (by decide) RX3 rfl [some (mvR p), some (mvR q)] (Nat.le_of_ble_eq_true rfl) rfl (fun K hC => ?_)
  refine wm_aload_n hC 1 (pc := 0) dX3_take_0 rfl rfl ?_
  refine wm_getR hC fl_X3_11_2 hq.1 rfl (pc := 1) dX3_take_1 ?_
  refine wm_iconst hC (pc := 4) dX3_take_4 ?_
  refine wm_aload_n hC 0 (pc := 5) dX3_take_5 rfl rfl ?_
  refine wm_getR hC fl_X3_11_2 hp.1 rfl (pc := 6) dX3_take_6 ?_
  refine wm_iconst hC (pc := 9) dX3_take_9 ?_
  refine wm_bipush hC (pc := 10) dX3_take_10 (by decide) ?_
  refine wm_copy hC ac_X3_56 ac_nat ac_stat ac_ini hq.2 hp.2 (by omega) (by decide) (Nat.le_of_ble_eq_true rfl) (pc := 12) dX3_take_12 ?_
  refine wm_retV hC (pc := 15) dX3_take_15 ?_
  rfl
set_option maxRecDepth 100000 in
set_option maxHeartbeats 4000000 in
theorem s_X3_saveTo {l : Launch} {G : mG} {w : mW} {p : Nat} (hp : PlanIx p) {a n : Nat} {f : Int} (ha : mlays[a]? = some (.inr (0, n))) (hn : n ≤ 1000000) (hf : 0 ≤ f ∧ f + 56 ≤ n) : Mx l G 1 yX3_saveTo cX3_saveTo 3 none [mvR p, mvR a, mvI f] w (qV (fun w' => w' = mcopy w (p + 1) a 0 f 56)) := by
  refine Mx.intro (by decide) RX3 rfl [some (mvR p), some (mvR a), some (mvI f)] (Nat.le_of_ble_eq_true rfl) rfl (fun K hC => ?_)
  refine wm_iload_n hC 2 (pc := 0) dX3_saveTo_0 rfl rfl ?_
  refine wm_if_lt hC 25 (pc := 1) dX3_saveTo_1 (by decide) (by omega) (fun h1 => ?_) (fun h1 => ?_)
  · omega
  · refine wm_iload_n hC 2 (pc := 4) dX3_saveTo_4 rfl rfl ?_
    refine wm_aload_n hC 1 (pc := 5) dX3_saveTo_5 rfl rfl ?_
    refine wm_alen hC (n : Int) ha rfl rfl (pc := 6) dX3_saveTo_6 ?_
    refine wm_bipush hC (pc := 7) dX3_saveTo_7 (by decide) ?_
    refine wm_isub hC (pc := 9) dX3_saveTo_9 ?_
    refine wm_icmp_gt hC 25 (pc := 10) dX3_saveTo_10 (by decide) (by omega) (by omega) (fun h10 => ?_) (fun h10 => ?_)
    · omega
    · refine wm_aload_n hC 0 (pc := 13) dX3_saveTo_13 rfl rfl ?_
      refine wm_getR hC fl_X3_11_2 hp.1 rfl (pc := 14) dX3_saveTo_14 ?_
      refine wm_iconst hC (pc := 17) dX3_saveTo_17 ?_
      refine wm_aload_n hC 1 (pc := 18) dX3_saveTo_18 rfl rfl ?_
      refine wm_iload_n hC 2 (pc := 19) dX3_saveTo_19 rfl rfl ?_
      refine wm_bipush hC (pc := 20) dX3_saveTo_20 (by decide) ?_
      refine wm_copy hC ac_X3_56 ac_nat ac_stat ac_ini hp.2 ha (by omega) (by decide) (Nat.le_of_ble_eq_true rfl) (pc := 22) dX3_saveTo_22 ?_
      refine wm_retV hC (pc := 25) dX3_saveTo_25 ?_
      rfl
set_option maxRecDepth 100000 in
set_option maxHeartbeats 4000000 in
theorem s_X3_loadFrom {l : Launch} {G : mG} {w : mW} {p : Nat} (hp : PlanIx p) {a n : Nat} {f : Int} (ha : mlays[a]? = some (.inr (0, n))) (hn : n ≤ 1000000) (hf : 0 ≤ f ∧ f + 56 ≤ n) : Mx l G 1 yX3_loadFrom cX3_loadFrom 3 none [mvR p, mvR a, mvI f] w (qV (fun w' => w' = mcopy w a (p + 1) f 0 56)) := by
  refine Mx.intro (by decide) RX3 rfl [some (mvR p), some (mvR a), some (mvI f)] (Nat.le_of_ble_eq_true rfl) rfl (fun K hC => ?_)
  refine wm_iload_n hC 2 (pc := 0) dX3_loadFrom_0 rfl rfl ?_
  refine wm_if_lt hC 25 (pc := 1) dX3_loadFrom_1 (by decide) (by omega) (fun h1 => ?_) (fun h1 => ?_)
  · omega
  · refine wm_iload_n hC 2 (pc := 4) dX3_loadFrom_4 rfl rfl ?_
    refine wm_aload_n hC 1 (pc := 5) dX3_loadFrom_5 rfl rfl ?_
    refine wm_alen hC (n : Int) ha rfl rfl (pc := 6) dX3_loadFrom_6 ?_
    refine wm_bipush hC (pc := 7) dX3_loadFrom_7 (by decide) ?_
    refine wm_isub hC (pc := 9) dX3_loadFrom_9 ?_
    refine wm_icmp_gt hC 25 (pc := 10) dX3_loadFrom_10 (by decide) (by omega) (by omega) (fun h10 => ?_) (fun h10 => ?_)
    · omega
    · refine wm_aload_n hC 1 (pc := 13) dX3_loadFrom_13 rfl rfl ?_
      refine wm_iload_n hC 2 (pc := 14) dX3_loadFrom_14 rfl rfl ?_
      refine wm_aload_n hC 0 (pc := 15) dX3_loadFrom_15 rfl rfl ?_
      refine wm_getR hC fl_X3_11_2 hp.1 rfl (pc := 16) dX3_loadFrom_16 ?_
      refine wm_iconst hC (pc := 19) dX3_loadFrom_19 ?_
      refine wm_bipush hC (pc := 20) dX3_loadFrom_20 (by decide) ?_
      refine wm_copy hC ac_X3_56 ac_nat ac_stat ac_ini ha hp.2 (by omega) (by decide) (Nat.le_of_ble_eq_true rfl) (pc := 22) dX3_loadFrom_22 ?_
      refine wm_retV hC (pc := 25) dX3_loadFrom_25 ?_
      rfl
