/-! talks and standing in, as the class answers -/
theorem rsnB_congr {rs : Int → Nat → Int → Nat → Int} {w u : mW} {p q : Nat} {B : Bf} (hp : u (p + 1) = w (p + 1)) (hq : u (q + 1) = w (q + 1)) (i : Int) : rsnB rs u p q B i = rsnB rs w p q B i := by simp only [rsnB, kdF, msk, show hasW u p = hasW w p from by funext s k; simp only [hasW, hp], show hasW u q = hasW w q from by funext s k; simp only [hasW, hq], hp, hq]
theorem hasW_congr {w u : mW} {p : Nat} (hp : u (p + 1) = w (p + 1)) : hasW u p = hasW w p := by funext s k; simp only [hasW, hp]
theorem lckB_congr {tog : Int → Int → Bool} {w u : mW} {p q : Nat} {B : Bf} (hp : u (p + 1) = w (p + 1)) (hq : u (q + 1) = w (q + 1)) (i : Int) : lckB tog u p q B i = lckB tog w p q B i := by
  unfold lckB kdF msk; rw [hasW_congr hp, hasW_congr hq, hp, hq]
theorem tellF_congr {tog : Int → Int → Bool} {rs : Int → Nat → Int → Nat → Int} {w u : mW} {p q : Nat} {B : Bf} (hp : u (p + 1) = w (p + 1)) (hq : u (q + 1) = w (q + 1)) (i c : Int) : tellF tog rs u p q B i c = tellF tog rs w p q B i c := by simp only [tellF, rsnB_congr hp hq, lckB_congr hp hq]
theorem faultB_congr {rs : Int → Nat → Int → Nat → Int} {w u : mW} {p q : Nat} {B : Bf} (hp : u (p + 1) = w (p + 1)) (hq : u (q + 1) = w (q + 1)) : faultB rs u p q B = faultB rs w p q B := by simp only [faultB, rsnB_congr hp hq]
theorem fewB_congr {w u : mW} {p q : Nat} {B : Bf} (hp : u (p + 1) = w (p + 1)) (hq : u (q + 1) = w (q + 1)) : fewB u p q B = fewB w p q B := by simp only [fewB, endB_congr hp hq]
theorem faultB_rng (rs : Int → Nat → Int → Nat → Int) (w : mW) (p q : Nat) {B : Bf} (hB : BInv B) : -1 ≤ faultB rs w p q B ∧ faultB rs w p q B < bN B := by
  unfold faultB
  rcases ffst_rng (fun i => decide (¬ rsnB rs w p q B i = 0)) (bN B) 0 with h | h <;> omega
theorem fewB_rng (w : mW) (p q : Nat) {B : Bf} (hB : BInv B) : -1 ≤ fewB w p q B ∧ fewB w p q B < 64 := by
  have hle := hB.le
  unfold fewB
  rcases ffst_rng (fun i => endB w p q B i) (bN B) 0 with h | h
  · rw [if_pos h]; omega
  · rw [if_neg (by omega)]
    have := (hB.2.2.1 (ffst (fun i => endB w p q B i) (bN B) 0) (by omega) (by omega)).2.2.1
    omega
theorem walkI_pst {w u : mW} {b c1 c2 c3 c4 c5 p q : Nat} {tog : Int → Int → Bool} (h : walkI w u b c1 c2 c3 c4 c5 p q (bfs (nxF tog w p q))) (hp : PlanIx p) (hq : PlanIx q) (hpb : p + 1 < b) (hqb : q + 1 < b) (hkp : PlanOK w p) (hkq : PlanOK w q) : PSt u b c1 c2 c3 c4 c5 p q (bfs (nxF tog w p q)) :=
  ⟨hp, hq, hkp.congr (h.1 _ (Or.inl hpb)), hkq.congr (h.1 _ (Or.inl hqb)), h.2.1, h.2.2.1, h.2.2.2, bfs_inv (nxF_ok hkp hkq)⟩
abbrev bT (w : mW) (p q : Nat) : Bf := bfs (nxF togT w p q)
abbrev bSt (w : mW) (p q : Nat) : Bf := bfs (nxF togS w p q)
def askF (tog : Int → Int → Bool) (rs : Int → Nat → Int → Nat → Int) (w : mW) (p q : Nat) (B : Bf) (i c : Int) : Int :=
  if 0 ≤ i ∧ i < bN B then tellF tog rs w p q B i c else -1000004
def pairB (w : mW) (p q : Nat) (B : Bf) (i c : Int) : Int := if 0 ≤ i ∧ i < bN B then (if c = 0 then bP B i / 8 else if c = 1 then bP B i % 8 else if c = 2 then bL B i else tellF togT rsnT w p q B i c) else -1000004
def againB (w : mW) (p q : Nat) (B : Bf) (i c : Int) : Int := if 0 ≤ i ∧ i < bN B then (if c = 0 then bL B i else if c = 1 then bP B i / 8 else if c = 2 then bP B i % 8 else tellF togS rsnS w p q B i c) else -1000004
theorem pairB_n {w : mW} {p q : Nat} {B : Bf} {i c : Int} (h : ¬ (0 ≤ i ∧ i < bN B)) : pairB w p q B i c = -1000004 := by unfold pairB; rw [if_neg h]
theorem pairB_0 {w : mW} {p q : Nat} {B : Bf} {i c : Int} (h : 0 ≤ i ∧ i < bN B) (h0 : c = 0) : pairB w p q B i c = bP B i / 8 := by unfold pairB; rw [if_pos h, if_pos h0]
theorem pairB_1 {w : mW} {p q : Nat} {B : Bf} {i c : Int} (h : 0 ≤ i ∧ i < bN B) (h0 : ¬ c = 0) (h1 : c = 1) : pairB w p q B i c = bP B i % 8 := by unfold pairB; rw [if_pos h, if_neg h0, if_pos h1]
theorem pairB_2 {w : mW} {p q : Nat} {B : Bf} {i c : Int} (h : 0 ≤ i ∧ i < bN B) (h0 : ¬ c = 0) (h1 : ¬ c = 1) (h2 : c = 2) : pairB w p q B i c = bL B i := by unfold pairB; rw [if_pos h, if_neg h0, if_neg h1, if_pos h2]
theorem pairB_3 {w : mW} {p q : Nat} {B : Bf} {i c : Int} (h : 0 ≤ i ∧ i < bN B) (h0 : ¬ c = 0) (h1 : ¬ c = 1) (h2 : ¬ c = 2) : pairB w p q B i c = tellF togT rsnT w p q B i c := by unfold pairB; rw [if_pos h, if_neg h0, if_neg h1, if_neg h2]
theorem againB_n {w : mW} {p q : Nat} {B : Bf} {i c : Int} (h : ¬ (0 ≤ i ∧ i < bN B)) : againB w p q B i c = -1000004 := by unfold againB; rw [if_neg h]
theorem againB_0 {w : mW} {p q : Nat} {B : Bf} {i c : Int} (h : 0 ≤ i ∧ i < bN B) (h0 : c = 0) : againB w p q B i c = bL B i := by unfold againB; rw [if_pos h, if_pos h0]
theorem againB_1 {w : mW} {p q : Nat} {B : Bf} {i c : Int} (h : 0 ≤ i ∧ i < bN B) (h0 : ¬ c = 0) (h1 : c = 1) : againB w p q B i c = bP B i / 8 := by unfold againB; rw [if_pos h, if_neg h0, if_pos h1]
theorem againB_2 {w : mW} {p q : Nat} {B : Bf} {i c : Int} (h : 0 ≤ i ∧ i < bN B) (h0 : ¬ c = 0) (h1 : ¬ c = 1) (h2 : c = 2) : againB w p q B i c = bP B i % 8 := by unfold againB; rw [if_pos h, if_neg h0, if_neg h1, if_pos h2]
theorem againB_3 {w : mW} {p q : Nat} {B : Bf} {i c : Int} (h : 0 ≤ i ∧ i < bN B) (h0 : ¬ c = 0) (h1 : ¬ c = 1) (h2 : ¬ c = 2) : againB w p q B i c = tellF togS rsnS w p q B i c := by unfold againB; rw [if_pos h, if_neg h0, if_neg h1, if_neg h2]
def krT (w u : mW) (p q : Nat) : Int := krF (posF togT w p q (bT w p q)) (endB w p q (bT w p q)) u (bN (bT w p q))
def talkF (w u : mW) (p q : Nat) (c : Int) : Int :=
  if c = 0 then (bN (bT w p q) : Int) else if c = 1 then ((cnt (fun i => decide (¬ rsnB rsnT w p q (bT w p q) i = 0)) (bN (bT w p q)) : Nat) : Int) else if c = 2 then ((cnt (fun i => endB w p q (bT w p q) i) (bN (bT w p q)) : Nat) : Int)
  else if c = 3 then (if krT w u p q = -1 then 1 else 0) else if c = 4 then (if fewB w p q (bT w p q) = -1 then -1000004 else fewB w p q (bT w p q))
  else if c = 5 then ((wor (fun i : Nat => 2 ^ (bP (bT w p q) i / 8).toNat) (bN (bT w p q)) : Nat) : Int) else ((wor (fun i : Nat => 2 ^ (bP (bT w p q) i % 8).toNat) (bN (bT w p q)) : Nat) : Int)
def talksF (r : Int) : Int := if r = -1 then -1000002 else if 1000000000000000 < r then -1000003 else r
def standF (w : mW) (p q : Nat) : Int := if faultB rsnS w p q (bSt w p q) = -1 then 1 else 0
theorem krT_congr {w u v : mW} {p q : Nat} (hp : u (p + 1) = w (p + 1)) (hq : u (q + 1) = w (q + 1)) : krF (posF togT u p q (bT w p q)) (endB u p q (bT w p q)) v (bN (bT w p q)) = krT w v p q := by
  unfold krT
  rw [show posF togT u p q (bT w p q) = posF togT w p q (bT w p q) from by funext i k; exact posF_congr hp hq i k, show endB u p q (bT w p q) = endB w p q (bT w p q) from by funext i; exact endB_congr hp hq i]
theorem krF_rng {sx : Int → Int → Int} {en : Int → Bool} {w : mW} {n : Nat} (hs : SxOK sx n) (hn : 1 ≤ n ∧ n ≤ 64) : -1 ≤ krF sx en w n ∧ krF sx en w n ≤ CAP := by
  have h := (kout_KI (w := w) (en := en) hs hn 64 (Nat.le_refl 64)).2
  unfold krF; split
  · unfold CAP; omega
  · omega
set_option maxRecDepth 100000 in
set_option maxHeartbeats 400000 in
theorem s_X8_pairOf {l : Launch} {G : mG} {w : mW} {a b c e : Int} (hI : CInv w) (ha : -2147483648 ≤ a ∧ a < 2147483648) (hb : -2147483648 ≤ b ∧ b < 2147483648) (hc : -2147483648 ≤ c ∧ c < 2147483648) (he : -2147483648 ≤ e ∧ e < 2147483648) : Mx l G 5 yX8_pairOf cX8_pairOf 6 (some .int) [mvR 0, mvI a, mvI b, mvI c, mvI e] w (qI (fun z w' => (¬ (0 ≤ a ∧ a < 3 ∧ 0 ≤ b ∧ b < 3 ∧ -1 ≤ c ∧ ((0 ≤ e ∧ e ≤ 4) ∨ (10 ≤ e ∧ e < 74))) ∧ z = -1000001 ∧ w' = w) ∨ ((0 ≤ a ∧ a < 3 ∧ 0 ≤ b ∧ b < 3 ∧ -1 ≤ c ∧ ((0 ≤ e ∧ e ≤ 4) ∨ (10 ≤ e ∧ e < 74))) ∧ z = pairB w (2 * a.toNat + 1) (2 * b.toNat + 1) (bT w (2 * a.toNat + 1) (2 * b.toNat + 1)) (if c = -1 then faultB rsnT w (2 * a.toNat + 1) (2 * b.toNat + 1) (bT w (2 * a.toNat + 1) (2 * b.toNat + 1)) else c) e ∧ ∀ i : Nat, i < 15 ∨ 20 < i → w' i = w i))) := by
  refine Mx.intro (by decide) RX8 rfl [some (mvR 0), some (mvI a), some (mvI b), some (mvI c), some (mvI e), none] (Nat.le_of_ble_eq_true rfl) rfl (fun K hC => ?_)
  have j63 : ∀ (p q : Nat) (w44 : mW) (x : Int), p < 3 → q < 3 → a = (p : Int) → b = (q : Int) → (-1 ≤ c ∧ ((0 ≤ e ∧ e ≤ 4) ∨ (10 ≤ e ∧ e < 74))) → walkI w w44 15 16 17 18 19 20 (2 * p + 1) (2 * q + 1) (bT w (2 * p + 1) (2 * q + 1)) → x = (if c = -1 then faultB rsnT w (2 * p + 1) (2 * q + 1) (bT w (2 * p + 1) (2 * q + 1)) else c) → (-2147483648 ≤ x ∧ x < 2147483648) → Wm l G K 5 6 (qI (fun z w' => (¬ (0 ≤ a ∧ a < 3 ∧ 0 ≤ b ∧ b < 3 ∧ -1 ≤ c ∧ ((0 ≤ e ∧ e ≤ 4) ∨ (10 ≤ e ∧ e < 74))) ∧ z = -1000001 ∧ w' = w) ∨ ((0 ≤ a ∧ a < 3 ∧ 0 ≤ b ∧ b < 3 ∧ -1 ≤ c ∧ ((0 ≤ e ∧ e ≤ 4) ∨ (10 ≤ e ∧ e < 74))) ∧ z = pairB w (2 * a.toNat + 1) (2 * b.toNat + 1) (bT w (2 * a.toNat + 1) (2 * b.toNat + 1)) (if c = -1 then faultB rsnT w (2 * a.toNat + 1) (2 * b.toNat + 1) (bT w (2 * a.toNat + 1) (2 * b.toNat + 1)) else c) e ∧ ∀ i : Nat, i < 15 ∨ 20 < i → w' i = w i))) 63 [some (mvR 0), some (mvI a), some (mvI b), some (mvI c), some (mvI e), none] [mvI x] w44 := by
    intro p q w44 x hp hq hap hbq hce hw44 hx hxr
    subst hap
    subst hbq
    have hS := walkI_pst hw44 (planIxP hp) (planIxP hq) (by omega) (by omega) (hI.1 p hp) (hI.1 q hq)
    have e1 := hw44.1 (2 * p + 1 + 1) (Or.inl (by omega))
    have e2 := hw44.1 (2 * q + 1 + 1) (Or.inl (by omega))
    have hB := bfs_inv (nxF_ok (tog := togT) (hI.1 p hp) (hI.1 q hq))
    have hle := hB.le
    refine wm_istore hC  (pc := 63) dX8_pairOf_63  (by decide) rfl ?_
    refine wm_aload_n hC 0 (pc := 65) dX8_pairOf_65 rfl rfl ?_
    refine wm_getR hC fl_X8_48_7 rfl rfl (pc := 66) dX8_pairOf_66 ?_
    refine wm_iload hC  (pc := 69) dX8_pairOf_69 rfl ?_
    refine wm_pU hC cu_X8_148_X7 kc_X2_has rfl rfl (s_X2_has_X7 hS (by omega)) rfl (by decide) rfl (Nat.le_of_ble_eq_true rfl) (pc := 71) dX8_pairOf_71 ?_
    refine wm_ifd_ne hC 80 (pc := 74) dX8_pairOf_74 (by decide) (fun h74 => ?_) (fun h74 => ?_)
    · refine wm_iload hC  (pc := 80) dX8_pairOf_80 rfl ?_
      by_cases sw82_0 : e = 0
      · refine wm_tableIn hC 108 (0) (pc := 82) dX8_pairOf_82 sw82_0 (by decide) rfl (by decide) ?_
        refine wm_aload_n hC 0 (pc := 108) dX8_pairOf_108 rfl rfl ?_
        refine wm_getR hC fl_X8_48_7 rfl rfl (pc := 109) dX8_pairOf_109 ?_
        refine wm_iload hC  (pc := 112) dX8_pairOf_112 rfl ?_
        refine wm_pU hC cu_X8_152_X7 kc_X2_stateOfOne rfl rfl (s_X2_stateOfOne_X7 hS h74) rfl (by decide) rfl (Nat.le_of_ble_eq_true rfl) (pc := 114) dX8_pairOf_114 ?_
        refine wm_iretI hC (pc := 117) dX8_pairOf_117 ?_
        right
        refine ⟨by omega, ?_, hw44.1⟩
        rw [Int.toNat_natCast p, Int.toNat_natCast q, ← hx]
        exact (pairB_0 h74 sw82_0).symm
      by_cases sw82_1 : e = 1
      · refine wm_tableIn hC 118 (1) (pc := 82) dX8_pairOf_82 sw82_1 (by decide) rfl (by decide) ?_
        refine wm_aload_n hC 0 (pc := 118) dX8_pairOf_118 rfl rfl ?_
        refine wm_getR hC fl_X8_48_7 rfl rfl (pc := 119) dX8_pairOf_119 ?_
        refine wm_iload hC  (pc := 122) dX8_pairOf_122 rfl ?_
        refine wm_pU hC cu_X8_155_X7 kc_X2_stateOfOther rfl rfl (s_X2_stateOfOther_X7 hS h74) rfl (by decide) rfl (Nat.le_of_ble_eq_true rfl) (pc := 124) dX8_pairOf_124 ?_
        refine wm_iretI hC (pc := 127) dX8_pairOf_127 ?_
        right
        refine ⟨by omega, ?_, hw44.1⟩
        rw [Int.toNat_natCast p, Int.toNat_natCast q, ← hx]
        exact (pairB_1 h74 sw82_0 sw82_1).symm
      by_cases sw82_2 : e = 2
      · refine wm_tableIn hC 128 (2) (pc := 82) dX8_pairOf_82 sw82_2 (by decide) rfl (by decide) ?_
        refine wm_aload_n hC 0 (pc := 128) dX8_pairOf_128 rfl rfl ?_
        refine wm_getR hC fl_X8_48_7 rfl rfl (pc := 129) dX8_pairOf_129 ?_
        refine wm_iload hC  (pc := 132) dX8_pairOf_132 rfl ?_
        refine wm_pU hC cu_X8_158_X7 kc_X2_lengthOf rfl rfl (s_X2_lengthOf_X7 hS h74) rfl (by decide) rfl (Nat.le_of_ble_eq_true rfl) (pc := 134) dX8_pairOf_134 ?_
        refine wm_iretI hC (pc := 137) dX8_pairOf_137 ?_
        right
        refine ⟨by omega, ?_, hw44.1⟩
        rw [Int.toNat_natCast p, Int.toNat_natCast q, ← hx]
        exact (pairB_2 h74 sw82_0 sw82_1 sw82_2).symm
      refine wm_tableOut hC 138 (pc := 82) dX8_pairOf_82 (by decide) (by omega) (by omega) ?_
      refine wm_aload_n hC 0 (pc := 138) dX8_pairOf_138 rfl rfl ?_
      refine wm_getR hC fl_X8_48_7 rfl rfl (pc := 139) dX8_pairOf_139 ?_
      refine wm_iload hC  (pc := 142) dX8_pairOf_142 rfl ?_
      refine wm_iload hC  (pc := 144) dX8_pairOf_144 rfl ?_
      refine wm_pU hC cu_X8_161_X7 kc_X2_tellMore rfl rfl (s_X2_tellMore_X7 hS h74 (by omega)) rfl (by decide) rfl (Nat.le_of_ble_eq_true rfl) (pc := 146) dX8_pairOf_146 ?_
      refine wm_iretI hC (pc := 149) dX8_pairOf_149 ?_
      rw [tellF_congr e1 e2]
      right
      refine ⟨by omega, ?_, hw44.1⟩
      rw [Int.toNat_natCast p, Int.toNat_natCast q, ← hx]
      exact (pairB_3 h74 sw82_0 sw82_1 sw82_2).symm
    · refine wm_ldc hC (-1000004) kI_X8_151 (pc := 77) dX8_pairOf_77 ?_
      refine wm_iretI hC (pc := 79) dX8_pairOf_79 ?_
      right
      refine ⟨by omega, ?_, hw44.1⟩
      rw [Int.toNat_natCast p, Int.toNat_natCast q, ← hx]
      exact (pairB_n h74).symm
  refine wm_iload_n hC 1 (pc := 0) dX8_pairOf_0 rfl rfl ?_
  refine wm_pS hC cs_X8_66 kc_X8_isPlan (s_X8_isPlan (by omega)) rfl (by decide) rfl (Nat.le_of_ble_eq_true rfl) (pc := 1) dX8_pairOf_1 ?_
  refine wm_ifd_eq hC 27 (pc := 4) dX8_pairOf_4 (by decide) (fun h4 => ?_) (fun h4 => ?_)
  · refine wm_ldc hC (-1000001) kI_X8_76 (pc := 27) dX8_pairOf_27 ?_
    refine wm_iretI hC (pc := 29) dX8_pairOf_29 ?_
    left
    exact ⟨by omega, rfl, rfl⟩
  · refine wm_iload_n hC 2 (pc := 7) dX8_pairOf_7 rfl rfl ?_
    refine wm_pS hC cs_X8_66 kc_X8_isPlan (s_X8_isPlan (by omega)) rfl (by decide) rfl (Nat.le_of_ble_eq_true rfl) (pc := 8) dX8_pairOf_8 ?_
    refine wm_ifd_eq hC 27 (pc := 11) dX8_pairOf_11 (by decide) (fun h11 => ?_) (fun h11 => ?_)
    · refine wm_ldc hC (-1000001) kI_X8_76 (pc := 27) dX8_pairOf_27 ?_
      refine wm_iretI hC (pc := 29) dX8_pairOf_29 ?_
      left
      exact ⟨by omega, rfl, rfl⟩
    · refine wm_iload_n hC 3 (pc := 14) dX8_pairOf_14 rfl rfl ?_
      refine wm_iconst hC (pc := 15) dX8_pairOf_15 ?_
      refine wm_icmp_lt hC 27 (pc := 16) dX8_pairOf_16 (by decide) (by omega) (by omega) (fun h16 => ?_) (fun h16 => ?_)
      · refine wm_ldc hC (-1000001) kI_X8_76 (pc := 27) dX8_pairOf_27 ?_
        refine wm_iretI hC (pc := 29) dX8_pairOf_29 ?_
        left
        exact ⟨by omega, rfl, rfl⟩
      · refine wm_iload hC  (pc := 19) dX8_pairOf_19 rfl ?_
        refine wm_pS hC cs_X8_138 kc_X8_isPairQuestion (s_X8_isPairQuestion (by omega)) rfl (by decide) rfl (Nat.le_of_ble_eq_true rfl) (pc := 21) dX8_pairOf_21 ?_
        refine wm_ifd_ne hC 30 (pc := 24) dX8_pairOf_24 (by decide) (fun h24 => ?_) (fun h24 => ?_)
        · obtain ⟨p, rfl⟩ : ∃ p : Nat, a = (p : Int) := ⟨a.toNat, by omega⟩
          have hp : p < 3 := by omega
          obtain ⟨q, rfl⟩ : ∃ q : Nat, b = (q : Int) := ⟨b.toNat, by omega⟩
          have hq : q < 3 := by omega
          refine wm_aload_n hC 0 (pc := 30) dX8_pairOf_30 rfl rfl ?_
          refine wm_getR hC fl_X8_48_7 rfl rfl (pc := 31) dX8_pairOf_31 ?_
          refine wm_aload_n hC 0 (pc := 34) dX8_pairOf_34 rfl rfl ?_
          refine wm_iload_n hC 1 (pc := 35) dX8_pairOf_35 rfl rfl ?_
          refine wm_pV hC cv_X8_80 kc_X8_planAt rfl rfl (s_X8_planAt hp) rfl (by decide) rfl (Nat.le_of_ble_eq_true rfl) (pc := 36) dX8_pairOf_36 ?_
          refine wm_aload_n hC 0 (pc := 39) dX8_pairOf_39 rfl rfl ?_
          refine wm_iload_n hC 2 (pc := 40) dX8_pairOf_40 rfl rfl ?_
          refine wm_pV hC cv_X8_80 kc_X8_planAt rfl rfl (s_X8_planAt hq) rfl (by decide) rfl (Nat.le_of_ble_eq_true rfl) (pc := 41) dX8_pairOf_41 ?_
          refine wm_vU hC cu_X8_141_X7 kc_X2_walk rfl rfl (s_X2_walk_X7 (planIxP hp) (planIxP hq) (by omega) (by omega) (hI.1 p hp) (hI.1 q hq)) rfl (by decide) rfl (Nat.le_of_ble_eq_true rfl) (pc := 44) dX8_pairOf_44 (fun w44 hw44 => ?_)
          have hS := walkI_pst hw44 (planIxP hp) (planIxP hq) (by omega) (by omega) (hI.1 p hp) (hI.1 q hq)
          have e1 := hw44.1 (2 * p + 1 + 1) (Or.inl (by omega))
          have e2 := hw44.1 (2 * q + 1 + 1) (Or.inl (by omega))
          have hB := bfs_inv (nxF_ok (tog := togT) (hI.1 p hp) (hI.1 q hq))
          have hle := hB.le
          refine wm_iload_n hC 3 (pc := 47) dX8_pairOf_47 rfl rfl ?_
          refine wm_iconst hC (pc := 48) dX8_pairOf_48 ?_
          refine wm_icmp_ne hC 62 (pc := 49) dX8_pairOf_49 (by decide) (by omega) (by omega) (fun h49 => ?_) (fun h49 => ?_)
          · refine wm_iload_n hC 3 (pc := 62) dX8_pairOf_62 rfl rfl ?_
            first | exact j63 p q _ _ hp hq rfl rfl (by omega) hw44 (by rw [if_pos h49]) (by omega) | exact j63 p q _ _ hp hq rfl rfl (by omega) hw44 (by rw [if_neg h49]) (by omega)
          · refine wm_aload_n hC 0 (pc := 52) dX8_pairOf_52 rfl rfl ?_
            refine wm_getR hC fl_X8_48_7 rfl rfl (pc := 53) dX8_pairOf_53 ?_
            refine wm_pU hC cu_X8_145_X7 kc_X2_firstFaulty rfl rfl (s_X2_firstFaulty_X7 hS) rfl (by decide) rfl (Nat.le_of_ble_eq_true rfl) (pc := 56) dX8_pairOf_56 ?_
            rw [faultB_congr e1 e2]
            have hfr := faultB_rng rsnT w (2 * p + 1) (2 * q + 1) hB
            refine wm_goto hC 63 (pc := 59) dX8_pairOf_59 (by decide) ?_
            first | exact j63 p q _ _ hp hq rfl rfl (by omega) hw44 (by rw [if_pos h49]) (by omega) | exact j63 p q _ _ hp hq rfl rfl (by omega) hw44 (by rw [if_neg h49]) (by omega)
        · refine wm_ldc hC (-1000001) kI_X8_76 (pc := 27) dX8_pairOf_27 ?_
          refine wm_iretI hC (pc := 29) dX8_pairOf_29 ?_
          left
          exact ⟨by omega, rfl, rfl⟩
set_option maxRecDepth 100000 in
set_option maxHeartbeats 400000 in
theorem s_X8_talk {l : Launch} {G : mG} {w : mW} {a b c : Int} (hI : CInv w) (ha : -2147483648 ≤ a ∧ a < 2147483648) (hb : -2147483648 ≤ b ∧ b < 2147483648) (hc : -2147483648 ≤ c ∧ c < 2147483648) : Mx l G 6 yX8_talk cX8_talk 4 (some .int) [mvR 0, mvI a, mvI b, mvI c] w (qI (fun z w' => (¬ (0 ≤ a ∧ a < 3 ∧ 0 ≤ b ∧ b < 3 ∧ 0 ≤ c ∧ c ≤ 6) ∧ z = -1000001 ∧ w' = w) ∨ ((0 ≤ a ∧ a < 3 ∧ 0 ≤ b ∧ b < 3 ∧ 0 ≤ c ∧ c ≤ 6) ∧ (∃ u : mW, z = talkF w u (2 * a.toNat + 1) (2 * b.toNat + 1) c) ∧ ∀ i : Nat, i < 15 ∨ 24 < i → w' i = w i))) := by
  refine Mx.intro (by decide) RX8 rfl [some (mvR 0), some (mvI a), some (mvI b), some (mvI c)] (Nat.le_of_ble_eq_true rfl) rfl (fun K hC => ?_)
  refine wm_iload_n hC 1 (pc := 0) dX8_talk_0 rfl rfl ?_
  refine wm_pS hC cs_X8_66 kc_X8_isPlan (s_X8_isPlan (by omega)) rfl (by decide) rfl (Nat.le_of_ble_eq_true rfl) (pc := 1) dX8_talk_1 ?_
  refine wm_ifd_eq hC 24 (pc := 4) dX8_talk_4 (by decide) (fun h4 => ?_) (fun h4 => ?_)
  · refine wm_ldc hC (-1000001) kI_X8_76 (pc := 24) dX8_talk_24 ?_
    refine wm_iretI hC (pc := 26) dX8_talk_26 ?_
    left
    exact ⟨by omega, rfl, rfl⟩
  · refine wm_iload_n hC 2 (pc := 7) dX8_talk_7 rfl rfl ?_
    refine wm_pS hC cs_X8_66 kc_X8_isPlan (s_X8_isPlan (by omega)) rfl (by decide) rfl (Nat.le_of_ble_eq_true rfl) (pc := 8) dX8_talk_8 ?_
    refine wm_ifd_eq hC 24 (pc := 11) dX8_talk_11 (by decide) (fun h11 => ?_) (fun h11 => ?_)
    · refine wm_ldc hC (-1000001) kI_X8_76 (pc := 24) dX8_talk_24 ?_
      refine wm_iretI hC (pc := 26) dX8_talk_26 ?_
      left
      exact ⟨by omega, rfl, rfl⟩
    · refine wm_iload_n hC 3 (pc := 14) dX8_talk_14 rfl rfl ?_
      refine wm_if_lt hC 24 (pc := 15) dX8_talk_15 (by decide) (by omega) (fun h15 => ?_) (fun h15 => ?_)
      · refine wm_ldc hC (-1000001) kI_X8_76 (pc := 24) dX8_talk_24 ?_
        refine wm_iretI hC (pc := 26) dX8_talk_26 ?_
        left
        exact ⟨by omega, rfl, rfl⟩
      · refine wm_iload_n hC 3 (pc := 18) dX8_talk_18 rfl rfl ?_
        refine wm_bipush hC (pc := 19) dX8_talk_19 (by decide) ?_
        refine wm_icmp_le hC 27 (pc := 21) dX8_talk_21 (by decide) (by omega) (by omega) (fun h21 => ?_) (fun h21 => ?_)
        · obtain ⟨p, rfl⟩ : ∃ p : Nat, a = (p : Int) := ⟨a.toNat, by omega⟩
          have hp : p < 3 := by omega
          obtain ⟨q, rfl⟩ : ∃ q : Nat, b = (q : Int) := ⟨b.toNat, by omega⟩
          have hq : q < 3 := by omega
          refine wm_aload_n hC 0 (pc := 27) dX8_talk_27 rfl rfl ?_
          refine wm_getR hC fl_X8_48_7 rfl rfl (pc := 28) dX8_talk_28 ?_
          refine wm_aload_n hC 0 (pc := 31) dX8_talk_31 rfl rfl ?_
          refine wm_iload_n hC 1 (pc := 32) dX8_talk_32 rfl rfl ?_
          refine wm_pV hC cv_X8_80 kc_X8_planAt rfl rfl (s_X8_planAt hp) rfl (by decide) rfl (Nat.le_of_ble_eq_true rfl) (pc := 33) dX8_talk_33 ?_
          refine wm_aload_n hC 0 (pc := 36) dX8_talk_36 rfl rfl ?_
          refine wm_iload_n hC 2 (pc := 37) dX8_talk_37 rfl rfl ?_
          refine wm_pV hC cv_X8_80 kc_X8_planAt rfl rfl (s_X8_planAt hq) rfl (by decide) rfl (Nat.le_of_ble_eq_true rfl) (pc := 38) dX8_talk_38 ?_
          refine wm_vU hC cu_X8_141_X7 kc_X2_walk rfl rfl (s_X2_walk_X7 (planIxP hp) (planIxP hq) (by omega) (by omega) (hI.1 p hp) (hI.1 q hq)) rfl (by decide) rfl (Nat.le_of_ble_eq_true rfl) (pc := 41) dX8_talk_41 (fun w41 hw41 => ?_)
          have hS := walkI_pst hw41 (planIxP hp) (planIxP hq) (by omega) (by omega) (hI.1 p hp) (hI.1 q hq)
          have e1 := hw41.1 (2 * p + 1 + 1) (Or.inl (by omega))
          have e2 := hw41.1 (2 * q + 1 + 1) (Or.inl (by omega))
          have hB := bfs_inv (nxF_ok (tog := togT) (hI.1 p hp) (hI.1 q hq))
          have hle := hB.le
          refine wm_iload_n hC 3 (pc := 44) dX8_talk_44 rfl rfl ?_
          by_cases sw45_0 : c = 0
          · refine wm_tableIn hC 84 (0) (pc := 45) dX8_talk_45 sw45_0 (by decide) rfl (by decide) ?_
            refine wm_aload_n hC 0 (pc := 84) dX8_talk_84 rfl rfl ?_
            refine wm_getR hC fl_X8_48_7 rfl rfl (pc := 85) dX8_talk_85 ?_
            refine wm_pU hC cu_X8_164_X7 kc_X2_size rfl rfl (s_X2_size_X7 hS) rfl (by decide) rfl (Nat.le_of_ble_eq_true rfl) (pc := 88) dX8_talk_88 ?_
            refine wm_iretI hC (pc := 91) dX8_talk_91 ?_
            right
            refine ⟨by omega, ⟨w41, ?_⟩, fun i hi => hw41.1 i (by omega)⟩
            show _ = talkF w w41 (2 * p + 1) (2 * q + 1) c
            unfold talkF
            rw [if_pos sw45_0]
          by_cases sw45_1 : c = 1
          · refine wm_tableIn hC 92 (1) (pc := 45) dX8_talk_45 sw45_1 (by decide) rfl (by decide) ?_
            refine wm_aload_n hC 0 (pc := 92) dX8_talk_92 rfl rfl ?_
            refine wm_getR hC fl_X8_48_7 rfl rfl (pc := 93) dX8_talk_93 ?_
            refine wm_pV hC cv_X8_167 kc_X7_stuckPairs rfl rfl (s_X7_stuckPairs hS) rfl (by decide) rfl (Nat.le_of_ble_eq_true rfl) (pc := 96) dX8_talk_96 ?_
            refine wm_iretI hC (pc := 99) dX8_talk_99 ?_
            right
            refine ⟨by omega, ⟨w41, ?_⟩, fun i hi => hw41.1 i (by omega)⟩
            simp only [rsnB_congr e1 e2]
            show _ = talkF w w41 (2 * p + 1) (2 * q + 1) c
            unfold talkF
            rw [if_neg sw45_0, if_pos sw45_1]
          by_cases sw45_2 : c = 2
          · refine wm_tableIn hC 100 (2) (pc := 45) dX8_talk_45 sw45_2 (by decide) rfl (by decide) ?_
            refine wm_aload_n hC 0 (pc := 100) dX8_talk_100 rfl rfl ?_
            refine wm_getR hC fl_X8_48_7 rfl rfl (pc := 101) dX8_talk_101 ?_
            refine wm_pV hC cv_X8_170 kc_X7_ends rfl rfl (s_X7_ends hS) rfl (by decide) rfl (Nat.le_of_ble_eq_true rfl) (pc := 104) dX8_talk_104 ?_
            refine wm_iretI hC (pc := 107) dX8_talk_107 ?_
            right
            refine ⟨by omega, ⟨w41, ?_⟩, fun i hi => hw41.1 i (by omega)⟩
            simp only [endB_congr e1 e2]
            show _ = talkF w w41 (2 * p + 1) (2 * q + 1) c
            unfold talkF
            rw [if_neg sw45_0, if_neg sw45_1, if_pos sw45_2]
          by_cases sw45_3 : c = 3
          · refine wm_tableIn hC 108 (3) (pc := 45) dX8_talk_45 sw45_3 (by decide) rfl (by decide) ?_
            refine wm_aload_n hC 0 (pc := 108) dX8_talk_108 rfl rfl ?_
            refine wm_getR hC fl_X8_55_7 rfl rfl (pc := 109) dX8_talk_109 ?_
            refine wm_aload_n hC 0 (pc := 112) dX8_talk_112 rfl rfl ?_
            refine wm_getR hC fl_X8_48_7 rfl rfl (pc := 113) dX8_talk_113 ?_
            refine wm_jV hC cv_X8_173 kc_X5_rowsToEnds rfl rfl (s_X5_rowsToEnds hS (by omega) (by omega)) rfl (by decide) rfl (Nat.le_of_ble_eq_true rfl) (pc := 116) dX8_talk_116 (fun z116 w116 hw116 => ?_)
            have hkr := krF_rng (w := w41) (en := endB w41 (2 * p + 1) (2 * q + 1) (bfs (nxF togT w (2 * p + 1) (2 * q + 1)))) (SxOK.pos (tog := togT) (hS.2.2.1) (hS.2.2.2.1) hB) ⟨hB.1, hle⟩
            have hC1 : CAP = 1000000000000001 := rfl
            refine wm_ldc2 hC (-1) kJ_X8_177 (pc := 119) dX8_talk_119 ?_
            refine wm_lcmp hC (pc := 122) dX8_talk_122 (by rw [hw116.1]; omega) (by omega) ?_
            refine wm_if_ne hC 130 (pc := 123) dX8_talk_123 (by decide) (by unfold mcmp; (repeat' split) <;> omega) (fun h123 => ?_) (fun h123 => ?_)
            · have hne : ¬ z116 = -1 := by unfold mcmp at h123; (repeat' split at h123) <;> omega
              refine wm_iconst hC (pc := 130) dX8_talk_130 ?_
              refine wm_iretI hC (pc := 131) dX8_talk_131 ?_
              right
              refine ⟨by omega, ⟨w41, ?_⟩, fun i hi => (hw116.2 i (by omega)).trans (hw41.1 i (by omega))⟩
              show _ = talkF w w41 (2 * p + 1) (2 * q + 1) c
              unfold talkF
              rw [if_neg sw45_0, if_neg sw45_1, if_neg sw45_2, if_pos sw45_3]
              have h1 := hw116.1
              rw [krT_congr e1 e2] at h1
              rw [← h1]
              first | rw [if_pos heq] | rw [if_neg hne]
            · have heq : z116 = -1 := by unfold mcmp at h123; (repeat' split at h123) <;> omega
              refine wm_iconst hC (pc := 126) dX8_talk_126 ?_
              refine wm_goto hC 131 (pc := 127) dX8_talk_127 (by decide) ?_
              refine wm_iretI hC (pc := 131) dX8_talk_131 ?_
              right
              refine ⟨by omega, ⟨w41, ?_⟩, fun i hi => (hw116.2 i (by omega)).trans (hw41.1 i (by omega))⟩
              show _ = talkF w w41 (2 * p + 1) (2 * q + 1) c
              unfold talkF
              rw [if_neg sw45_0, if_neg sw45_1, if_neg sw45_2, if_pos sw45_3]
              have h1 := hw116.1
              rw [krT_congr e1 e2] at h1
              rw [← h1]
              first | rw [if_pos heq] | rw [if_neg hne]
          by_cases sw45_4 : c = 4
          · refine wm_tableIn hC 132 (4) (pc := 45) dX8_talk_45 sw45_4 (by decide) rfl (by decide) ?_
            refine wm_aload_n hC 0 (pc := 132) dX8_talk_132 rfl rfl ?_
            refine wm_getR hC fl_X8_48_7 rfl rfl (pc := 133) dX8_talk_133 ?_
            refine wm_pV hC cv_X8_179 kc_X7_fewestWordsToEnd rfl rfl (s_X7_fewestWordsToEnd hS) rfl (by decide) rfl (Nat.le_of_ble_eq_true rfl) (pc := 136) dX8_talk_136 ?_
            refine wm_pS hC cs_X8_131 kc_X8_foundOr (s_X8_foundOr (by have := fewB_rng w41 (2 * p + 1) (2 * q + 1) hB; omega)) rfl (by decide) rfl (Nat.le_of_ble_eq_true rfl) (pc := 139) dX8_talk_139 ?_
            refine wm_iretI hC (pc := 142) dX8_talk_142 ?_
            right
            refine ⟨by omega, ⟨w41, ?_⟩, fun i hi => hw41.1 i (by omega)⟩
            rw [fewB_congr e1 e2]
            show _ = talkF w w41 (2 * p + 1) (2 * q + 1) c
            unfold talkF
            rw [if_neg sw45_0, if_neg sw45_1, if_neg sw45_2, if_neg sw45_3, if_pos sw45_4]
          by_cases sw45_5 : c = 5
          · refine wm_tableIn hC 143 (5) (pc := 45) dX8_talk_45 sw45_5 (by decide) rfl (by decide) ?_
            refine wm_aload_n hC 0 (pc := 143) dX8_talk_143 rfl rfl ?_
            refine wm_getR hC fl_X8_48_7 rfl rfl (pc := 144) dX8_talk_144 ?_
            refine wm_pV hC cv_X8_182 kc_X7_statesOfOne rfl rfl (s_X7_statesOfOne hS) rfl (by decide) rfl (Nat.le_of_ble_eq_true rfl) (pc := 147) dX8_talk_147 ?_
            refine wm_iretI hC (pc := 150) dX8_talk_150 ?_
            right
            refine ⟨by omega, ⟨w41, ?_⟩, fun i hi => hw41.1 i (by omega)⟩
            show _ = talkF w w41 (2 * p + 1) (2 * q + 1) c
            unfold talkF
            rw [if_neg sw45_0, if_neg sw45_1, if_neg sw45_2, if_neg sw45_3, if_neg sw45_4, if_pos sw45_5]
          refine wm_tableOut hC 151 (pc := 45) dX8_talk_45 (by decide) (by omega) (by omega) ?_
          refine wm_aload_n hC 0 (pc := 151) dX8_talk_151 rfl rfl ?_
          refine wm_getR hC fl_X8_48_7 rfl rfl (pc := 152) dX8_talk_152 ?_
          refine wm_pV hC cv_X8_185 kc_X7_statesOfOther rfl rfl (s_X7_statesOfOther hS) rfl (by decide) rfl (Nat.le_of_ble_eq_true rfl) (pc := 155) dX8_talk_155 ?_
          refine wm_iretI hC (pc := 158) dX8_talk_158 ?_
          right
          refine ⟨by omega, ⟨w41, ?_⟩, fun i hi => hw41.1 i (by omega)⟩
          show _ = talkF w w41 (2 * p + 1) (2 * q + 1) c
          unfold talkF
          rw [if_neg sw45_0, if_neg sw45_1, if_neg sw45_2, if_neg sw45_3, if_neg sw45_4, if_neg sw45_5]
        · refine wm_ldc hC (-1000001) kI_X8_76 (pc := 24) dX8_talk_24 ?_
          refine wm_iretI hC (pc := 26) dX8_talk_26 ?_
          left
          exact ⟨by omega, rfl, rfl⟩
set_option maxRecDepth 100000 in
set_option maxHeartbeats 400000 in
theorem s_X8_talks {l : Launch} {G : mG} {w : mW} {a b : Int} (hI : CInv w) (ha : -2147483648 ≤ a ∧ a < 2147483648) (hb : -2147483648 ≤ b ∧ b < 2147483648) : Mx l G 6 yX8_talks cX8_talks 5 (some .long) [mvR 0, mvI a, mvI b] w (qJ (fun z w' => (¬ (0 ≤ a ∧ a < 3 ∧ 0 ≤ b ∧ b < 3) ∧ z = -1000001 ∧ w' = w) ∨ ((0 ≤ a ∧ a < 3 ∧ 0 ≤ b ∧ b < 3) ∧ (∃ u : mW, z = talksF (krT w u (2 * a.toNat + 1) (2 * b.toNat + 1))) ∧ ∀ i : Nat, i < 15 ∨ 24 < i → w' i = w i))) := by
  refine Mx.intro (by decide) RX8 rfl [some (mvR 0), some (mvI a), some (mvI b), none, none] (Nat.le_of_ble_eq_true rfl) rfl (fun K hC => ?_)
  refine wm_iload_n hC 1 (pc := 0) dX8_talks_0 rfl rfl ?_
  refine wm_pS hC cs_X8_66 kc_X8_isPlan (s_X8_isPlan (by omega)) rfl (by decide) rfl (Nat.le_of_ble_eq_true rfl) (pc := 1) dX8_talks_1 ?_
  refine wm_ifd_eq hC 14 (pc := 4) dX8_talks_4 (by decide) (fun h4 => ?_) (fun h4 => ?_)
  · refine wm_ldc2 hC (-1000001) kJ_X8_188 (pc := 14) dX8_talks_14 ?_
    refine wm_lretJ hC (pc := 17) dX8_talks_17 ?_
    left
    exact ⟨by omega, rfl, rfl⟩
  · refine wm_iload_n hC 2 (pc := 7) dX8_talks_7 rfl rfl ?_
    refine wm_pS hC cs_X8_66 kc_X8_isPlan (s_X8_isPlan (by omega)) rfl (by decide) rfl (Nat.le_of_ble_eq_true rfl) (pc := 8) dX8_talks_8 ?_
    refine wm_ifd_ne hC 18 (pc := 11) dX8_talks_11 (by decide) (fun h11 => ?_) (fun h11 => ?_)
    · obtain ⟨p, rfl⟩ : ∃ p : Nat, a = (p : Int) := ⟨a.toNat, by omega⟩
      have hp : p < 3 := by omega
      obtain ⟨q, rfl⟩ : ∃ q : Nat, b = (q : Int) := ⟨b.toNat, by omega⟩
      have hq : q < 3 := by omega
      refine wm_aload_n hC 0 (pc := 18) dX8_talks_18 rfl rfl ?_
      refine wm_getR hC fl_X8_48_7 rfl rfl (pc := 19) dX8_talks_19 ?_
      refine wm_aload_n hC 0 (pc := 22) dX8_talks_22 rfl rfl ?_
      refine wm_iload_n hC 1 (pc := 23) dX8_talks_23 rfl rfl ?_
      refine wm_pV hC cv_X8_80 kc_X8_planAt rfl rfl (s_X8_planAt hp) rfl (by decide) rfl (Nat.le_of_ble_eq_true rfl) (pc := 24) dX8_talks_24 ?_
      refine wm_aload_n hC 0 (pc := 27) dX8_talks_27 rfl rfl ?_
      refine wm_iload_n hC 2 (pc := 28) dX8_talks_28 rfl rfl ?_
      refine wm_pV hC cv_X8_80 kc_X8_planAt rfl rfl (s_X8_planAt hq) rfl (by decide) rfl (Nat.le_of_ble_eq_true rfl) (pc := 29) dX8_talks_29 ?_
      refine wm_vU hC cu_X8_141_X7 kc_X2_walk rfl rfl (s_X2_walk_X7 (planIxP hp) (planIxP hq) (by omega) (by omega) (hI.1 p hp) (hI.1 q hq)) rfl (by decide) rfl (Nat.le_of_ble_eq_true rfl) (pc := 32) dX8_talks_32 (fun w32 hw32 => ?_)
      have hS := walkI_pst hw32 (planIxP hp) (planIxP hq) (by omega) (by omega) (hI.1 p hp) (hI.1 q hq)
      have e1 := hw32.1 (2 * p + 1 + 1) (Or.inl (by omega))
      have e2 := hw32.1 (2 * q + 1 + 1) (Or.inl (by omega))
      have hB := bfs_inv (nxF_ok (tog := togT) (hI.1 p hp) (hI.1 q hq))
      have hle := hB.le
      refine wm_aload_n hC 0 (pc := 35) dX8_talks_35 rfl rfl ?_
      refine wm_getR hC fl_X8_55_7 rfl rfl (pc := 36) dX8_talks_36 ?_
      refine wm_aload_n hC 0 (pc := 39) dX8_talks_39 rfl rfl ?_
      refine wm_getR hC fl_X8_48_7 rfl rfl (pc := 40) dX8_talks_40 ?_
      refine wm_jV hC cv_X8_173 kc_X5_rowsToEnds rfl rfl (s_X5_rowsToEnds hS (by omega) (by omega)) rfl (by decide) rfl (Nat.le_of_ble_eq_true rfl) (pc := 43) dX8_talks_43 (fun z43 w43 hw43 => ?_)
      have hkr := krF_rng (w := w32) (en := endB w32 (2 * p + 1) (2 * q + 1) (bfs (nxF togT w (2 * p + 1) (2 * q + 1)))) (SxOK.pos (tog := togT) (hS.2.2.1) (hS.2.2.2.1) hB) ⟨hB.1, hle⟩
      have hC1 : CAP = 1000000000000001 := rfl
      refine wm_lstore_n hC 3 (pc := 46) dX8_talks_46 rfl (by decide) rfl ?_
      refine wm_lload_n hC 3 (pc := 47) dX8_talks_47 rfl rfl ?_
      refine wm_ldc2 hC (-1) kJ_X8_177 (pc := 48) dX8_talks_48 ?_
      refine wm_lcmp hC (pc := 51) dX8_talks_51 (by rw [hw43.1]; omega) (by omega) ?_
      refine wm_if_ne hC 59 (pc := 52) dX8_talks_52 (by decide) (by unfold mcmp; (repeat' split) <;> omega) (fun h52 => ?_) (fun h52 => ?_)
      · have hne : ¬ z43 = -1 := by unfold mcmp at h52; (repeat' split at h52) <;> omega
        refine wm_lload_n hC 3 (pc := 59) dX8_talks_59 rfl rfl ?_
        refine wm_ldc2 hC (1000000000000000) kJ_X8_192 (pc := 60) dX8_talks_60 ?_
        refine wm_lcmp hC (pc := 63) dX8_talks_63 (by rw [hw43.1]; omega) (by omega) ?_
        refine wm_if_le hC 73 (pc := 64) dX8_talks_64 (by decide) (by unfold mcmp; (repeat' split) <;> omega) (fun h64 => ?_) (fun h64 => ?_)
        · have hle2 : ¬ 1000000000000000 < z43 := by unfold mcmp at h64; (repeat' split at h64) <;> omega
          refine wm_lload_n hC 3 (pc := 73) dX8_talks_73 rfl rfl ?_
          refine wm_lretJ hC (pc := 74) dX8_talks_74 ?_
          right
          refine ⟨by omega, ⟨w32, ?_⟩, fun i hi => (hw43.2 i (by omega)).trans (hw32.1 i (by omega))⟩
          have h1 := hw43.1
          rw [krT_congr e1 e2] at h1
          show _ = talksF (krT w w32 (2 * p + 1) (2 * q + 1))
          rw [← h1]
          unfold talksF
          first | rw [if_neg hne, if_neg hle2] | rw [if_neg hne, if_pos hgt]
        · have hgt : 1000000000000000 < z43 := by unfold mcmp at h64; (repeat' split at h64) <;> omega
          refine wm_ldc2 hC (-1000003) kJ_X8_194 (pc := 67) dX8_talks_67 ?_
          refine wm_goto hC 74 (pc := 70) dX8_talks_70 (by decide) ?_
          refine wm_lretJ hC (pc := 74) dX8_talks_74 ?_
          right
          refine ⟨by omega, ⟨w32, ?_⟩, fun i hi => (hw43.2 i (by omega)).trans (hw32.1 i (by omega))⟩
          have h1 := hw43.1
          rw [krT_congr e1 e2] at h1
          show _ = talksF (krT w w32 (2 * p + 1) (2 * q + 1))
          rw [← h1]
          unfold talksF
          first | rw [if_neg hne, if_neg hle2] | rw [if_neg hne, if_pos hgt]
      · have heq : z43 = -1 := by unfold mcmp at h52; (repeat' split at h52) <;> omega
        refine wm_ldc2 hC (-1000002) kJ_X8_190 (pc := 55) dX8_talks_55 ?_
        refine wm_lretJ hC (pc := 58) dX8_talks_58 ?_
        right
        refine ⟨by omega, ⟨w32, ?_⟩, fun i hi => (hw43.2 i (by omega)).trans (hw32.1 i (by omega))⟩
        have h1 := hw43.1
        rw [krT_congr e1 e2] at h1
        show _ = talksF (krT w w32 (2 * p + 1) (2 * q + 1))
        rw [← h1]
        unfold talksF
        rw [if_pos heq]
    · refine wm_ldc2 hC (-1000001) kJ_X8_188 (pc := 14) dX8_talks_14 ?_
      refine wm_lretJ hC (pc := 17) dX8_talks_17 ?_
      left
      exact ⟨by omega, rfl, rfl⟩
set_option maxRecDepth 100000 in
set_option maxHeartbeats 400000 in
theorem s_X8_standsIn {l : Launch} {G : mG} {w : mW} {a b : Int} (hI : CInv w) (ha : -2147483648 ≤ a ∧ a < 2147483648) (hb : -2147483648 ≤ b ∧ b < 2147483648) : Mx l G 5 yX8_standsIn cX8_standsIn 3 (some .int) [mvR 0, mvI a, mvI b] w (qI (fun z w' => (¬ (0 ≤ a ∧ a < 3 ∧ 0 ≤ b ∧ b < 3) ∧ z = -1000001 ∧ w' = w) ∨ ((0 ≤ a ∧ a < 3 ∧ 0 ≤ b ∧ b < 3) ∧ z = standF w (2 * a.toNat + 1) (2 * b.toNat + 1) ∧ ∀ i : Nat, i < 25 ∨ 30 < i → w' i = w i))) := by
  refine Mx.intro (by decide) RX8 rfl [some (mvR 0), some (mvI a), some (mvI b)] (Nat.le_of_ble_eq_true rfl) rfl (fun K hC => ?_)
  refine wm_iload_n hC 1 (pc := 0) dX8_standsIn_0 rfl rfl ?_
  refine wm_pS hC cs_X8_66 kc_X8_isPlan (s_X8_isPlan (by omega)) rfl (by decide) rfl (Nat.le_of_ble_eq_true rfl) (pc := 1) dX8_standsIn_1 ?_
  refine wm_ifd_eq hC 14 (pc := 4) dX8_standsIn_4 (by decide) (fun h4 => ?_) (fun h4 => ?_)
  · refine wm_ldc hC (-1000001) kI_X8_76 (pc := 14) dX8_standsIn_14 ?_
    refine wm_iretI hC (pc := 16) dX8_standsIn_16 ?_
    left
    exact ⟨by omega, rfl, rfl⟩
  · refine wm_iload_n hC 2 (pc := 7) dX8_standsIn_7 rfl rfl ?_
    refine wm_pS hC cs_X8_66 kc_X8_isPlan (s_X8_isPlan (by omega)) rfl (by decide) rfl (Nat.le_of_ble_eq_true rfl) (pc := 8) dX8_standsIn_8 ?_
    refine wm_ifd_ne hC 17 (pc := 11) dX8_standsIn_11 (by decide) (fun h11 => ?_) (fun h11 => ?_)
    · obtain ⟨p, rfl⟩ : ∃ p : Nat, a = (p : Int) := ⟨a.toNat, by omega⟩
      have hp : p < 3 := by omega
      obtain ⟨q, rfl⟩ : ∃ q : Nat, b = (q : Int) := ⟨b.toNat, by omega⟩
      have hq : q < 3 := by omega
      refine wm_aload_n hC 0 (pc := 17) dX8_standsIn_17 rfl rfl ?_
      refine wm_getR hC fl_X8_62_7 rfl rfl (pc := 18) dX8_standsIn_18 ?_
      refine wm_aload_n hC 0 (pc := 21) dX8_standsIn_21 rfl rfl ?_
      refine wm_iload_n hC 1 (pc := 22) dX8_standsIn_22 rfl rfl ?_
      refine wm_pV hC cv_X8_80 kc_X8_planAt rfl rfl (s_X8_planAt hp) rfl (by decide) rfl (Nat.le_of_ble_eq_true rfl) (pc := 23) dX8_standsIn_23 ?_
      refine wm_aload_n hC 0 (pc := 26) dX8_standsIn_26 rfl rfl ?_
      refine wm_iload_n hC 2 (pc := 27) dX8_standsIn_27 rfl rfl ?_
      refine wm_pV hC cv_X8_80 kc_X8_planAt rfl rfl (s_X8_planAt hq) rfl (by decide) rfl (Nat.le_of_ble_eq_true rfl) (pc := 28) dX8_standsIn_28 ?_
      refine wm_vU hC cu_X8_196_X6 kc_X2_walk rfl rfl (s_X2_walk_X6 (planIxP hp) (planIxP hq) (by omega) (by omega) (hI.1 p hp) (hI.1 q hq)) rfl (by decide) rfl (Nat.le_of_ble_eq_true rfl) (pc := 31) dX8_standsIn_31 (fun w31 hw31 => ?_)
      have hS := walkI_pst hw31 (planIxP hp) (planIxP hq) (by omega) (by omega) (hI.1 p hp) (hI.1 q hq)
      have e1 := hw31.1 (2 * p + 1 + 1) (Or.inl (by omega))
      have e2 := hw31.1 (2 * q + 1 + 1) (Or.inl (by omega))
      have hB := bfs_inv (nxF_ok (tog := togS) (hI.1 p hp) (hI.1 q hq))
      have hle := hB.le
      refine wm_aload_n hC 0 (pc := 34) dX8_standsIn_34 rfl rfl ?_
      refine wm_getR hC fl_X8_62_7 rfl rfl (pc := 35) dX8_standsIn_35 ?_
      refine wm_pU hC cu_X8_197_X6 kc_X2_firstFaulty rfl rfl (s_X2_firstFaulty_X6 hS) rfl (by decide) rfl (Nat.le_of_ble_eq_true rfl) (pc := 38) dX8_standsIn_38 ?_
      rw [faultB_congr e1 e2]
      have hfr := faultB_rng rsnS w (2 * p + 1) (2 * q + 1) hB
      refine wm_iconst hC (pc := 41) dX8_standsIn_41 ?_
      refine wm_icmp_ne hC 49 (pc := 42) dX8_standsIn_42 (by decide) (by omega) (by omega) (fun h42 => ?_) (fun h42 => ?_)
      · refine wm_iconst hC (pc := 49) dX8_standsIn_49 ?_
        refine wm_iretI hC (pc := 50) dX8_standsIn_50 ?_
        right
        refine ⟨by omega, ?_, hw31.1⟩
        show _ = standF w (2 * p + 1) (2 * q + 1)
        unfold standF
        first | rw [if_pos h42] | rw [if_neg h42]
      · refine wm_iconst hC (pc := 45) dX8_standsIn_45 ?_
        refine wm_goto hC 50 (pc := 46) dX8_standsIn_46 (by decide) ?_
        refine wm_iretI hC (pc := 50) dX8_standsIn_50 ?_
        right
        refine ⟨by omega, ?_, hw31.1⟩
        show _ = standF w (2 * p + 1) (2 * q + 1)
        unfold standF
        first | rw [if_pos h42] | rw [if_neg h42]
    · refine wm_ldc hC (-1000001) kI_X8_76 (pc := 14) dX8_standsIn_14 ?_
      refine wm_iretI hC (pc := 16) dX8_standsIn_16 ?_
      left
      exact ⟨by omega, rfl, rfl⟩
set_option maxRecDepth 100000 in
set_option maxHeartbeats 400000 in
theorem s_X8_against {l : Launch} {G : mG} {w : mW} {a b c : Int} (hI : CInv w) (ha : -2147483648 ≤ a ∧ a < 2147483648) (hb : -2147483648 ≤ b ∧ b < 2147483648) (hc : -2147483648 ≤ c ∧ c < 2147483648) : Mx l G 5 yX8_against cX8_against 5 (some .int) [mvR 0, mvI a, mvI b, mvI c] w (qI (fun z w' => (¬ (0 ≤ a ∧ a < 3 ∧ 0 ≤ b ∧ b < 3 ∧ ((0 ≤ c ∧ c ≤ 4) ∨ (10 ≤ c ∧ c < 74))) ∧ z = -1000001 ∧ w' = w) ∨ ((0 ≤ a ∧ a < 3 ∧ 0 ≤ b ∧ b < 3 ∧ ((0 ≤ c ∧ c ≤ 4) ∨ (10 ≤ c ∧ c < 74))) ∧ z = againB w (2 * a.toNat + 1) (2 * b.toNat + 1) (bSt w (2 * a.toNat + 1) (2 * b.toNat + 1)) (faultB rsnS w (2 * a.toNat + 1) (2 * b.toNat + 1) (bSt w (2 * a.toNat + 1) (2 * b.toNat + 1))) c ∧ ∀ i : Nat, i < 25 ∨ 30 < i → w' i = w i))) := by
  refine Mx.intro (by decide) RX8 rfl [some (mvR 0), some (mvI a), some (mvI b), some (mvI c), none] (Nat.le_of_ble_eq_true rfl) rfl (fun K hC => ?_)
  refine wm_iload_n hC 1 (pc := 0) dX8_against_0 rfl rfl ?_
  refine wm_pS hC cs_X8_66 kc_X8_isPlan (s_X8_isPlan (by omega)) rfl (by decide) rfl (Nat.le_of_ble_eq_true rfl) (pc := 1) dX8_against_1 ?_
  refine wm_ifd_eq hC 21 (pc := 4) dX8_against_4 (by decide) (fun h4 => ?_) (fun h4 => ?_)
  · refine wm_ldc hC (-1000001) kI_X8_76 (pc := 21) dX8_against_21 ?_
    refine wm_iretI hC (pc := 23) dX8_against_23 ?_
    left
    exact ⟨by omega, rfl, rfl⟩
  · refine wm_iload_n hC 2 (pc := 7) dX8_against_7 rfl rfl ?_
    refine wm_pS hC cs_X8_66 kc_X8_isPlan (s_X8_isPlan (by omega)) rfl (by decide) rfl (Nat.le_of_ble_eq_true rfl) (pc := 8) dX8_against_8 ?_
    refine wm_ifd_eq hC 21 (pc := 11) dX8_against_11 (by decide) (fun h11 => ?_) (fun h11 => ?_)
    · refine wm_ldc hC (-1000001) kI_X8_76 (pc := 21) dX8_against_21 ?_
      refine wm_iretI hC (pc := 23) dX8_against_23 ?_
      left
      exact ⟨by omega, rfl, rfl⟩
    · refine wm_iload_n hC 3 (pc := 14) dX8_against_14 rfl rfl ?_
      refine wm_pS hC cs_X8_138 kc_X8_isPairQuestion (s_X8_isPairQuestion (by omega)) rfl (by decide) rfl (Nat.le_of_ble_eq_true rfl) (pc := 15) dX8_against_15 ?_
      refine wm_ifd_ne hC 24 (pc := 18) dX8_against_18 (by decide) (fun h18 => ?_) (fun h18 => ?_)
      · obtain ⟨p, rfl⟩ : ∃ p : Nat, a = (p : Int) := ⟨a.toNat, by omega⟩
        have hp : p < 3 := by omega
        obtain ⟨q, rfl⟩ : ∃ q : Nat, b = (q : Int) := ⟨b.toNat, by omega⟩
        have hq : q < 3 := by omega
        refine wm_aload_n hC 0 (pc := 24) dX8_against_24 rfl rfl ?_
        refine wm_getR hC fl_X8_62_7 rfl rfl (pc := 25) dX8_against_25 ?_
        refine wm_aload_n hC 0 (pc := 28) dX8_against_28 rfl rfl ?_
        refine wm_iload_n hC 1 (pc := 29) dX8_against_29 rfl rfl ?_
        refine wm_pV hC cv_X8_80 kc_X8_planAt rfl rfl (s_X8_planAt hp) rfl (by decide) rfl (Nat.le_of_ble_eq_true rfl) (pc := 30) dX8_against_30 ?_
        refine wm_aload_n hC 0 (pc := 33) dX8_against_33 rfl rfl ?_
        refine wm_iload_n hC 2 (pc := 34) dX8_against_34 rfl rfl ?_
        refine wm_pV hC cv_X8_80 kc_X8_planAt rfl rfl (s_X8_planAt hq) rfl (by decide) rfl (Nat.le_of_ble_eq_true rfl) (pc := 35) dX8_against_35 ?_
        refine wm_vU hC cu_X8_196_X6 kc_X2_walk rfl rfl (s_X2_walk_X6 (planIxP hp) (planIxP hq) (by omega) (by omega) (hI.1 p hp) (hI.1 q hq)) rfl (by decide) rfl (Nat.le_of_ble_eq_true rfl) (pc := 38) dX8_against_38 (fun w38 hw38 => ?_)
        have hS := walkI_pst hw38 (planIxP hp) (planIxP hq) (by omega) (by omega) (hI.1 p hp) (hI.1 q hq)
        have e1 := hw38.1 (2 * p + 1 + 1) (Or.inl (by omega))
        have e2 := hw38.1 (2 * q + 1 + 1) (Or.inl (by omega))
        have hB := bfs_inv (nxF_ok (tog := togS) (hI.1 p hp) (hI.1 q hq))
        have hle := hB.le
        refine wm_aload_n hC 0 (pc := 41) dX8_against_41 rfl rfl ?_
        refine wm_getR hC fl_X8_62_7 rfl rfl (pc := 42) dX8_against_42 ?_
        refine wm_pU hC cu_X8_197_X6 kc_X2_firstFaulty rfl rfl (s_X2_firstFaulty_X6 hS) rfl (by decide) rfl (Nat.le_of_ble_eq_true rfl) (pc := 45) dX8_against_45 ?_
        rw [faultB_congr e1 e2]
        have hfr := faultB_rng rsnS w (2 * p + 1) (2 * q + 1) hB
        refine wm_istore hC  (pc := 48) dX8_against_48  (by decide) rfl ?_
        refine wm_aload_n hC 0 (pc := 50) dX8_against_50 rfl rfl ?_
        refine wm_getR hC fl_X8_62_7 rfl rfl (pc := 51) dX8_against_51 ?_
        refine wm_iload hC  (pc := 54) dX8_against_54 rfl ?_
        refine wm_pU hC cu_X8_198_X6 kc_X2_has rfl rfl (s_X2_has_X6 hS (by omega)) rfl (by decide) rfl (Nat.le_of_ble_eq_true rfl) (pc := 56) dX8_against_56 ?_
        refine wm_ifd_ne hC 65 (pc := 59) dX8_against_59 (by decide) (fun h59 => ?_) (fun h59 => ?_)
        · refine wm_iload_n hC 3 (pc := 65) dX8_against_65 rfl rfl ?_
          by_cases sw66_0 : c = 0
          · refine wm_tableIn hC 92 (0) (pc := 66) dX8_against_66 sw66_0 (by decide) rfl (by decide) ?_
            refine wm_aload_n hC 0 (pc := 92) dX8_against_92 rfl rfl ?_
            refine wm_getR hC fl_X8_62_7 rfl rfl (pc := 93) dX8_against_93 ?_
            refine wm_iload hC  (pc := 96) dX8_against_96 rfl ?_
            refine wm_pU hC cu_X8_199_X6 kc_X2_lengthOf rfl rfl (s_X2_lengthOf_X6 hS h59) rfl (by decide) rfl (Nat.le_of_ble_eq_true rfl) (pc := 98) dX8_against_98 ?_
            refine wm_iretI hC (pc := 101) dX8_against_101 ?_
            right
            refine ⟨by omega, ?_, hw38.1⟩
            rw [Int.toNat_natCast p, Int.toNat_natCast q]
            exact (againB_0 h59 sw66_0).symm
          by_cases sw66_1 : c = 1
          · refine wm_tableIn hC 102 (1) (pc := 66) dX8_against_66 sw66_1 (by decide) rfl (by decide) ?_
            refine wm_aload_n hC 0 (pc := 102) dX8_against_102 rfl rfl ?_
            refine wm_getR hC fl_X8_62_7 rfl rfl (pc := 103) dX8_against_103 ?_
            refine wm_iload hC  (pc := 106) dX8_against_106 rfl ?_
            refine wm_pU hC cu_X8_200_X6 kc_X2_stateOfOne rfl rfl (s_X2_stateOfOne_X6 hS h59) rfl (by decide) rfl (Nat.le_of_ble_eq_true rfl) (pc := 108) dX8_against_108 ?_
            refine wm_iretI hC (pc := 111) dX8_against_111 ?_
            right
            refine ⟨by omega, ?_, hw38.1⟩
            rw [Int.toNat_natCast p, Int.toNat_natCast q]
            exact (againB_1 h59 sw66_0 sw66_1).symm
          by_cases sw66_2 : c = 2
          · refine wm_tableIn hC 112 (2) (pc := 66) dX8_against_66 sw66_2 (by decide) rfl (by decide) ?_
            refine wm_aload_n hC 0 (pc := 112) dX8_against_112 rfl rfl ?_
            refine wm_getR hC fl_X8_62_7 rfl rfl (pc := 113) dX8_against_113 ?_
            refine wm_iload hC  (pc := 116) dX8_against_116 rfl ?_
            refine wm_pU hC cu_X8_201_X6 kc_X2_stateOfOther rfl rfl (s_X2_stateOfOther_X6 hS h59) rfl (by decide) rfl (Nat.le_of_ble_eq_true rfl) (pc := 118) dX8_against_118 ?_
            refine wm_iretI hC (pc := 121) dX8_against_121 ?_
            right
            refine ⟨by omega, ?_, hw38.1⟩
            rw [Int.toNat_natCast p, Int.toNat_natCast q]
            exact (againB_2 h59 sw66_0 sw66_1 sw66_2).symm
          refine wm_tableOut hC 122 (pc := 66) dX8_against_66 (by decide) (by omega) (by omega) ?_
          refine wm_aload_n hC 0 (pc := 122) dX8_against_122 rfl rfl ?_
          refine wm_getR hC fl_X8_62_7 rfl rfl (pc := 123) dX8_against_123 ?_
          refine wm_iload hC  (pc := 126) dX8_against_126 rfl ?_
          refine wm_iload_n hC 3 (pc := 128) dX8_against_128 rfl rfl ?_
          refine wm_pU hC cu_X8_202_X6 kc_X2_tellMore rfl rfl (s_X2_tellMore_X6 hS h59 (by omega)) rfl (by decide) rfl (Nat.le_of_ble_eq_true rfl) (pc := 129) dX8_against_129 ?_
          refine wm_iretI hC (pc := 132) dX8_against_132 ?_
          rw [tellF_congr e1 e2]
          right
          refine ⟨by omega, ?_, hw38.1⟩
          rw [Int.toNat_natCast p, Int.toNat_natCast q]
          exact (againB_3 h59 sw66_0 sw66_1 sw66_2).symm
        · refine wm_ldc hC (-1000004) kI_X8_151 (pc := 62) dX8_against_62 ?_
          refine wm_iretI hC (pc := 64) dX8_against_64 ?_
          right
          refine ⟨by omega, ?_, hw38.1⟩
          rw [Int.toNat_natCast p, Int.toNat_natCast q]
          exact (againB_n h59).symm
      · refine wm_ldc hC (-1000001) kI_X8_76 (pc := 21) dX8_against_21 ?_
        refine wm_iretI hC (pc := 23) dX8_against_23 ?_
        left
        exact ⟨by omega, rfl, rfl⟩
set_option maxRecDepth 100000 in
set_option maxHeartbeats 4000000 in
theorem s_X4_length {l : Launch} {G : mG} {w : mW}  : Mx l G 0 yX4_length cX4_length 1 (some .int) [mvR 9] w (qP (mvI (w 9 1)) w) := by
  refine Mx.intro (by decide) RX4 rfl [some (mvR 9)] (Nat.le_of_ble_eq_true rfl) rfl (fun K hC => ?_)
  refine wm_aload_n hC 0 (pc := 0) dX4_length_0 rfl rfl ?_
  refine wm_getI hC 9 1 fl_X4_22_3 rfl rfl rfl (pc := 1) dX4_length_1 ?_
  refine wm_iretP hC (pc := 4) dX4_length_4 ?_ rfl
  rfl
def lastC (w : mW) (p : Nat) : Nat := cnt (fun s => decide (¬ w (p + 1) ((s : Int) * 7) = 0)) 8
def arrC (w : mW) (p : Nat) : Nat := msum (fun s => mpop (wmask (hasW w p s) 6)) 8
def countF (w : mW) (c : Int) : Int :=
  if 10 ≤ c ∧ c < 19 then standF w (2 * ((c - 10) / 3).toNat + 1) (2 * ((c - 10) % 3).toNat + 1)
  else if c = 0 then ((lastC w 1 : Nat) : Int) + ((lastC w 3 : Nat) : Int) + ((lastC w 5 : Nat) : Int) else if c = 1 then ((arrC w 1 : Nat) : Int) + ((arrC w 3 : Nat) : Int) + ((arrC w 5 : Nat) : Int)
  else if c = 2 then w 7 1 else if c = 3 then w 9 1 else -1000001
set_option maxRecDepth 100000 in
set_option maxHeartbeats 4000000 in
theorem s_X8_count {l : Launch} {G : mG} {w : mW} {c : Int} (hI : CInv w) (hc : -2147483648 ≤ c ∧ c < 2147483648) : Mx l G 6 yX8_count cX8_count 3 (some .int) [mvR 0, mvI c] w (qI (fun z w' => z = countF w c ∧ ∀ i : Nat, i < 25 ∨ 30 < i → w' i = w i)) := by
  refine Mx.intro (by decide) RX8 rfl [some (mvR 0), some (mvI c), none] (Nat.le_of_ble_eq_true rfl) rfl (fun K hC => ?_)
  refine wm_iload_n hC 1 (pc := 0) dX8_count_0 rfl rfl ?_
  refine wm_bipush hC (pc := 1) dX8_count_1 (by decide) ?_
  refine wm_isub hC (pc := 3) dX8_count_3 ?_
  refine wm_istore_n hC 2 (pc := 4) dX8_count_4 rfl (by decide) rfl ?_
  refine wm_iload_n hC 1 (pc := 5) dX8_count_5 rfl rfl ?_
  refine wm_bipush hC (pc := 6) dX8_count_6 (by decide) ?_
  refine wm_icmp_lt hC 28 (pc := 8) dX8_count_8 (by decide) (by omega) (by omega) (fun h8 => ?_) (fun h8 => ?_)
  · refine wm_iload_n hC 1 (pc := 28) dX8_count_28 rfl rfl ?_
    by_cases sw29_0 : c = 0
    · refine wm_tableIn hC 60 (0) (pc := 29) dX8_count_29 sw29_0 (by decide) rfl (by decide) ?_
      refine wm_aload_n hC 0 (pc := 60) dX8_count_60 rfl rfl ?_
      refine wm_getR hC fl_X8_10_7 rfl rfl (pc := 61) dX8_count_61 ?_
      refine wm_pV hC cv_X8_115 kc_X3_lastingStates rfl rfl (s_X3_lastingStates planIx1 (hI.1 0 (by decide))) rfl (by decide) rfl (Nat.le_of_ble_eq_true rfl) (pc := 64) dX8_count_64 ?_
      refine wm_aload_n hC 0 (pc := 67) dX8_count_67 rfl rfl ?_
      refine wm_getR hC fl_X8_16_7 rfl rfl (pc := 68) dX8_count_68 ?_
      refine wm_pV hC cv_X8_115 kc_X3_lastingStates rfl rfl (s_X3_lastingStates planIx3 (hI.1 1 (by decide))) rfl (by decide) rfl (Nat.le_of_ble_eq_true rfl) (pc := 71) dX8_count_71 ?_
      refine wm_iadd hC (pc := 74) dX8_count_74 ?_
      refine wm_aload_n hC 0 (pc := 75) dX8_count_75 rfl rfl ?_
      refine wm_getR hC fl_X8_19_7 rfl rfl (pc := 76) dX8_count_76 ?_
      refine wm_pV hC cv_X8_115 kc_X3_lastingStates rfl rfl (s_X3_lastingStates planIx5 (hI.1 2 (by decide))) rfl (by decide) rfl (Nat.le_of_ble_eq_true rfl) (pc := 79) dX8_count_79 ?_
      refine wm_iadd hC (pc := 82) dX8_count_82 ?_
      refine wm_iretI hC (pc := 83) dX8_count_83 ?_
      refine ⟨?_, fun i _ => rfl⟩
      unfold countF
      rw [if_neg (by omega), if_pos sw29_0]
      rfl
    by_cases sw29_1 : c = 1
    · refine wm_tableIn hC 84 (1) (pc := 29) dX8_count_29 sw29_1 (by decide) rfl (by decide) ?_
      refine wm_aload_n hC 0 (pc := 84) dX8_count_84 rfl rfl ?_
      refine wm_getR hC fl_X8_10_7 rfl rfl (pc := 85) dX8_count_85 ?_
      refine wm_pV hC cv_X8_206 kc_X3_arrows rfl rfl (s_X3_arrows planIx1 (hI.1 0 (by decide))) rfl (by decide) rfl (Nat.le_of_ble_eq_true rfl) (pc := 88) dX8_count_88 ?_
      refine wm_aload_n hC 0 (pc := 91) dX8_count_91 rfl rfl ?_
      refine wm_getR hC fl_X8_16_7 rfl rfl (pc := 92) dX8_count_92 ?_
      refine wm_pV hC cv_X8_206 kc_X3_arrows rfl rfl (s_X3_arrows planIx3 (hI.1 1 (by decide))) rfl (by decide) rfl (Nat.le_of_ble_eq_true rfl) (pc := 95) dX8_count_95 ?_
      refine wm_iadd hC (pc := 98) dX8_count_98 ?_
      refine wm_aload_n hC 0 (pc := 99) dX8_count_99 rfl rfl ?_
      refine wm_getR hC fl_X8_19_7 rfl rfl (pc := 100) dX8_count_100 ?_
      refine wm_pV hC cv_X8_206 kc_X3_arrows rfl rfl (s_X3_arrows planIx5 (hI.1 2 (by decide))) rfl (by decide) rfl (Nat.le_of_ble_eq_true rfl) (pc := 103) dX8_count_103 ?_
      refine wm_iadd hC (pc := 106) dX8_count_106 ?_
      refine wm_iretI hC (pc := 107) dX8_count_107 ?_
      refine ⟨?_, fun i _ => rfl⟩
      unfold countF
      rw [if_neg (by omega), if_neg sw29_0, if_pos sw29_1]
      rfl
    by_cases sw29_2 : c = 2
    · refine wm_tableIn hC 108 (2) (pc := 29) dX8_count_29 sw29_2 (by decide) rfl (by decide) ?_
      refine wm_aload_n hC 0 (pc := 108) dX8_count_108 rfl rfl ?_
      refine wm_getR hC fl_X8_25_7 rfl rfl (pc := 109) dX8_count_109 ?_
      refine wm_pV hC cv_X8_209 kc_X0_size rfl rfl (s_X0_size) rfl (by decide) rfl (Nat.le_of_ble_eq_true rfl) (pc := 112) dX8_count_112 ?_
      refine wm_iretI hC (pc := 115) dX8_count_115 ?_
      refine ⟨?_, fun i _ => rfl⟩
      unfold countF
      rw [if_neg (by omega), if_neg sw29_0, if_neg sw29_1, if_pos sw29_2]
    by_cases sw29_3 : c = 3
    · refine wm_tableIn hC 116 (3) (pc := 29) dX8_count_29 sw29_3 (by decide) rfl (by decide) ?_
      refine wm_aload_n hC 0 (pc := 116) dX8_count_116 rfl rfl ?_
      refine wm_getR hC fl_X8_32_7 rfl rfl (pc := 117) dX8_count_117 ?_
      refine wm_pV hC cv_X8_210 kc_X4_length rfl rfl (s_X4_length) rfl (by decide) rfl (Nat.le_of_ble_eq_true rfl) (pc := 120) dX8_count_120 ?_
      refine wm_iretI hC (pc := 123) dX8_count_123 ?_
      refine ⟨?_, fun i _ => rfl⟩
      unfold countF
      rw [if_neg (by omega), if_neg sw29_0, if_neg sw29_1, if_neg sw29_2, if_pos sw29_3]
    refine wm_tableOut hC 124 (pc := 29) dX8_count_29 (by decide) (by omega) (by omega) ?_
    refine wm_ldc hC (-1000001) kI_X8_76 (pc := 124) dX8_count_124 ?_
    refine wm_iretI hC (pc := 126) dX8_count_126 ?_
    refine ⟨?_, fun i _ => rfl⟩
    unfold countF
    rw [if_neg (by omega), if_neg sw29_0, if_neg sw29_1, if_neg sw29_2, if_neg sw29_3]
  · refine wm_iload_n hC 1 (pc := 11) dX8_count_11 rfl rfl ?_
    refine wm_bipush hC (pc := 12) dX8_count_12 (by decide) ?_
    refine wm_icmp_ge hC 28 (pc := 14) dX8_count_14 (by decide) (by omega) (by omega) (fun h14 => ?_) (fun h14 => ?_)
    · refine wm_iload_n hC 1 (pc := 28) dX8_count_28 rfl rfl ?_
      by_cases sw29_0 : c = 0
      · refine wm_tableIn hC 60 (0) (pc := 29) dX8_count_29 sw29_0 (by decide) rfl (by decide) ?_
        refine wm_aload_n hC 0 (pc := 60) dX8_count_60 rfl rfl ?_
        refine wm_getR hC fl_X8_10_7 rfl rfl (pc := 61) dX8_count_61 ?_
        refine wm_pV hC cv_X8_115 kc_X3_lastingStates rfl rfl (s_X3_lastingStates planIx1 (hI.1 0 (by decide))) rfl (by decide) rfl (Nat.le_of_ble_eq_true rfl) (pc := 64) dX8_count_64 ?_
        refine wm_aload_n hC 0 (pc := 67) dX8_count_67 rfl rfl ?_
        refine wm_getR hC fl_X8_16_7 rfl rfl (pc := 68) dX8_count_68 ?_
        refine wm_pV hC cv_X8_115 kc_X3_lastingStates rfl rfl (s_X3_lastingStates planIx3 (hI.1 1 (by decide))) rfl (by decide) rfl (Nat.le_of_ble_eq_true rfl) (pc := 71) dX8_count_71 ?_
        refine wm_iadd hC (pc := 74) dX8_count_74 ?_
        refine wm_aload_n hC 0 (pc := 75) dX8_count_75 rfl rfl ?_
        refine wm_getR hC fl_X8_19_7 rfl rfl (pc := 76) dX8_count_76 ?_
        refine wm_pV hC cv_X8_115 kc_X3_lastingStates rfl rfl (s_X3_lastingStates planIx5 (hI.1 2 (by decide))) rfl (by decide) rfl (Nat.le_of_ble_eq_true rfl) (pc := 79) dX8_count_79 ?_
        refine wm_iadd hC (pc := 82) dX8_count_82 ?_
        refine wm_iretI hC (pc := 83) dX8_count_83 ?_
        refine ⟨?_, fun i _ => rfl⟩
        unfold countF
        rw [if_neg (by omega), if_pos sw29_0]
        rfl
      by_cases sw29_1 : c = 1
      · refine wm_tableIn hC 84 (1) (pc := 29) dX8_count_29 sw29_1 (by decide) rfl (by decide) ?_
        refine wm_aload_n hC 0 (pc := 84) dX8_count_84 rfl rfl ?_
        refine wm_getR hC fl_X8_10_7 rfl rfl (pc := 85) dX8_count_85 ?_
        refine wm_pV hC cv_X8_206 kc_X3_arrows rfl rfl (s_X3_arrows planIx1 (hI.1 0 (by decide))) rfl (by decide) rfl (Nat.le_of_ble_eq_true rfl) (pc := 88) dX8_count_88 ?_
        refine wm_aload_n hC 0 (pc := 91) dX8_count_91 rfl rfl ?_
        refine wm_getR hC fl_X8_16_7 rfl rfl (pc := 92) dX8_count_92 ?_
        refine wm_pV hC cv_X8_206 kc_X3_arrows rfl rfl (s_X3_arrows planIx3 (hI.1 1 (by decide))) rfl (by decide) rfl (Nat.le_of_ble_eq_true rfl) (pc := 95) dX8_count_95 ?_
        refine wm_iadd hC (pc := 98) dX8_count_98 ?_
        refine wm_aload_n hC 0 (pc := 99) dX8_count_99 rfl rfl ?_
        refine wm_getR hC fl_X8_19_7 rfl rfl (pc := 100) dX8_count_100 ?_
        refine wm_pV hC cv_X8_206 kc_X3_arrows rfl rfl (s_X3_arrows planIx5 (hI.1 2 (by decide))) rfl (by decide) rfl (Nat.le_of_ble_eq_true rfl) (pc := 103) dX8_count_103 ?_
        refine wm_iadd hC (pc := 106) dX8_count_106 ?_
        refine wm_iretI hC (pc := 107) dX8_count_107 ?_
        refine ⟨?_, fun i _ => rfl⟩
        unfold countF
        rw [if_neg (by omega), if_neg sw29_0, if_pos sw29_1]
        rfl
      by_cases sw29_2 : c = 2
      · refine wm_tableIn hC 108 (2) (pc := 29) dX8_count_29 sw29_2 (by decide) rfl (by decide) ?_
        refine wm_aload_n hC 0 (pc := 108) dX8_count_108 rfl rfl ?_
        refine wm_getR hC fl_X8_25_7 rfl rfl (pc := 109) dX8_count_109 ?_
        refine wm_pV hC cv_X8_209 kc_X0_size rfl rfl (s_X0_size) rfl (by decide) rfl (Nat.le_of_ble_eq_true rfl) (pc := 112) dX8_count_112 ?_
        refine wm_iretI hC (pc := 115) dX8_count_115 ?_
        refine ⟨?_, fun i _ => rfl⟩
        unfold countF
        rw [if_neg (by omega), if_neg sw29_0, if_neg sw29_1, if_pos sw29_2]
      by_cases sw29_3 : c = 3
      · refine wm_tableIn hC 116 (3) (pc := 29) dX8_count_29 sw29_3 (by decide) rfl (by decide) ?_
        refine wm_aload_n hC 0 (pc := 116) dX8_count_116 rfl rfl ?_
        refine wm_getR hC fl_X8_32_7 rfl rfl (pc := 117) dX8_count_117 ?_
        refine wm_pV hC cv_X8_210 kc_X4_length rfl rfl (s_X4_length) rfl (by decide) rfl (Nat.le_of_ble_eq_true rfl) (pc := 120) dX8_count_120 ?_
        refine wm_iretI hC (pc := 123) dX8_count_123 ?_
        refine ⟨?_, fun i _ => rfl⟩
        unfold countF
        rw [if_neg (by omega), if_neg sw29_0, if_neg sw29_1, if_neg sw29_2, if_pos sw29_3]
      refine wm_tableOut hC 124 (pc := 29) dX8_count_29 (by decide) (by omega) (by omega) ?_
      refine wm_ldc hC (-1000001) kI_X8_76 (pc := 124) dX8_count_124 ?_
      refine wm_iretI hC (pc := 126) dX8_count_126 ?_
      refine ⟨?_, fun i _ => rfl⟩
      unfold countF
      rw [if_neg (by omega), if_neg sw29_0, if_neg sw29_1, if_neg sw29_2, if_neg sw29_3]
    · refine wm_aload_n hC 0 (pc := 17) dX8_count_17 rfl rfl ?_
      refine wm_iload_n hC 2 (pc := 18) dX8_count_18 rfl rfl ?_
      refine wm_iconst hC (pc := 19) dX8_count_19 ?_
      refine wm_idiv hC (pc := 20) dX8_count_20 (by omega) (by omega) ?_
      refine wm_iload_n hC 2 (pc := 21) dX8_count_21 rfl rfl ?_
      refine wm_iconst hC (pc := 22) dX8_count_22 ?_
      refine wm_irem hC (pc := 23) dX8_count_23 (by omega) (by omega) ?_
      refine wm_iV hC cv_X8_203 kc_X8_standsIn rfl rfl (s_X8_standsIn hI (by omega) (by omega)) rfl (by decide) rfl (Nat.le_of_ble_eq_true rfl) (pc := 24) dX8_count_24 (fun z24 w24 hw24 => ?_)
      refine wm_iretI hC (pc := 27) dX8_count_27 ?_
      rcases hw24 with hw24 | hw24
      · exact absurd (by omega) hw24.1
      · refine ⟨?_, hw24.2.2⟩
        unfold countF
        rw [if_pos (by omega)]
        exact hw24.2.1
