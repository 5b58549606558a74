/-! the reference: answers of pairs -/
def wntF (U : mW) (p q : Nat) (B : Bf) (i : Int) : Int := if kdF U p (bP B i / 8) = 0 ∨ ¬ kdF U p (bP B i / 8) = kdF U q (bP B i % 8) then -1000004 else lkV (lackF (kdF U p (bP B i / 8)) (msk U p (bP B i / 8)) (msk U q (bP B i % 8)))
def wntT (U : mW) (p q : Nat) (B : Bf) (i : Int) : Int := if rsnB rsnS U p q B i = 3 then wntF U p q B i else -1000004
def ragB (U : mW) (p q : Nat) (B : Bf) (i c : Int) : Int := if i < 0 then -1000004 else (if c = 0 then bL B i else if c = 1 then bP B i / 8 else if c = 2 then bP B i % 8 else if c = 3 then rsnB rsnS U p q B i else if c = 4 then wntT U p q B i else rwF B i (c - 10))
theorem rpairB_n {U : mW} {p q : Nat} {B : Bf} {i c : Int} (h : ¬ (0 ≤ i ∧ i < bN B)) : rpairB U p q B i c = -1000004 := by unfold rpairB; rw [if_neg h]
theorem rpairB_0 {U : mW} {p q : Nat} {B : Bf} {i c : Int} (h : 0 ≤ i ∧ i < bN B) (h0 : c = 0) : rpairB U p q B i c = bP B i / 8 := by unfold rpairB; rw [if_pos h, if_pos h0]
theorem rpairB_1 {U : mW} {p q : Nat} {B : Bf} {i c : Int} (h : 0 ≤ i ∧ i < bN B) (h0 : ¬ c = 0) (h1 : c = 1) : rpairB U p q B i c = bP B i % 8 := by unfold rpairB; rw [if_pos h, if_neg h0, if_pos h1]
theorem rpairB_2 {U : mW} {p q : Nat} {B : Bf} {i c : Int} (h : 0 ≤ i ∧ i < bN B) (h0 : ¬ c = 0) (h1 : ¬ c = 1) (h2 : c = 2) : rpairB U p q B i c = bL B i := by unfold rpairB; rw [if_pos h, if_neg h0, if_neg h1, if_pos h2]
theorem rpairB_3 {U : mW} {p q : Nat} {B : Bf} {i c : Int} (h : 0 ≤ i ∧ i < bN B) (h0 : ¬ c = 0) (h1 : ¬ c = 1) (h2 : ¬ c = 2) (h3 : c = 3) : rpairB U p q B i c = rsnB rsnT U p q B i := by unfold rpairB; rw [if_pos h, if_neg h0, if_neg h1, if_neg h2, if_pos h3]
theorem rpairB_4 {U : mW} {p q : Nat} {B : Bf} {i c : Int} (h : 0 ≤ i ∧ i < bN B) (h0 : ¬ c = 0) (h1 : ¬ c = 1) (h2 : ¬ c = 2) (h3 : ¬ c = 3) (h4 : c = 4) : rpairB U p q B i c = mssF U p q B i := by unfold rpairB; rw [if_pos h, if_neg h0, if_neg h1, if_neg h2, if_neg h3, if_pos h4]
theorem rpairB_5 {U : mW} {p q : Nat} {B : Bf} {i c : Int} (h : 0 ≤ i ∧ i < bN B) (h0 : ¬ c = 0) (h1 : ¬ c = 1) (h2 : ¬ c = 2) (h3 : ¬ c = 3) (h4 : ¬ c = 4) : rpairB U p q B i c = rwF B i (c - 10) := by unfold rpairB; rw [if_pos h, if_neg h0, if_neg h1, if_neg h2, if_neg h3, if_neg h4]
theorem ragB_n {U : mW} {p q : Nat} {B : Bf} {i c : Int} (h : i < 0) : ragB U p q B i c = -1000004 := by unfold ragB; rw [if_pos h]
theorem ragB_0 {U : mW} {p q : Nat} {B : Bf} {i c : Int} (h : ¬ i < 0) (h0 : c = 0) : ragB U p q B i c = bL B i := by unfold ragB; rw [if_neg h, if_pos h0]
theorem ragB_1 {U : mW} {p q : Nat} {B : Bf} {i c : Int} (h : ¬ i < 0) (h0 : ¬ c = 0) (h1 : c = 1) : ragB U p q B i c = bP B i / 8 := by unfold ragB; rw [if_neg h, if_neg h0, if_pos h1]
theorem ragB_2 {U : mW} {p q : Nat} {B : Bf} {i c : Int} (h : ¬ i < 0) (h0 : ¬ c = 0) (h1 : ¬ c = 1) (h2 : c = 2) : ragB U p q B i c = bP B i % 8 := by unfold ragB; rw [if_neg h, if_neg h0, if_neg h1, if_pos h2]
theorem ragB_3 {U : mW} {p q : Nat} {B : Bf} {i c : Int} (h : ¬ i < 0) (h0 : ¬ c = 0) (h1 : ¬ c = 1) (h2 : ¬ c = 2) (h3 : c = 3) : ragB U p q B i c = rsnB rsnS U p q B i := by unfold ragB; rw [if_neg h, if_neg h0, if_neg h1, if_neg h2, if_pos h3]
theorem ragB_4 {U : mW} {p q : Nat} {B : Bf} {i c : Int} (h : ¬ i < 0) (h0 : ¬ c = 0) (h1 : ¬ c = 1) (h2 : ¬ c = 2) (h3 : ¬ c = 3) (h4 : c = 4) : ragB U p q B i c = wntT U p q B i := by unfold ragB; rw [if_neg h, if_neg h0, if_neg h1, if_neg h2, if_neg h3, if_pos h4]
theorem ragB_5 {U : mW} {p q : Nat} {B : Bf} {i c : Int} (h : ¬ i < 0) (h0 : ¬ c = 0) (h1 : ¬ c = 1) (h2 : ¬ c = 2) (h3 : ¬ c = 3) (h4 : ¬ c = 4) : ragB U p q B i c = rwF B i (c - 10) := by unfold ragB; rw [if_neg h, if_neg h0, if_neg h1, if_neg h2, if_neg h3, if_neg h4]
def rkeep (w u : mW) : Prop := (∀ a : Nat, a ≠ 31 → (a < 36 ∨ 42 < a) → u a = w a) ∧ ∀ b : Int, b ≠ 11 → u 31 b = w 31 b
theorem rwalk.keep {w u : mW} {B : Bf} (h : rwalk w u B) : rkeep w u := ⟨fun a h1 h2 => h.1 a h1 (by omega), h.2.1⟩
theorem rkeep.refl (w : mW) : rkeep w w := ⟨fun _ _ _ => rfl, fun _ _ => rfl⟩
theorem rwalk.stT {w u : mW} {p q : Nat} (h : rwalk w u (bfs (nxF (togX true) (rv w) (2 * p + 1) (2 * q + 1)))) (hR : RPl w) (hp : p < 3) (hq : q < 3) : RSt2 u p q (bT (rv w) (2 * p + 1) (2 * q + 1)) := by
  rw [togX_t] at h
  exact ⟨hR.congr (rwalk_keep h), hp, hq, h.2.2, bfs_inv (nxF_ok (hR.ok hp) (hR.ok hq))⟩
theorem rwalk.stS {w u : mW} {p q : Nat} (h : rwalk w u (bfs (nxF (togX false) (rv w) (2 * p + 1) (2 * q + 1)))) (hR : RPl w) (hp : p < 3) (hq : q < 3) : RSt2 u p q (bSt (rv w) (2 * p + 1) (2 * q + 1)) := by
  rw [togX_f] at h
  exact ⟨hR.congr (rwalk_keep h), hp, hq, h.2.2, bfs_inv (nxF_ok (hR.ok hp) (hR.ok hq))⟩
theorem rwF_rng {B : Bf} : True := trivial
set_option maxRecDepth 100000 in
set_option maxHeartbeats 200000 in
theorem s_X9_pairOf {l : Launch} {G : mG} {w : mW} {a b c e : Int} (hI : RInv w) (ha : -2147483648 ≤ a ∧ a < 2147483648) (hb : -2147483648 ≤ b ∧ b < 2147483648) (hc : -2147483648 ≤ c ∧ c < 2147483648) (he : -2147483648 ≤ e ∧ e < 2147483648) : Mx l G 7 yX9_pairOf cX9_pairOf 6 (some .int) [mvR 31, mvI a, mvI b, mvI c, mvI e] w (qI (fun z w' => (¬ (0 ≤ a ∧ a < 3 ∧ 0 ≤ b ∧ b < 3 ∧ -1 ≤ c ∧ ((0 ≤ e ∧ e ≤ 4) ∨ (10 ≤ e ∧ e < 74))) ∧ z = -1000001 ∧ w' = w) ∨ ((0 ≤ a ∧ a < 3 ∧ 0 ≤ b ∧ b < 3 ∧ -1 ≤ c ∧ ((0 ≤ e ∧ e ≤ 4) ∨ (10 ≤ e ∧ e < 74))) ∧ (∃ i : Int, ((c < 0 ∧ i = faultB rsnT (rv w) (2 * a.toNat + 1) (2 * b.toNat + 1) (bT (rv w) (2 * a.toNat + 1) (2 * b.toNat + 1))) ∨ (¬ c < 0 ∧ i = c)) ∧ z = rpairB (rv w) (2 * a.toNat + 1) (2 * b.toNat + 1) (bT (rv w) (2 * a.toNat + 1) (2 * b.toNat + 1)) i e) ∧ rkeep w w'))) := by
  refine Mx.intro (by decide) RX9 rfl [some (mvR 31), some (mvI a), some (mvI b), some (mvI c), some (mvI e), none] (Nat.le_of_ble_eq_true rfl) rfl (fun K hC => ?_)
  refine wm_iload_n hC 1 (pc := 0) dX9_pairOf_0 rfl rfl ?_
  refine wm_pS hC cs_X9_74 kc_X9_isPlan (s_X9_isPlan (by omega)) rfl (by decide) rfl (Nat.le_of_ble_eq_true rfl) (pc := 1) dX9_pairOf_1 ?_
  refine wm_ifd_eq hC 28 (pc := 4) dX9_pairOf_4 (by decide) (fun h4 => ?_) (fun h4 => ?_)
  · refine wm_ldc hC (-1000001) kI_X9_81 (pc := 28) dX9_pairOf_28 ?_
    refine wm_iretI hC (pc := 30) dX9_pairOf_30 ?_
    left
    exact ⟨by omega, rfl, rfl⟩
  · refine wm_iload_n hC 2 (pc := 7) dX9_pairOf_7 rfl rfl ?_
    refine wm_pS hC cs_X9_74 kc_X9_isPlan (s_X9_isPlan (by omega)) rfl (by decide) rfl (Nat.le_of_ble_eq_true rfl) (pc := 8) dX9_pairOf_8 ?_
    refine wm_ifd_eq hC 28 (pc := 11) dX9_pairOf_11 (by decide) (fun h11 => ?_) (fun h11 => ?_)
    · refine wm_ldc hC (-1000001) kI_X9_81 (pc := 28) dX9_pairOf_28 ?_
      refine wm_iretI hC (pc := 30) dX9_pairOf_30 ?_
      left
      exact ⟨by omega, rfl, rfl⟩
    · refine wm_iload_n hC 3 (pc := 14) dX9_pairOf_14 rfl rfl ?_
      refine wm_iconst hC (pc := 15) dX9_pairOf_15 ?_
      refine wm_icmp_lt hC 28 (pc := 16) dX9_pairOf_16 (by decide) (by omega) (by omega) (fun h16 => ?_) (fun h16 => ?_)
      · refine wm_ldc hC (-1000001) kI_X9_81 (pc := 28) dX9_pairOf_28 ?_
        refine wm_iretI hC (pc := 30) dX9_pairOf_30 ?_
        left
        exact ⟨by omega, rfl, rfl⟩
      · refine wm_iload hC  (pc := 19) dX9_pairOf_19 rfl ?_
        refine wm_iconst hC (pc := 21) dX9_pairOf_21 ?_
        refine wm_pS hC cs_X9_150 kc_X9_isRowAsked (s_X9_isRowAsked (by omega) (by omega)) rfl (by decide) rfl (Nat.le_of_ble_eq_true rfl) (pc := 22) dX9_pairOf_22 ?_
        refine wm_ifd_ne hC 31 (pc := 25) dX9_pairOf_25 (by decide) (fun h25 => ?_) (fun h25 => ?_)
        · obtain ⟨p, rfl⟩ : ∃ p : Nat, a = (p : Int) := ⟨a.toNat, by omega⟩
          have hp : p < 3 := by omega
          obtain ⟨q, rfl⟩ : ∃ q : Nat, b = (q : Int) := ⟨b.toNat, by omega⟩
          have hq : q < 3 := by omega
          refine wm_aload_n hC 0 (pc := 31) dX9_pairOf_31 rfl rfl ?_
          refine wm_iload_n hC 1 (pc := 32) dX9_pairOf_32 rfl rfl ?_
          refine wm_iload_n hC 2 (pc := 33) dX9_pairOf_33 rfl rfl ?_
          refine wm_iconst hC (pc := 34) dX9_pairOf_34 ?_
          refine wm_vV hC cv_X9_154 kc_X9_goThrough rfl rfl (s_X9_goThrough hp hq hI.1 (tk := true)) rfl (by decide) rfl (Nat.le_of_ble_eq_true rfl) (pc := 35) dX9_pairOf_35 (fun w35 hw35 => ?_)
          have hS := hw35.stT hI.1 hp hq
          have hle := hS.2.2.2.2.le
          refine wm_iload_n hC 3 (pc := 38) dX9_pairOf_38 rfl rfl ?_
          refine wm_if_ge hC 51 (pc := 39) dX9_pairOf_39 (by decide) (by omega) (fun h39 => ?_) (fun h39 => ?_)
          · have hi5 : (c < 0 ∧ c = faultB rsnT (rv w) (2 * p + 1) (2 * q + 1) (bT (rv w) (2 * p + 1) (2 * q + 1))) ∨ (¬ c < 0 ∧ c = c) := Or.inr ⟨by omega, rfl⟩
            have hPi := fun h0 h1 => (hS.2.2.2.2.2.2.1 c h0 h1).1
            refine wm_iload_n hC 3 (pc := 51) dX9_pairOf_51 rfl rfl ?_
            refine wm_istore hC  (pc := 52) dX9_pairOf_52  (by decide) rfl ?_
            refine wm_iload hC  (pc := 54) dX9_pairOf_54 rfl ?_
            refine wm_iconst hC (pc := 56) dX9_pairOf_56 ?_
            refine wm_aload_n hC 0 (pc := 57) dX9_pairOf_57 rfl rfl ?_
            refine wm_getI hC 31 11 fl_X9_122_8 rfl rfl rfl (pc := 58) dX9_pairOf_58 ?_
            refine wm_iconst hC (pc := 61) dX9_pairOf_61 ?_
            refine wm_isub hC (pc := 62) dX9_pairOf_62 ?_
            refine wm_pS hC cs_X9_59 kc_X9_in (s_X9_in (by omega) (by omega) (by rw [hS.2.2.2.1.1]; omega)) rfl (by decide) rfl (Nat.le_of_ble_eq_true rfl) (pc := 63) dX9_pairOf_63 ?_
            rw [hS.2.2.2.1.1]
            refine wm_ifd_ne hC 72 (pc := 66) dX9_pairOf_66 (by decide) (fun h66 => ?_) (fun h66 => ?_)
            · refine wm_iload hC  (pc := 72) dX9_pairOf_72 rfl ?_
              by_cases sw74_0 : e = 0
              · refine wm_tableIn hC 108 (0) (pc := 74) dX9_pairOf_74 sw74_0 (by decide) rfl (by decide) ?_
                refine wm_aload_n hC 0 (pc := 108) dX9_pairOf_108 rfl rfl ?_
                refine wm_getR hC fl_X9_23_8 rfl rfl (pc := 109) dX9_pairOf_109 ?_
                refine wm_iload hC  (pc := 112) dX9_pairOf_112 rfl ?_
                refine wm_iaload hC rfl (by omega) (by decide) (pc := 114) dX9_pairOf_114 ?_
                rw [(hS.2.2.2.1.2.1 _ (by omega) (by omega)).1]
                have hPr := hPi (by omega) (by omega)
                refine wm_bipush hC (pc := 115) dX9_pairOf_115 (by decide) ?_
                refine wm_idiv hC (pc := 117) dX9_pairOf_117 (by omega) (by omega) ?_
                refine wm_iretI hC (pc := 118) dX9_pairOf_118 ?_
                right
                refine ⟨by omega, ?_, hw35.keep⟩
                rw [Int.toNat_natCast p, Int.toNat_natCast q]
                exact ⟨_, hi5, (rpairB_0 (by omega) sw74_0).symm⟩
              by_cases sw74_1 : e = 1
              · refine wm_tableIn hC 119 (1) (pc := 74) dX9_pairOf_74 sw74_1 (by decide) rfl (by decide) ?_
                refine wm_aload_n hC 0 (pc := 119) dX9_pairOf_119 rfl rfl ?_
                refine wm_getR hC fl_X9_23_8 rfl rfl (pc := 120) dX9_pairOf_120 ?_
                refine wm_iload hC  (pc := 123) dX9_pairOf_123 rfl ?_
                refine wm_iaload hC rfl (by omega) (by decide) (pc := 125) dX9_pairOf_125 ?_
                rw [(hS.2.2.2.1.2.1 _ (by omega) (by omega)).1]
                have hPr := hPi (by omega) (by omega)
                refine wm_bipush hC (pc := 126) dX9_pairOf_126 (by decide) ?_
                refine wm_irem hC (pc := 128) dX9_pairOf_128 (by omega) (by omega) ?_
                refine wm_iretI hC (pc := 129) dX9_pairOf_129 ?_
                right
                refine ⟨by omega, ?_, hw35.keep⟩
                rw [Int.toNat_natCast p, Int.toNat_natCast q]
                exact ⟨_, hi5, (rpairB_1 (by omega) sw74_0 sw74_1).symm⟩
              by_cases sw74_2 : e = 2
              · refine wm_tableIn hC 130 (2) (pc := 74) dX9_pairOf_74 sw74_2 (by decide) rfl (by decide) ?_
                refine wm_aload_n hC 0 (pc := 130) dX9_pairOf_130 rfl rfl ?_
                refine wm_getR hC fl_X9_32_8 rfl rfl (pc := 131) dX9_pairOf_131 ?_
                refine wm_iload hC  (pc := 134) dX9_pairOf_134 rfl ?_
                refine wm_iaload hC rfl (by omega) (by decide) (pc := 136) dX9_pairOf_136 ?_
                rw [(hS.2.2.2.1.2.1 _ (by omega) (by omega)).2.1]
                refine wm_iretI hC (pc := 137) dX9_pairOf_137 ?_
                right
                refine ⟨by omega, ?_, hw35.keep⟩
                rw [Int.toNat_natCast p, Int.toNat_natCast q]
                exact ⟨_, hi5, (rpairB_2 (by omega) sw74_0 sw74_1 sw74_2).symm⟩
              by_cases sw74_3 : e = 3
              · refine wm_tableIn hC 138 (3) (pc := 74) dX9_pairOf_74 sw74_3 (by decide) rfl (by decide) ?_
                refine wm_aload_n hC 0 (pc := 138) dX9_pairOf_138 rfl rfl ?_
                refine wm_iload_n hC 1 (pc := 139) dX9_pairOf_139 rfl rfl ?_
                refine wm_iload_n hC 2 (pc := 140) dX9_pairOf_140 rfl rfl ?_
                refine wm_iload hC  (pc := 141) dX9_pairOf_141 rfl ?_
                refine wm_pV hC cv_X9_147 kc_X9_why rfl rfl (s_X9_why hS (by omega)) rfl (by decide) rfl (Nat.le_of_ble_eq_true rfl) (pc := 143) dX9_pairOf_143 ?_
                rw [rv_congr (rwalk_keep hw35)]
                refine wm_iretI hC (pc := 146) dX9_pairOf_146 ?_
                right
                refine ⟨by omega, ?_, hw35.keep⟩
                rw [Int.toNat_natCast p, Int.toNat_natCast q]
                exact ⟨_, hi5, (rpairB_3 (by omega) sw74_0 sw74_1 sw74_2 sw74_3).symm⟩
              by_cases sw74_4 : e = 4
              · refine wm_tableIn hC 147 (4) (pc := 74) dX9_pairOf_74 sw74_4 (by decide) rfl (by decide) ?_
                refine wm_aload_n hC 0 (pc := 147) dX9_pairOf_147 rfl rfl ?_
                refine wm_iload_n hC 1 (pc := 148) dX9_pairOf_148 rfl rfl ?_
                refine wm_iload_n hC 2 (pc := 149) dX9_pairOf_149 rfl rfl ?_
                refine wm_iload hC  (pc := 150) dX9_pairOf_150 rfl ?_
                refine wm_pV hC cv_X9_144 kc_X9_missing rfl rfl (s_X9_missing hS (by omega)) rfl (by decide) rfl (Nat.le_of_ble_eq_true rfl) (pc := 152) dX9_pairOf_152 ?_
                rw [rv_congr (rwalk_keep hw35)]
                refine wm_iretI hC (pc := 155) dX9_pairOf_155 ?_
                right
                refine ⟨by omega, ?_, hw35.keep⟩
                rw [Int.toNat_natCast p, Int.toNat_natCast q]
                exact ⟨_, hi5, (rpairB_4 (by omega) sw74_0 sw74_1 sw74_2 sw74_3 sw74_4).symm⟩
              refine wm_tableOut hC 156 (pc := 74) dX9_pairOf_74 (by decide) (by omega) (by omega) ?_
              refine wm_aload_n hC 0 (pc := 156) dX9_pairOf_156 rfl rfl ?_
              refine wm_iload hC  (pc := 157) dX9_pairOf_157 rfl ?_
              refine wm_iload hC  (pc := 159) dX9_pairOf_159 rfl ?_
              refine wm_bipush hC (pc := 161) dX9_pairOf_161 (by decide) ?_
              refine wm_isub hC (pc := 163) dX9_pairOf_163 ?_
              refine wm_pV hC cv_X9_161 kc_X9_wordOf rfl rfl (s_X9_wordOf hS (by omega) (by omega)) rfl (by decide) rfl (Nat.le_of_ble_eq_true rfl) (pc := 164) dX9_pairOf_164 ?_
              refine wm_iretI hC (pc := 167) dX9_pairOf_167 ?_
              right
              refine ⟨by omega, ?_, hw35.keep⟩
              rw [Int.toNat_natCast p, Int.toNat_natCast q]
              exact ⟨_, hi5, (rpairB_5 (by omega) sw74_0 sw74_1 sw74_2 sw74_3 sw74_4).symm⟩
            · refine wm_ldc hC (-1000004) kI_X9_121 (pc := 69) dX9_pairOf_69 ?_
              refine wm_iretI hC (pc := 71) dX9_pairOf_71 ?_
              right
              refine ⟨by omega, ?_, hw35.keep⟩
              rw [Int.toNat_natCast p, Int.toNat_natCast q]
              exact ⟨_, hi5, (rpairB_n (by omega)).symm⟩
          · refine wm_aload_n hC 0 (pc := 42) dX9_pairOf_42 rfl rfl ?_
            refine wm_iload_n hC 1 (pc := 43) dX9_pairOf_43 rfl rfl ?_
            refine wm_iload_n hC 2 (pc := 44) dX9_pairOf_44 rfl rfl ?_
            refine wm_pV hC cv_X9_158 kc_X9_firstStuck rfl rfl (s_X9_firstStuck hS) rfl (by decide) rfl (Nat.le_of_ble_eq_true rfl) (pc := 45) dX9_pairOf_45 ?_
            rw [rv_congr (rwalk_keep hw35)]
            have hi5 : (c < 0 ∧ faultB rsnT (rv w) (2 * p + 1) (2 * q + 1) (bT (rv w) (2 * p + 1) (2 * q + 1)) = faultB rsnT (rv w) (2 * p + 1) (2 * q + 1) (bT (rv w) (2 * p + 1) (2 * q + 1))) ∨ (¬ c < 0 ∧ faultB rsnT (rv w) (2 * p + 1) (2 * q + 1) (bT (rv w) (2 * p + 1) (2 * q + 1)) = c) := Or.inl ⟨by omega, rfl⟩
            have hPi := fun h0 h1 => (hS.2.2.2.2.2.2.1 (faultB rsnT (rv w) (2 * p + 1) (2 * q + 1) (bT (rv w) (2 * p + 1) (2 * q + 1))) h0 h1).1
            have hfr := faultB_rng rsnT (rv w) (2 * p + 1) (2 * q + 1) hS.2.2.2.2
            refine wm_goto hC 52 (pc := 48) dX9_pairOf_48 (by decide) ?_
            refine wm_istore hC  (pc := 52) dX9_pairOf_52  (by decide) rfl ?_
            refine wm_iload hC  (pc := 54) dX9_pairOf_54 rfl ?_
            refine wm_iconst hC (pc := 56) dX9_pairOf_56 ?_
            refine wm_aload_n hC 0 (pc := 57) dX9_pairOf_57 rfl rfl ?_
            refine wm_getI hC 31 11 fl_X9_122_8 rfl rfl rfl (pc := 58) dX9_pairOf_58 ?_
            refine wm_iconst hC (pc := 61) dX9_pairOf_61 ?_
            refine wm_isub hC (pc := 62) dX9_pairOf_62 ?_
            refine wm_pS hC cs_X9_59 kc_X9_in (s_X9_in (by omega) (by omega) (by rw [hS.2.2.2.1.1]; omega)) rfl (by decide) rfl (Nat.le_of_ble_eq_true rfl) (pc := 63) dX9_pairOf_63 ?_
            rw [hS.2.2.2.1.1]
            refine wm_ifd_ne hC 72 (pc := 66) dX9_pairOf_66 (by decide) (fun h66 => ?_) (fun h66 => ?_)
            · refine wm_iload hC  (pc := 72) dX9_pairOf_72 rfl ?_
              by_cases sw74_0 : e = 0
              · refine wm_tableIn hC 108 (0) (pc := 74) dX9_pairOf_74 sw74_0 (by decide) rfl (by decide) ?_
                refine wm_aload_n hC 0 (pc := 108) dX9_pairOf_108 rfl rfl ?_
                refine wm_getR hC fl_X9_23_8 rfl rfl (pc := 109) dX9_pairOf_109 ?_
                refine wm_iload hC  (pc := 112) dX9_pairOf_112 rfl ?_
                refine wm_iaload hC rfl (by omega) (by decide) (pc := 114) dX9_pairOf_114 ?_
                rw [(hS.2.2.2.1.2.1 _ (by omega) (by omega)).1]
                have hPr := hPi (by omega) (by omega)
                refine wm_bipush hC (pc := 115) dX9_pairOf_115 (by decide) ?_
                refine wm_idiv hC (pc := 117) dX9_pairOf_117 (by omega) (by omega) ?_
                refine wm_iretI hC (pc := 118) dX9_pairOf_118 ?_
                right
                refine ⟨by omega, ?_, hw35.keep⟩
                rw [Int.toNat_natCast p, Int.toNat_natCast q]
                exact ⟨_, hi5, (rpairB_0 (by omega) sw74_0).symm⟩
              by_cases sw74_1 : e = 1
              · refine wm_tableIn hC 119 (1) (pc := 74) dX9_pairOf_74 sw74_1 (by decide) rfl (by decide) ?_
                refine wm_aload_n hC 0 (pc := 119) dX9_pairOf_119 rfl rfl ?_
                refine wm_getR hC fl_X9_23_8 rfl rfl (pc := 120) dX9_pairOf_120 ?_
                refine wm_iload hC  (pc := 123) dX9_pairOf_123 rfl ?_
                refine wm_iaload hC rfl (by omega) (by decide) (pc := 125) dX9_pairOf_125 ?_
                rw [(hS.2.2.2.1.2.1 _ (by omega) (by omega)).1]
                have hPr := hPi (by omega) (by omega)
                refine wm_bipush hC (pc := 126) dX9_pairOf_126 (by decide) ?_
                refine wm_irem hC (pc := 128) dX9_pairOf_128 (by omega) (by omega) ?_
                refine wm_iretI hC (pc := 129) dX9_pairOf_129 ?_
                right
                refine ⟨by omega, ?_, hw35.keep⟩
                rw [Int.toNat_natCast p, Int.toNat_natCast q]
                exact ⟨_, hi5, (rpairB_1 (by omega) sw74_0 sw74_1).symm⟩
              by_cases sw74_2 : e = 2
              · refine wm_tableIn hC 130 (2) (pc := 74) dX9_pairOf_74 sw74_2 (by decide) rfl (by decide) ?_
                refine wm_aload_n hC 0 (pc := 130) dX9_pairOf_130 rfl rfl ?_
                refine wm_getR hC fl_X9_32_8 rfl rfl (pc := 131) dX9_pairOf_131 ?_
                refine wm_iload hC  (pc := 134) dX9_pairOf_134 rfl ?_
                refine wm_iaload hC rfl (by omega) (by decide) (pc := 136) dX9_pairOf_136 ?_
                rw [(hS.2.2.2.1.2.1 _ (by omega) (by omega)).2.1]
                refine wm_iretI hC (pc := 137) dX9_pairOf_137 ?_
                right
                refine ⟨by omega, ?_, hw35.keep⟩
                rw [Int.toNat_natCast p, Int.toNat_natCast q]
                exact ⟨_, hi5, (rpairB_2 (by omega) sw74_0 sw74_1 sw74_2).symm⟩
              by_cases sw74_3 : e = 3
              · refine wm_tableIn hC 138 (3) (pc := 74) dX9_pairOf_74 sw74_3 (by decide) rfl (by decide) ?_
                refine wm_aload_n hC 0 (pc := 138) dX9_pairOf_138 rfl rfl ?_
                refine wm_iload_n hC 1 (pc := 139) dX9_pairOf_139 rfl rfl ?_
                refine wm_iload_n hC 2 (pc := 140) dX9_pairOf_140 rfl rfl ?_
                refine wm_iload hC  (pc := 141) dX9_pairOf_141 rfl ?_
                refine wm_pV hC cv_X9_147 kc_X9_why rfl rfl (s_X9_why hS (by omega)) rfl (by decide) rfl (Nat.le_of_ble_eq_true rfl) (pc := 143) dX9_pairOf_143 ?_
                rw [rv_congr (rwalk_keep hw35)]
                refine wm_iretI hC (pc := 146) dX9_pairOf_146 ?_
                right
                refine ⟨by omega, ?_, hw35.keep⟩
                rw [Int.toNat_natCast p, Int.toNat_natCast q]
                exact ⟨_, hi5, (rpairB_3 (by omega) sw74_0 sw74_1 sw74_2 sw74_3).symm⟩
              by_cases sw74_4 : e = 4
              · refine wm_tableIn hC 147 (4) (pc := 74) dX9_pairOf_74 sw74_4 (by decide) rfl (by decide) ?_
                refine wm_aload_n hC 0 (pc := 147) dX9_pairOf_147 rfl rfl ?_
                refine wm_iload_n hC 1 (pc := 148) dX9_pairOf_148 rfl rfl ?_
                refine wm_iload_n hC 2 (pc := 149) dX9_pairOf_149 rfl rfl ?_
                refine wm_iload hC  (pc := 150) dX9_pairOf_150 rfl ?_
                refine wm_pV hC cv_X9_144 kc_X9_missing rfl rfl (s_X9_missing hS (by omega)) rfl (by decide) rfl (Nat.le_of_ble_eq_true rfl) (pc := 152) dX9_pairOf_152 ?_
                rw [rv_congr (rwalk_keep hw35)]
                refine wm_iretI hC (pc := 155) dX9_pairOf_155 ?_
                right
                refine ⟨by omega, ?_, hw35.keep⟩
                rw [Int.toNat_natCast p, Int.toNat_natCast q]
                exact ⟨_, hi5, (rpairB_4 (by omega) sw74_0 sw74_1 sw74_2 sw74_3 sw74_4).symm⟩
              refine wm_tableOut hC 156 (pc := 74) dX9_pairOf_74 (by decide) (by omega) (by omega) ?_
              refine wm_aload_n hC 0 (pc := 156) dX9_pairOf_156 rfl rfl ?_
              refine wm_iload hC  (pc := 157) dX9_pairOf_157 rfl ?_
              refine wm_iload hC  (pc := 159) dX9_pairOf_159 rfl ?_
              refine wm_bipush hC (pc := 161) dX9_pairOf_161 (by decide) ?_
              refine wm_isub hC (pc := 163) dX9_pairOf_163 ?_
              refine wm_pV hC cv_X9_161 kc_X9_wordOf rfl rfl (s_X9_wordOf hS (by omega) (by omega)) rfl (by decide) rfl (Nat.le_of_ble_eq_true rfl) (pc := 164) dX9_pairOf_164 ?_
              refine wm_iretI hC (pc := 167) dX9_pairOf_167 ?_
              right
              refine ⟨by omega, ?_, hw35.keep⟩
              rw [Int.toNat_natCast p, Int.toNat_natCast q]
              exact ⟨_, hi5, (rpairB_5 (by omega) sw74_0 sw74_1 sw74_2 sw74_3 sw74_4).symm⟩
            · refine wm_ldc hC (-1000004) kI_X9_121 (pc := 69) dX9_pairOf_69 ?_
              refine wm_iretI hC (pc := 71) dX9_pairOf_71 ?_
              right
              refine ⟨by omega, ?_, hw35.keep⟩
              rw [Int.toNat_natCast p, Int.toNat_natCast q]
              exact ⟨_, hi5, (rpairB_n (by omega)).symm⟩
        · refine wm_ldc hC (-1000001) kI_X9_81 (pc := 28) dX9_pairOf_28 ?_
          refine wm_iretI hC (pc := 30) dX9_pairOf_30 ?_
          left
          exact ⟨by omega, rfl, rfl⟩
set_option maxRecDepth 100000 in
set_option maxHeartbeats 200000 in
theorem s_X9_wanted {l : Launch} {G : mG} {w : mW} {p q : Nat} {B : Bf} (hS : RSt2 w p q B) {i : Int} (hi : 0 ≤ i ∧ i < bN B) : Mx l G 3 yX9_wanted cX9_wanted 7 (some .int) [mvR 31, mvI (p : Int), mvI (q : Int), mvI i] w (qP (mvI (wntF (rv w) (2 * p + 1) (2 * q + 1) B i)) w) := by
  refine Mx.intro (by decide) RX9 rfl [some (mvR 31), some (mvI (p : Int)), some (mvI (q : Int)), some (mvI i), none, none, none] (Nat.le_of_ble_eq_true rfl) rfl (fun K hC => ?_)
  obtain ⟨hR, hp, hq, hA, hB⟩ := id hS
  have hle := hB.le
  have hI := hB.2.2.1 i hi.1 hi.2
  have hIA := hA.2.1 i hi.1 hi.2
  have hk1 := kd_rng (hR.ok hp) (s := bP B i / 8) (by omega)
  have hk2 := kd_rng (hR.ok hq) (s := bP B i % 8) (by omega)
  refine wm_aload_n hC 0 (pc := 0) dX9_wanted_0 rfl rfl ?_
  refine wm_iload_n hC 1 (pc := 1) dX9_wanted_1 rfl rfl ?_
  refine wm_aload_n hC 0 (pc := 2) dX9_wanted_2 rfl rfl ?_
  refine wm_getR hC fl_X9_23_8 rfl rfl (pc := 3) dX9_wanted_3 ?_
  refine wm_iload_n hC 3 (pc := 6) dX9_wanted_6 rfl rfl ?_
  refine wm_iaload hC rfl (by omega) (by decide) (pc := 7) dX9_wanted_7 ?_
  rw [hIA.1]
  refine wm_bipush hC (pc := 8) dX9_wanted_8 (by decide) ?_
  refine wm_idiv hC (pc := 10) dX9_wanted_10 (by omega) (by omega) ?_
  refine wm_pV hC cv_X9_67 kc_X9_kindOf rfl rfl (s_X9_kindOf hp (by omega)) rfl (by decide) rfl (Nat.le_of_ble_eq_true rfl) (pc := 11) dX9_wanted_11 ?_
  refine wm_istore hC  (pc := 14) dX9_wanted_14  (by decide) rfl ?_
  refine wm_iload hC  (pc := 16) dX9_wanted_16 rfl ?_
  refine wm_if_eq hC 40 (pc := 18) dX9_wanted_18 (by decide) (by omega) (fun h18 => ?_) (fun h18 => ?_)
  · refine wm_ldc hC (-1000004) kI_X9_121 (pc := 40) dX9_wanted_40 ?_
    refine wm_iretP hC (pc := 42) dX9_wanted_42 ?_ rfl
    unfold wntF; rw [if_pos (by omega)]
  · refine wm_iload hC  (pc := 21) dX9_wanted_21 rfl ?_
    refine wm_aload_n hC 0 (pc := 23) dX9_wanted_23 rfl rfl ?_
    refine wm_iload_n hC 2 (pc := 24) dX9_wanted_24 rfl rfl ?_
    refine wm_aload_n hC 0 (pc := 25) dX9_wanted_25 rfl rfl ?_
    refine wm_getR hC fl_X9_23_8 rfl rfl (pc := 26) dX9_wanted_26 ?_
    refine wm_iload_n hC 3 (pc := 29) dX9_wanted_29 rfl rfl ?_
    refine wm_iaload hC rfl (by omega) (by decide) (pc := 30) dX9_wanted_30 ?_
    rw [hIA.1]
    refine wm_bipush hC (pc := 31) dX9_wanted_31 (by decide) ?_
    refine wm_irem hC (pc := 33) dX9_wanted_33 (by omega) (by omega) ?_
    refine wm_pV hC cv_X9_67 kc_X9_kindOf rfl rfl (s_X9_kindOf hq (by omega)) rfl (by decide) rfl (Nat.le_of_ble_eq_true rfl) (pc := 34) dX9_wanted_34 ?_
    refine wm_icmp_eq hC 43 (pc := 37) dX9_wanted_37 (by decide) (by omega) (by omega) (fun h37 => ?_) (fun h37 => ?_)
    · refine wm_aload_n hC 0 (pc := 43) dX9_wanted_43 rfl rfl ?_
      refine wm_iload_n hC 1 (pc := 44) dX9_wanted_44 rfl rfl ?_
      refine wm_aload_n hC 0 (pc := 45) dX9_wanted_45 rfl rfl ?_
      refine wm_getR hC fl_X9_23_8 rfl rfl (pc := 46) dX9_wanted_46 ?_
      refine wm_iload_n hC 3 (pc := 49) dX9_wanted_49 rfl rfl ?_
      refine wm_iaload hC rfl (by omega) (by decide) (pc := 50) dX9_wanted_50 ?_
      rw [hIA.1]
      refine wm_bipush hC (pc := 51) dX9_wanted_51 (by decide) ?_
      refine wm_idiv hC (pc := 53) dX9_wanted_53 (by omega) (by omega) ?_
      refine wm_pV hC cv_X9_88 kc_X9_words rfl rfl (s_X9_words hp (by omega) hR) rfl (by decide) rfl (Nat.le_of_ble_eq_true rfl) (pc := 54) dX9_wanted_54 ?_
      refine wm_istore hC  (pc := 57) dX9_wanted_57  (by decide) rfl ?_
      refine wm_aload_n hC 0 (pc := 59) dX9_wanted_59 rfl rfl ?_
      refine wm_iload_n hC 2 (pc := 60) dX9_wanted_60 rfl rfl ?_
      refine wm_aload_n hC 0 (pc := 61) dX9_wanted_61 rfl rfl ?_
      refine wm_getR hC fl_X9_23_8 rfl rfl (pc := 62) dX9_wanted_62 ?_
      refine wm_iload_n hC 3 (pc := 65) dX9_wanted_65 rfl rfl ?_
      refine wm_iaload hC rfl (by omega) (by decide) (pc := 66) dX9_wanted_66 ?_
      rw [hIA.1]
      refine wm_bipush hC (pc := 67) dX9_wanted_67 (by decide) ?_
      refine wm_irem hC (pc := 69) dX9_wanted_69 (by omega) (by omega) ?_
      refine wm_pV hC cv_X9_88 kc_X9_words rfl rfl (s_X9_words hq (by omega) hR) rfl (by decide) rfl (Nat.le_of_ble_eq_true rfl) (pc := 70) dX9_wanted_70 ?_
      refine wm_istore hC  (pc := 73) dX9_wanted_73  (by decide) rfl ?_
      refine wm_iload hC  (pc := 75) dX9_wanted_75 rfl ?_
      refine wm_iconst hC (pc := 77) dX9_wanted_77 ?_
      refine wm_icmp_ne hC 91 (pc := 78) dX9_wanted_78 (by decide) (by omega) (by omega) (fun h78 => ?_) (fun h78 => ?_)
      · refine wm_iload hC  (pc := 91) dX9_wanted_91 rfl ?_
        refine wm_iload hC  (pc := 93) dX9_wanted_93 rfl ?_
        refine wm_pS hC cs_X9_141 kc_X9_lacking (s_X9_lacking (m := msk (rv w) (2 * q + 1) (bP B i % 8)) (m2 := msk (rv w) (2 * p + 1) (bP B i / 8)) (msk_lt _ _ _)) rfl (by decide) rfl (Nat.le_of_ble_eq_true rfl) (pc := 95) dX9_wanted_95 ?_
        refine wm_iretP hC (pc := 98) dX9_wanted_98 ?_ rfl
        unfold wntF; rw [if_neg (by omega)]
        unfold lackF
        first | omega | rw [if_pos (by omega)] | rw [if_neg (by omega)]
      · refine wm_iload hC  (pc := 81) dX9_wanted_81 rfl ?_
        refine wm_iload hC  (pc := 83) dX9_wanted_83 rfl ?_
        refine wm_pS hC cs_X9_141 kc_X9_lacking (s_X9_lacking (m := msk (rv w) (2 * p + 1) (bP B i / 8)) (m2 := msk (rv w) (2 * q + 1) (bP B i % 8)) (msk_lt _ _ _)) rfl (by decide) rfl (Nat.le_of_ble_eq_true rfl) (pc := 85) dX9_wanted_85 ?_
        refine wm_goto hC 98 (pc := 88) dX9_wanted_88 (by decide) ?_
        refine wm_iretP hC (pc := 98) dX9_wanted_98 ?_ rfl
        unfold wntF; rw [if_neg (by omega)]
        unfold lackF
        first | omega | rw [if_pos (by omega)] | rw [if_neg (by omega)]
    · refine wm_ldc hC (-1000004) kI_X9_121 (pc := 40) dX9_wanted_40 ?_
      refine wm_iretP hC (pc := 42) dX9_wanted_42 ?_ rfl
      unfold wntF; rw [if_pos (by omega)]
set_option maxRecDepth 100000 in
set_option maxHeartbeats 200000 in
theorem s_X9_whyNot {l : Launch} {G : mG} {w : mW} {p q : Nat} {B : Bf} (hS : RSt2 w p q B) {i : Int} (hi : 0 ≤ i ∧ i < bN B) : Mx l G 4 yX9_whyNot cX9_whyNot 5 (some .int) [mvR 31, mvI (p : Int), mvI (q : Int), mvI i] w (qP (mvI (rsnB rsnS (rv w) (2 * p + 1) (2 * q + 1) B i)) w) := by
  refine Mx.intro (by decide) RX9 rfl [some (mvR 31), some (mvI (p : Int)), some (mvI (q : Int)), some (mvI i), none] (Nat.le_of_ble_eq_true rfl) rfl (fun K hC => ?_)
  obtain ⟨hR, hp, hq, hA, hB⟩ := id hS
  have hle := hB.le
  have hI := hB.2.2.1 i hi.1 hi.2
  have hIA := hA.2.1 i hi.1 hi.2
  have hk1 := kd_rng (hR.ok hp) (s := bP B i / 8) (by omega)
  have hk2 := kd_rng (hR.ok hq) (s := bP B i % 8) (by omega)
  have hm1 : wmask (hasW (rv w) (2 * p + 1) (bP B i / 8)) 6 < 64 := msk_lt _ _ _
  have hm2 : wmask (hasW (rv w) (2 * q + 1) (bP B i % 8)) 6 < 64 := msk_lt _ _ _
  have hU : rsnB rsnS (rv w) (2 * p + 1) (2 * q + 1) B i = rsnS (kdF (rv w) (2 * p + 1) (bP B i / 8)) (wmask (hasW (rv w) (2 * p + 1) (bP B i / 8)) 6) (kdF (rv w) (2 * q + 1) (bP B i % 8)) (wmask (hasW (rv w) (2 * q + 1) (bP B i % 8)) 6) := rfl
  rw [hU]
  unfold rsnS
  refine wm_aload_n hC 0 (pc := 0) dX9_whyNot_0 rfl rfl ?_
  refine wm_iload_n hC 1 (pc := 1) dX9_whyNot_1 rfl rfl ?_
  refine wm_aload_n hC 0 (pc := 2) dX9_whyNot_2 rfl rfl ?_
  refine wm_getR hC fl_X9_23_8 rfl rfl (pc := 3) dX9_whyNot_3 ?_
  refine wm_iload_n hC 3 (pc := 6) dX9_whyNot_6 rfl rfl ?_
  refine wm_iaload hC rfl (by omega) (by decide) (pc := 7) dX9_whyNot_7 ?_
  rw [hIA.1]
  refine wm_bipush hC (pc := 8) dX9_whyNot_8 (by decide) ?_
  refine wm_idiv hC (pc := 10) dX9_whyNot_10 (by omega) (by omega) ?_
  refine wm_pV hC cv_X9_67 kc_X9_kindOf rfl rfl (s_X9_kindOf hp (by omega)) rfl (by decide) rfl (Nat.le_of_ble_eq_true rfl) (pc := 11) dX9_whyNot_11 ?_
  refine wm_istore hC  (pc := 14) dX9_whyNot_14  (by decide) rfl ?_
  refine wm_iload hC  (pc := 16) dX9_whyNot_16 rfl ?_
  refine wm_aload_n hC 0 (pc := 18) dX9_whyNot_18 rfl rfl ?_
  refine wm_iload_n hC 2 (pc := 19) dX9_whyNot_19 rfl rfl ?_
  refine wm_aload_n hC 0 (pc := 20) dX9_whyNot_20 rfl rfl ?_
  refine wm_getR hC fl_X9_23_8 rfl rfl (pc := 21) dX9_whyNot_21 ?_
  refine wm_iload_n hC 3 (pc := 24) dX9_whyNot_24 rfl rfl ?_
  refine wm_iaload hC rfl (by omega) (by decide) (pc := 25) dX9_whyNot_25 ?_
  rw [hIA.1]
  refine wm_bipush hC (pc := 26) dX9_whyNot_26 (by decide) ?_
  refine wm_irem hC (pc := 28) dX9_whyNot_28 (by omega) (by omega) ?_
  refine wm_pV hC cv_X9_67 kc_X9_kindOf rfl rfl (s_X9_kindOf hq (by omega)) rfl (by decide) rfl (Nat.le_of_ble_eq_true rfl) (pc := 29) dX9_whyNot_29 ?_
  refine wm_icmp_eq hC 37 (pc := 32) dX9_whyNot_32 (by decide) (by omega) (by omega) (fun h32 => ?_) (fun h32 => ?_)
  · refine wm_iload hC  (pc := 37) dX9_whyNot_37 rfl ?_
    refine wm_iconst hC (pc := 39) dX9_whyNot_39 ?_
    refine wm_icmp_ne hC 62 (pc := 40) dX9_whyNot_40 (by decide) (by omega) (by omega) (fun h40 => ?_) (fun h40 => ?_)
    · refine wm_aload_n hC 0 (pc := 62) dX9_whyNot_62 rfl rfl ?_
      refine wm_iload_n hC 1 (pc := 63) dX9_whyNot_63 rfl rfl ?_
      refine wm_iload_n hC 2 (pc := 64) dX9_whyNot_64 rfl rfl ?_
      refine wm_iload_n hC 3 (pc := 65) dX9_whyNot_65 rfl rfl ?_
      refine wm_pV hC cv_X9_196 kc_X9_wanted rfl rfl (s_X9_wanted hS hi) rfl (by decide) rfl (Nat.le_of_ble_eq_true rfl) (pc := 66) dX9_whyNot_66 ?_
      have hmi : wntF (rv w) (2 * p + 1) (2 * q + 1) B i = if kdF (rv w) (2 * p + 1) (bP B i / 8) = 0 then -1000004 else lkV (lackF (kdF (rv w) (2 * p + 1) (bP B i / 8)) (wmask (hasW (rv w) (2 * p + 1) (bP B i / 8)) 6) (wmask (hasW (rv w) (2 * q + 1) (bP B i % 8)) 6)) := by
        unfold wntF
        by_cases hz : kdF (rv w) (2 * p + 1) (bP B i / 8) = 0
        · rw [if_pos (Or.inl hz), if_pos hz]
        · rw [if_neg (by omega), if_neg hz]; rfl
      rw [hmi]
      have hlv := lkV_rng (lackF (kdF (rv w) (2 * p + 1) (bP B i / 8)) (wmask (hasW (rv w) (2 * p + 1) (bP B i / 8)) 6) (wmask (hasW (rv w) (2 * q + 1) (bP B i % 8)) 6))
      have hz : (if kdF (rv w) (2 * p + 1) (bP B i / 8) = 0 then -1000004 else lkV (lackF (kdF (rv w) (2 * p + 1) (bP B i / 8)) (wmask (hasW (rv w) (2 * p + 1) (bP B i / 8)) 6) (wmask (hasW (rv w) (2 * q + 1) (bP B i % 8)) 6))) = -1000004 ∨ (¬ kdF (rv w) (2 * p + 1) (bP B i / 8) = 0 ∧ (if kdF (rv w) (2 * p + 1) (bP B i / 8) = 0 then -1000004 else lkV (lackF (kdF (rv w) (2 * p + 1) (bP B i / 8)) (wmask (hasW (rv w) (2 * p + 1) (bP B i / 8)) 6) (wmask (hasW (rv w) (2 * q + 1) (bP B i % 8)) 6))) = lkV (lackF (kdF (rv w) (2 * p + 1) (bP B i / 8)) (wmask (hasW (rv w) (2 * p + 1) (bP B i / 8)) 6) (wmask (hasW (rv w) (2 * q + 1) (bP B i % 8)) 6))) := by
        by_cases hz : kdF (rv w) (2 * p + 1) (bP B i / 8) = 0
        · rw [if_pos hz]; exact Or.inl rfl
        · rw [if_neg hz]; exact Or.inr ⟨hz, rfl⟩
      refine wm_if_lt hC 76 (pc := 69) dX9_whyNot_69 (by decide) (by omega) (fun h69 => ?_) (fun h69 => ?_)
      · refine wm_iconst hC (pc := 76) dX9_whyNot_76 ?_
        refine wm_iretP hC (pc := 77) dX9_whyNot_77 ?_ rfl
        first | omega | ((repeat' split) <;> first | rfl | omega | (split at h69 <;> omega))
      · refine wm_iconst hC (pc := 72) dX9_whyNot_72 ?_
        refine wm_goto hC 77 (pc := 73) dX9_whyNot_73 (by decide) ?_
        refine wm_iretP hC (pc := 77) dX9_whyNot_77 ?_ rfl
        first | omega | ((repeat' split) <;> first | rfl | omega | (split at h69 <;> omega))
    · refine wm_aload_n hC 0 (pc := 43) dX9_whyNot_43 rfl rfl ?_
      refine wm_iload_n hC 1 (pc := 44) dX9_whyNot_44 rfl rfl ?_
      refine wm_aload_n hC 0 (pc := 45) dX9_whyNot_45 rfl rfl ?_
      refine wm_getR hC fl_X9_23_8 rfl rfl (pc := 46) dX9_whyNot_46 ?_
      refine wm_iload_n hC 3 (pc := 49) dX9_whyNot_49 rfl rfl ?_
      refine wm_iaload hC rfl (by omega) (by decide) (pc := 50) dX9_whyNot_50 ?_
      rw [hIA.1]
      refine wm_bipush hC (pc := 51) dX9_whyNot_51 (by decide) ?_
      refine wm_idiv hC (pc := 53) dX9_whyNot_53 (by omega) (by omega) ?_
      refine wm_pV hC cv_X9_88 kc_X9_words rfl rfl (s_X9_words hp (by omega) hR) rfl (by decide) rfl (Nat.le_of_ble_eq_true rfl) (pc := 54) dX9_whyNot_54 ?_
      refine wm_if_ne hC 62 (pc := 57) dX9_whyNot_57 (by decide) (by omega) (fun h57 => ?_) (fun h57 => ?_)
      · refine wm_aload_n hC 0 (pc := 62) dX9_whyNot_62 rfl rfl ?_
        refine wm_iload_n hC 1 (pc := 63) dX9_whyNot_63 rfl rfl ?_
        refine wm_iload_n hC 2 (pc := 64) dX9_whyNot_64 rfl rfl ?_
        refine wm_iload_n hC 3 (pc := 65) dX9_whyNot_65 rfl rfl ?_
        refine wm_pV hC cv_X9_196 kc_X9_wanted rfl rfl (s_X9_wanted hS hi) rfl (by decide) rfl (Nat.le_of_ble_eq_true rfl) (pc := 66) dX9_whyNot_66 ?_
        have hmi : wntF (rv w) (2 * p + 1) (2 * q + 1) B i = if kdF (rv w) (2 * p + 1) (bP B i / 8) = 0 then -1000004 else lkV (lackF (kdF (rv w) (2 * p + 1) (bP B i / 8)) (wmask (hasW (rv w) (2 * p + 1) (bP B i / 8)) 6) (wmask (hasW (rv w) (2 * q + 1) (bP B i % 8)) 6)) := by
          unfold wntF
          by_cases hz : kdF (rv w) (2 * p + 1) (bP B i / 8) = 0
          · rw [if_pos (Or.inl hz), if_pos hz]
          · rw [if_neg (by omega), if_neg hz]; rfl
        rw [hmi]
        have hlv := lkV_rng (lackF (kdF (rv w) (2 * p + 1) (bP B i / 8)) (wmask (hasW (rv w) (2 * p + 1) (bP B i / 8)) 6) (wmask (hasW (rv w) (2 * q + 1) (bP B i % 8)) 6))
        have hz : (if kdF (rv w) (2 * p + 1) (bP B i / 8) = 0 then -1000004 else lkV (lackF (kdF (rv w) (2 * p + 1) (bP B i / 8)) (wmask (hasW (rv w) (2 * p + 1) (bP B i / 8)) 6) (wmask (hasW (rv w) (2 * q + 1) (bP B i % 8)) 6))) = -1000004 ∨ (¬ kdF (rv w) (2 * p + 1) (bP B i / 8) = 0 ∧ (if kdF (rv w) (2 * p + 1) (bP B i / 8) = 0 then -1000004 else lkV (lackF (kdF (rv w) (2 * p + 1) (bP B i / 8)) (wmask (hasW (rv w) (2 * p + 1) (bP B i / 8)) 6) (wmask (hasW (rv w) (2 * q + 1) (bP B i % 8)) 6))) = lkV (lackF (kdF (rv w) (2 * p + 1) (bP B i / 8)) (wmask (hasW (rv w) (2 * p + 1) (bP B i / 8)) 6) (wmask (hasW (rv w) (2 * q + 1) (bP B i % 8)) 6))) := by
          by_cases hz : kdF (rv w) (2 * p + 1) (bP B i / 8) = 0
          · rw [if_pos hz]; exact Or.inl rfl
          · rw [if_neg hz]; exact Or.inr ⟨hz, rfl⟩
        refine wm_if_lt hC 76 (pc := 69) dX9_whyNot_69 (by decide) (by omega) (fun h69 => ?_) (fun h69 => ?_)
        · refine wm_iconst hC (pc := 76) dX9_whyNot_76 ?_
          refine wm_iretP hC (pc := 77) dX9_whyNot_77 ?_ rfl
          first | omega | ((repeat' split) <;> first | rfl | omega | (split at h69 <;> omega))
        · refine wm_iconst hC (pc := 72) dX9_whyNot_72 ?_
          refine wm_goto hC 77 (pc := 73) dX9_whyNot_73 (by decide) ?_
          refine wm_iretP hC (pc := 77) dX9_whyNot_77 ?_ rfl
          first | omega | ((repeat' split) <;> first | rfl | omega | (split at h69 <;> omega))
      · refine wm_iconst hC (pc := 60) dX9_whyNot_60 ?_
        refine wm_iretP hC (pc := 61) dX9_whyNot_61 ?_ rfl
        first | omega | ((repeat' split) <;> first | rfl | omega | (split at h69 <;> omega))
  · refine wm_iconst hC (pc := 35) dX9_whyNot_35 ?_
    refine wm_iretP hC (pc := 36) dX9_whyNot_36 ?_ rfl
    first | omega | ((repeat' split) <;> first | rfl | omega | (split at h69 <;> omega))
set_option maxRecDepth 100000 in
set_option maxHeartbeats 200000 in
theorem s_X9_firstAgainst {l : Launch} {G : mG} {w : mW} {p q : Nat} (hp : p < 3) (hq : q < 3) (hR : RPl w) : Mx l G 6 yX9_firstAgainst cX9_firstAgainst 4 (some .int) [mvR 31, mvI (p : Int), mvI (q : Int)] w (qI (fun z w' => rkeep w w' ∧ RSt2 w' p q (bSt (rv w) (2 * p + 1) (2 * q + 1)) ∧ z = faultB rsnS (rv w) (2 * p + 1) (2 * q + 1) (bSt (rv w) (2 * p + 1) (2 * q + 1)))) := by
  refine Mx.intro (by decide) RX9 rfl [some (mvR 31), some (mvI (p : Int)), some (mvI (q : Int)), none] (Nat.le_of_ble_eq_true rfl) rfl (fun K hC => ?_)
  refine wm_aload_n hC 0 (pc := 0) dX9_firstAgainst_0 rfl rfl ?_
  refine wm_iload_n hC 1 (pc := 1) dX9_firstAgainst_1 rfl rfl ?_
  refine wm_iload_n hC 2 (pc := 2) dX9_firstAgainst_2 rfl rfl ?_
  refine wm_iconst hC (pc := 3) dX9_firstAgainst_3 ?_
  refine wm_vV hC cv_X9_154 kc_X9_goThrough rfl rfl (s_X9_goThrough hp hq hR (tk := false)) rfl (by decide) rfl (Nat.le_of_ble_eq_true rfl) (pc := 4) dX9_firstAgainst_4 (fun w4 hw4 => ?_)
  have hS := hw4.stS hR hp hq
  have hk := hw4.keep
  have hkk := rwalk_keep hw4
  generalize hB0 : (bSt (rv w) (2 * p + 1) (2 * q + 1)) = B at *
  have hA := hS.2.2.2.1
  have hle := hS.2.2.2.2.le
  refine wm_iconst hC (pc := 7) dX9_firstAgainst_7 ?_
  refine wm_istore_n hC 3 (pc := 8) dX9_firstAgainst_8 rfl (by decide) rfl ?_
  have lp9 : ∀ (n : Nat) (i : Nat), n = bN B - i → i ≤ bN B → faultB rsnS (rv w) (2 * p + 1) (2 * q + 1) B = ffst (fun i => decide (¬ rsnB rsnS (rv w) (2 * p + 1) (2 * q + 1) B i = 0)) (bN B - i) i → Wm l G K 6 4 (qI (fun z w' => rkeep w w' ∧ RSt2 w' p q B ∧ z = faultB rsnS (rv w) (2 * p + 1) (2 * q + 1) B)) 9 [some (mvR 31), some (mvI (p : Int)), some (mvI (q : Int)), some (mvI (i : Int))] [] w4 := by
    intro n
    induction n using Nat.strongRecOn with
    | _ n ih =>
    intro i hn hi he
    refine wm_iload_n hC 3 (pc := 9) dX9_firstAgainst_9 rfl rfl ?_
    refine wm_aload_n hC 0 (pc := 10) dX9_firstAgainst_10 rfl rfl ?_
    refine wm_getI hC 31 11 fl_X9_122_8 rfl rfl rfl (pc := 11) dX9_firstAgainst_11 ?_
    refine wm_icmp_ge hC 35 (pc := 14) dX9_firstAgainst_14 (by decide) (by omega) (by rw [hA.1]; omega) (fun h14 => ?_) (fun h14 => ?_)
    · rw [hA.1] at h14
      refine wm_iconst hC (pc := 35) dX9_firstAgainst_35 ?_
      refine wm_iretI hC (pc := 36) dX9_firstAgainst_36 ?_
      have : i = bN B := by omega
      subst this
      refine ⟨hk, hS, ?_⟩
      rw [he, Nat.sub_self]; rfl
    · rw [hA.1] at h14
      refine wm_aload_n hC 0 (pc := 17) dX9_firstAgainst_17 rfl rfl ?_
      refine wm_iload_n hC 1 (pc := 18) dX9_firstAgainst_18 rfl rfl ?_
      refine wm_iload_n hC 2 (pc := 19) dX9_firstAgainst_19 rfl rfl ?_
      refine wm_iload_n hC 3 (pc := 20) dX9_firstAgainst_20 rfl rfl ?_
      refine wm_pV hC cv_X9_199 kc_X9_whyNot rfl rfl (s_X9_whyNot hS (by omega)) rfl (by decide) rfl (Nat.le_of_ble_eq_true rfl) (pc := 21) dX9_firstAgainst_21 ?_
      rw [rv_congr hkk]
      have hrr : 0 ≤ rsnB rsnS (rv w) (2 * p + 1) (2 * q + 1) B i ∧ rsnB rsnS (rv w) (2 * p + 1) (2 * q + 1) B i ≤ 5 := rsnS_rng _ _ _ _
      refine wm_if_le hC 29 (pc := 24) dX9_firstAgainst_24 (by decide) (by omega) (fun h24 => ?_) (fun h24 => ?_)
      · refine wm_iinc hC (pc := 29) dX9_firstAgainst_29 rfl rfl (by decide) rfl ?_
        refine wm_goto hC 9 (pc := 32) dX9_firstAgainst_32 (by decide) ?_
        exact ih _ (by omega) (i + 1) rfl (by omega) (by rw [he, show bN B - i = (bN B - (i + 1)) + 1 by omega]; exact if_neg (fun q => absurd (of_decide_eq_true q) (by omega)))
      · refine wm_iload_n hC 3 (pc := 27) dX9_firstAgainst_27 rfl rfl ?_
        refine wm_iretI hC (pc := 28) dX9_firstAgainst_28 ?_
        refine ⟨hk, hS, ?_⟩
        rw [he, show bN B - i = (bN B - (i + 1)) + 1 by omega]; exact (if_pos (decide_eq_true (by omega))).symm
  exact lp9 _ 0 rfl (by omega) rfl
set_option maxRecDepth 100000 in
set_option maxHeartbeats 200000 in
theorem s_X9_canStand {l : Launch} {G : mG} {w : mW} {p q : Nat} (hp : p < 3) (hq : q < 3) (hR : RPl w) : Mx l G 7 yX9_canStand cX9_canStand 3 (some .int) [mvR 31, mvI (p : Int), mvI (q : Int)] w (qI (fun z w' => rkeep w w' ∧ z = standF (rv w) (2 * p + 1) (2 * q + 1))) := by
  refine Mx.intro (by decide) RX9 rfl [some (mvR 31), some (mvI (p : Int)), some (mvI (q : Int))] (Nat.le_of_ble_eq_true rfl) rfl (fun K hC => ?_)
  refine wm_aload_n hC 0 (pc := 0) dX9_canStand_0 rfl rfl ?_
  refine wm_iload_n hC 1 (pc := 1) dX9_canStand_1 rfl rfl ?_
  refine wm_iload_n hC 2 (pc := 2) dX9_canStand_2 rfl rfl ?_
  refine wm_iV hC cv_X9_202 kc_X9_firstAgainst rfl rfl (s_X9_firstAgainst hp hq hR) rfl (by decide) rfl (Nat.le_of_ble_eq_true rfl) (pc := 3) dX9_canStand_3 (fun z3 w3 hw3 => ?_)
  obtain ⟨hk, hS, hz3⟩ := hw3
  have hfr := faultB_rng rsnS (rv w) (2 * p + 1) (2 * q + 1) hS.2.2.2.2
  have hle := hS.2.2.2.2.le
  refine wm_if_ge hC 13 (pc := 6) dX9_canStand_6 (by decide) (by omega) (fun h6 => ?_) (fun h6 => ?_)
  · refine wm_iconst hC (pc := 13) dX9_canStand_13 ?_
    refine wm_iretI hC (pc := 14) dX9_canStand_14 ?_
    refine ⟨hk, ?_⟩
    unfold standF
    first | rw [if_pos (by omega)] | rw [if_neg (by omega)]
  · refine wm_iconst hC (pc := 9) dX9_canStand_9 ?_
    refine wm_goto hC 14 (pc := 10) dX9_canStand_10 (by decide) ?_
    refine wm_iretI hC (pc := 14) dX9_canStand_14 ?_
    refine ⟨hk, ?_⟩
    unfold standF
    first | rw [if_pos (by omega)] | rw [if_neg (by omega)]
set_option maxRecDepth 100000 in
set_option maxHeartbeats 200000 in
theorem s_X9_standsIn {l : Launch} {G : mG} {w : mW} {a b : Int} (hI : RInv w) (ha : -2147483648 ≤ a ∧ a < 2147483648) (hb : -2147483648 ≤ b ∧ b < 2147483648) : Mx l G 8 yX9_standsIn cX9_standsIn 3 (some .int) [mvR 31, mvI a, mvI b] w (qI (fun z w' => (¬ (0 ≤ a ∧ a < 3 ∧ 0 ≤ b ∧ b < 3) ∧ z = -1000001 ∧ w' = w) ∨ ((0 ≤ a ∧ a < 3 ∧ 0 ≤ b ∧ b < 3) ∧ z = standF (rv w) (2 * a.toNat + 1) (2 * b.toNat + 1) ∧ rkeep w w'))) := by
  refine Mx.intro (by decide) RX9 rfl [some (mvR 31), some (mvI a), some (mvI b)] (Nat.le_of_ble_eq_true rfl) rfl (fun K hC => ?_)
  refine wm_iload_n hC 1 (pc := 0) dX9_standsIn_0 rfl rfl ?_
  refine wm_pS hC cs_X9_74 kc_X9_isPlan (s_X9_isPlan (by omega)) rfl (by decide) rfl (Nat.le_of_ble_eq_true rfl) (pc := 1) dX9_standsIn_1 ?_
  refine wm_ifd_eq hC 23 (pc := 4) dX9_standsIn_4 (by decide) (fun h4 => ?_) (fun h4 => ?_)
  · refine wm_ldc hC (-1000001) kI_X9_81 (pc := 23) dX9_standsIn_23 ?_
    refine wm_iretI hC (pc := 25) dX9_standsIn_25 ?_
    first | (left; exact ⟨by omega, rfl, rfl⟩) | (right; refine ⟨by omega, ?_, hw17.1⟩; rw [Int.toNat_natCast p, Int.toNat_natCast q]; exact hw17.2)
  · refine wm_iload_n hC 2 (pc := 7) dX9_standsIn_7 rfl rfl ?_
    refine wm_pS hC cs_X9_74 kc_X9_isPlan (s_X9_isPlan (by omega)) rfl (by decide) rfl (Nat.le_of_ble_eq_true rfl) (pc := 8) dX9_standsIn_8 ?_
    refine wm_ifd_eq hC 23 (pc := 11) dX9_standsIn_11 (by decide) (fun h11 => ?_) (fun h11 => ?_)
    · refine wm_ldc hC (-1000001) kI_X9_81 (pc := 23) dX9_standsIn_23 ?_
      refine wm_iretI hC (pc := 25) dX9_standsIn_25 ?_
      first | (left; exact ⟨by omega, rfl, rfl⟩) | (right; refine ⟨by omega, ?_, hw17.1⟩; rw [Int.toNat_natCast p, Int.toNat_natCast q]; exact hw17.2)
    · obtain ⟨p, rfl⟩ : ∃ p : Nat, a = (p : Int) := ⟨a.toNat, by omega⟩
      have hp : p < 3 := by omega
      obtain ⟨q, rfl⟩ : ∃ q : Nat, b = (q : Int) := ⟨b.toNat, by omega⟩
      have hq : q < 3 := by omega
      refine wm_aload_n hC 0 (pc := 14) dX9_standsIn_14 rfl rfl ?_
      refine wm_iload_n hC 1 (pc := 15) dX9_standsIn_15 rfl rfl ?_
      refine wm_iload_n hC 2 (pc := 16) dX9_standsIn_16 rfl rfl ?_
      refine wm_iV hC cv_X9_205 kc_X9_canStand rfl rfl (s_X9_canStand hp hq hI.1) rfl (by decide) rfl (Nat.le_of_ble_eq_true rfl) (pc := 17) dX9_standsIn_17 (fun z17 w17 hw17 => ?_)
      refine wm_goto hC 25 (pc := 20) dX9_standsIn_20 (by decide) ?_
      refine wm_iretI hC (pc := 25) dX9_standsIn_25 ?_
      first | (left; exact ⟨by omega, rfl, rfl⟩) | (right; refine ⟨by omega, ?_, hw17.1⟩; rw [Int.toNat_natCast p, Int.toNat_natCast q]; exact hw17.2)
set_option maxRecDepth 100000 in
set_option maxHeartbeats 200000 in
theorem s_X9_wantedThen {l : Launch} {G : mG} {w : mW} {p q : Nat} {B : Bf} (hS : RSt2 w p q B) {i : Int} (hi : 0 ≤ i ∧ i < bN B) : Mx l G 5 yX9_wantedThen cX9_wantedThen 4 (some .int) [mvR 31, mvI (p : Int), mvI (q : Int), mvI i] w (qP (mvI (wntT (rv w) (2 * p + 1) (2 * q + 1) B i)) w) := by
  refine Mx.intro (by decide) RX9 rfl [some (mvR 31), some (mvI (p : Int)), some (mvI (q : Int)), some (mvI i)] (Nat.le_of_ble_eq_true rfl) rfl (fun K hC => ?_)
  refine wm_aload_n hC 0 (pc := 0) dX9_wantedThen_0 rfl rfl ?_
  refine wm_iload_n hC 1 (pc := 1) dX9_wantedThen_1 rfl rfl ?_
  refine wm_iload_n hC 2 (pc := 2) dX9_wantedThen_2 rfl rfl ?_
  refine wm_iload_n hC 3 (pc := 3) dX9_wantedThen_3 rfl rfl ?_
  refine wm_pV hC cv_X9_199 kc_X9_whyNot rfl rfl (s_X9_whyNot hS hi) rfl (by decide) rfl (Nat.le_of_ble_eq_true rfl) (pc := 4) dX9_wantedThen_4 ?_
  have hrr : 0 ≤ rsnB rsnS (rv w) (2 * p + 1) (2 * q + 1) B i ∧ rsnB rsnS (rv w) (2 * p + 1) (2 * q + 1) B i ≤ 5 := rsnS_rng _ _ _ _
  refine wm_iconst hC (pc := 7) dX9_wantedThen_7 ?_
  refine wm_icmp_ne hC 21 (pc := 8) dX9_wantedThen_8 (by decide) (by omega) (by omega) (fun h8 => ?_) (fun h8 => ?_)
  · refine wm_ldc hC (-1000004) kI_X9_121 (pc := 21) dX9_wantedThen_21 ?_
    refine wm_iretP hC (pc := 23) dX9_wantedThen_23 ?_ rfl
    unfold wntT
    first | rw [if_pos (by omega)] | rw [if_neg (by omega)]
  · refine wm_aload_n hC 0 (pc := 11) dX9_wantedThen_11 rfl rfl ?_
    refine wm_iload_n hC 1 (pc := 12) dX9_wantedThen_12 rfl rfl ?_
    refine wm_iload_n hC 2 (pc := 13) dX9_wantedThen_13 rfl rfl ?_
    refine wm_iload_n hC 3 (pc := 14) dX9_wantedThen_14 rfl rfl ?_
    refine wm_pV hC cv_X9_196 kc_X9_wanted rfl rfl (s_X9_wanted hS hi) rfl (by decide) rfl (Nat.le_of_ble_eq_true rfl) (pc := 15) dX9_wantedThen_15 ?_
    refine wm_goto hC 23 (pc := 18) dX9_wantedThen_18 (by decide) ?_
    refine wm_iretP hC (pc := 23) dX9_wantedThen_23 ?_ rfl
    unfold wntT
    first | rw [if_pos (by omega)] | rw [if_neg (by omega)]
set_option maxRecDepth 100000 in
set_option maxHeartbeats 200000 in
theorem s_X9_against {l : Launch} {G : mG} {w : mW} {a b c : Int} (hI : RInv w) (ha : -2147483648 ≤ a ∧ a < 2147483648) (hb : -2147483648 ≤ b ∧ b < 2147483648) (hc : -2147483648 ≤ c ∧ c < 2147483648) : Mx l G 7 yX9_against cX9_against 5 (some .int) [mvR 31, mvI a, mvI b, mvI c] w (qI (fun z w' => (¬ (0 ≤ a ∧ a < 3 ∧ 0 ≤ b ∧ b < 3 ∧ ((0 ≤ c ∧ c ≤ 4) ∨ (10 ≤ c ∧ c < 74))) ∧ z = -1000001 ∧ w' = w) ∨ ((0 ≤ a ∧ a < 3 ∧ 0 ≤ b ∧ b < 3 ∧ ((0 ≤ c ∧ c ≤ 4) ∨ (10 ≤ c ∧ c < 74))) ∧ z = ragB (rv w) (2 * a.toNat + 1) (2 * b.toNat + 1) (bSt (rv w) (2 * a.toNat + 1) (2 * b.toNat + 1)) (faultB rsnS (rv w) (2 * a.toNat + 1) (2 * b.toNat + 1) (bSt (rv w) (2 * a.toNat + 1) (2 * b.toNat + 1))) c ∧ rkeep w w'))) := by
  refine Mx.intro (by decide) RX9 rfl [some (mvR 31), some (mvI a), some (mvI b), some (mvI c), none] (Nat.le_of_ble_eq_true rfl) rfl (fun K hC => ?_)
  refine wm_iload_n hC 1 (pc := 0) dX9_against_0 rfl rfl ?_
  refine wm_pS hC cs_X9_74 kc_X9_isPlan (s_X9_isPlan (by omega)) rfl (by decide) rfl (Nat.le_of_ble_eq_true rfl) (pc := 1) dX9_against_1 ?_
  refine wm_ifd_eq hC 22 (pc := 4) dX9_against_4 (by decide) (fun h4 => ?_) (fun h4 => ?_)
  · refine wm_ldc hC (-1000001) kI_X9_81 (pc := 22) dX9_against_22 ?_
    refine wm_iretI hC (pc := 24) dX9_against_24 ?_
    left
    exact ⟨by omega, rfl, rfl⟩
  · refine wm_iload_n hC 2 (pc := 7) dX9_against_7 rfl rfl ?_
    refine wm_pS hC cs_X9_74 kc_X9_isPlan (s_X9_isPlan (by omega)) rfl (by decide) rfl (Nat.le_of_ble_eq_true rfl) (pc := 8) dX9_against_8 ?_
    refine wm_ifd_eq hC 22 (pc := 11) dX9_against_11 (by decide) (fun h11 => ?_) (fun h11 => ?_)
    · refine wm_ldc hC (-1000001) kI_X9_81 (pc := 22) dX9_against_22 ?_
      refine wm_iretI hC (pc := 24) dX9_against_24 ?_
      left
      exact ⟨by omega, rfl, rfl⟩
    · refine wm_iload_n hC 3 (pc := 14) dX9_against_14 rfl rfl ?_
      refine wm_iconst hC (pc := 15) dX9_against_15 ?_
      refine wm_pS hC cs_X9_150 kc_X9_isRowAsked (s_X9_isRowAsked (by omega) (by omega)) rfl (by decide) rfl (Nat.le_of_ble_eq_true rfl) (pc := 16) dX9_against_16 ?_
      refine wm_ifd_ne hC 25 (pc := 19) dX9_against_19 (by decide) (fun h19 => ?_) (fun h19 => ?_)
      · obtain ⟨p, rfl⟩ : ∃ p : Nat, a = (p : Int) := ⟨a.toNat, by omega⟩
        have hp : p < 3 := by omega
        obtain ⟨q, rfl⟩ : ∃ q : Nat, b = (q : Int) := ⟨b.toNat, by omega⟩
        have hq : q < 3 := by omega
        refine wm_aload_n hC 0 (pc := 25) dX9_against_25 rfl rfl ?_
        refine wm_iload_n hC 1 (pc := 26) dX9_against_26 rfl rfl ?_
        refine wm_iload_n hC 2 (pc := 27) dX9_against_27 rfl rfl ?_
        refine wm_iV hC cv_X9_202 kc_X9_firstAgainst rfl rfl (s_X9_firstAgainst hp hq hI.1) rfl (by decide) rfl (Nat.le_of_ble_eq_true rfl) (pc := 28) dX9_against_28 (fun z28 w28 hw28 => ?_)
        obtain ⟨hk, hS, hz28⟩ := hw28
        have hfr := faultB_rng rsnS (rv w) (2 * p + 1) (2 * q + 1) hS.2.2.2.2
        have hle := hS.2.2.2.2.le
        refine wm_istore hC  (pc := 31) dX9_against_31  (by decide) rfl ?_
        refine wm_iload hC  (pc := 33) dX9_against_33 rfl ?_
        refine wm_if_ge hC 41 (pc := 35) dX9_against_35 (by decide) (by omega) (fun h35 => ?_) (fun h35 => ?_)
        · refine wm_iload_n hC 3 (pc := 41) dX9_against_41 rfl rfl ?_
          by_cases sw42_0 : c = 0
          · refine wm_tableIn hC 76 (0) (pc := 42) dX9_against_42 sw42_0 (by decide) rfl (by decide) ?_
            refine wm_aload_n hC 0 (pc := 76) dX9_against_76 rfl rfl ?_
            refine wm_getR hC fl_X9_32_8 rfl rfl (pc := 77) dX9_against_77 ?_
            refine wm_iload hC  (pc := 80) dX9_against_80 rfl ?_
            refine wm_iaload hC rfl (by omega) (by decide) (pc := 82) dX9_against_82 ?_
            rw [(hS.2.2.2.1.2.1 _ (by omega) (by omega)).2.1]
            refine wm_iretI hC (pc := 83) dX9_against_83 ?_
            right
            refine ⟨by omega, ?_, hk⟩
            rw [Int.toNat_natCast p, Int.toNat_natCast q, ← hz28]
            exact (ragB_0 (by omega) sw42_0).symm
          by_cases sw42_1 : c = 1
          · refine wm_tableIn hC 84 (1) (pc := 42) dX9_against_42 sw42_1 (by decide) rfl (by decide) ?_
            refine wm_aload_n hC 0 (pc := 84) dX9_against_84 rfl rfl ?_
            refine wm_getR hC fl_X9_23_8 rfl rfl (pc := 85) dX9_against_85 ?_
            refine wm_iload hC  (pc := 88) dX9_against_88 rfl ?_
            refine wm_iaload hC rfl (by omega) (by decide) (pc := 90) dX9_against_90 ?_
            rw [(hS.2.2.2.1.2.1 _ (by omega) (by omega)).1]
            have hPr := (hS.2.2.2.2.2.2.1 z28 (by omega) (by omega)).1
            refine wm_bipush hC (pc := 91) dX9_against_91 (by decide) ?_
            refine wm_idiv hC (pc := 93) dX9_against_93 (by omega) (by omega) ?_
            refine wm_iretI hC (pc := 94) dX9_against_94 ?_
            right
            refine ⟨by omega, ?_, hk⟩
            rw [Int.toNat_natCast p, Int.toNat_natCast q, ← hz28]
            exact (ragB_1 (by omega) sw42_0 sw42_1).symm
          by_cases sw42_2 : c = 2
          · refine wm_tableIn hC 95 (2) (pc := 42) dX9_against_42 sw42_2 (by decide) rfl (by decide) ?_
            refine wm_aload_n hC 0 (pc := 95) dX9_against_95 rfl rfl ?_
            refine wm_getR hC fl_X9_23_8 rfl rfl (pc := 96) dX9_against_96 ?_
            refine wm_iload hC  (pc := 99) dX9_against_99 rfl ?_
            refine wm_iaload hC rfl (by omega) (by decide) (pc := 101) dX9_against_101 ?_
            rw [(hS.2.2.2.1.2.1 _ (by omega) (by omega)).1]
            have hPr := (hS.2.2.2.2.2.2.1 z28 (by omega) (by omega)).1
            refine wm_bipush hC (pc := 102) dX9_against_102 (by decide) ?_
            refine wm_irem hC (pc := 104) dX9_against_104 (by omega) (by omega) ?_
            refine wm_iretI hC (pc := 105) dX9_against_105 ?_
            right
            refine ⟨by omega, ?_, hk⟩
            rw [Int.toNat_natCast p, Int.toNat_natCast q, ← hz28]
            exact (ragB_2 (by omega) sw42_0 sw42_1 sw42_2).symm
          by_cases sw42_3 : c = 3
          · refine wm_tableIn hC 106 (3) (pc := 42) dX9_against_42 sw42_3 (by decide) rfl (by decide) ?_
            refine wm_aload_n hC 0 (pc := 106) dX9_against_106 rfl rfl ?_
            refine wm_iload_n hC 1 (pc := 107) dX9_against_107 rfl rfl ?_
            refine wm_iload_n hC 2 (pc := 108) dX9_against_108 rfl rfl ?_
            refine wm_iload hC  (pc := 109) dX9_against_109 rfl ?_
            refine wm_pV hC cv_X9_199 kc_X9_whyNot rfl rfl (s_X9_whyNot hS (by omega)) rfl (by decide) rfl (Nat.le_of_ble_eq_true rfl) (pc := 111) dX9_against_111 ?_
            rw [rv_congr (hk.1 32 (by decide) (by omega))]
            refine wm_iretI hC (pc := 114) dX9_against_114 ?_
            right
            refine ⟨by omega, ?_, hk⟩
            rw [Int.toNat_natCast p, Int.toNat_natCast q, ← hz28]
            exact (ragB_3 (by omega) sw42_0 sw42_1 sw42_2 sw42_3).symm
          by_cases sw42_4 : c = 4
          · refine wm_tableIn hC 115 (4) (pc := 42) dX9_against_42 sw42_4 (by decide) rfl (by decide) ?_
            refine wm_aload_n hC 0 (pc := 115) dX9_against_115 rfl rfl ?_
            refine wm_iload_n hC 1 (pc := 116) dX9_against_116 rfl rfl ?_
            refine wm_iload_n hC 2 (pc := 117) dX9_against_117 rfl rfl ?_
            refine wm_iload hC  (pc := 118) dX9_against_118 rfl ?_
            refine wm_pV hC cv_X9_208 kc_X9_wantedThen rfl rfl (s_X9_wantedThen hS (by omega)) rfl (by decide) rfl (Nat.le_of_ble_eq_true rfl) (pc := 120) dX9_against_120 ?_
            rw [rv_congr (hk.1 32 (by decide) (by omega))]
            refine wm_iretI hC (pc := 123) dX9_against_123 ?_
            right
            refine ⟨by omega, ?_, hk⟩
            rw [Int.toNat_natCast p, Int.toNat_natCast q, ← hz28]
            exact (ragB_4 (by omega) sw42_0 sw42_1 sw42_2 sw42_3 sw42_4).symm
          refine wm_tableOut hC 124 (pc := 42) dX9_against_42 (by decide) (by omega) (by omega) ?_
          refine wm_aload_n hC 0 (pc := 124) dX9_against_124 rfl rfl ?_
          refine wm_iload hC  (pc := 125) dX9_against_125 rfl ?_
          refine wm_iload_n hC 3 (pc := 127) dX9_against_127 rfl rfl ?_
          refine wm_bipush hC (pc := 128) dX9_against_128 (by decide) ?_
          refine wm_isub hC (pc := 130) dX9_against_130 ?_
          refine wm_pV hC cv_X9_161 kc_X9_wordOf rfl rfl (s_X9_wordOf hS (by omega) (by omega)) rfl (by decide) rfl (Nat.le_of_ble_eq_true rfl) (pc := 131) dX9_against_131 ?_
          refine wm_iretI hC (pc := 134) dX9_against_134 ?_
          right
          refine ⟨by omega, ?_, hk⟩
          rw [Int.toNat_natCast p, Int.toNat_natCast q, ← hz28]
          exact (ragB_5 (by omega) sw42_0 sw42_1 sw42_2 sw42_3 sw42_4).symm
        · refine wm_ldc hC (-1000004) kI_X9_121 (pc := 38) dX9_against_38 ?_
          refine wm_iretI hC (pc := 40) dX9_against_40 ?_
          right
          refine ⟨by omega, ?_, hk⟩
          rw [Int.toNat_natCast p, Int.toNat_natCast q, ← hz28]
          exact (ragB_n (by omega) ).symm
      · refine wm_ldc hC (-1000001) kI_X9_81 (pc := 22) dX9_against_22 ?_
        refine wm_iretI hC (pc := 24) dX9_against_24 ?_
        left
        exact ⟨by omega, rfl, rfl⟩
