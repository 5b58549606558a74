/-! the reference: rows counted from the last ones on -/
def wsum (w : mW) (sx : Int → Int → Int) (en : Bool) (i : Int) : Nat → Int
  | 0 => if en then 1 else 0
  | k + 1 => wsum w sx en i k + (if sx i (k : Int) < 0 then 0 else w 41 (sx i (k : Int)))
def kallK (w : mW) (sx : Int → Int → Int) (i : Int) (k : Nat) : Bool := decide (sx i (k : Int) < 0) || decide (w 42 (sx i (k : Int)) = 1)
def kall (w : mW) (sx : Int → Int → Int) (i : Int) : Bool := allb (kallK w sx i) 6
def WOK (w : mW) (n : Int) : Prop := ∀ i : Int, 0 ≤ i → i < n → (w 42 i = 0 ∨ w 42 i = 1) ∧ 0 ≤ w 41 i ∧ w 41 i ≤ 1000000000000001
theorem wsum_rng {w : mW} {sx : Int → Int → Int} {nx : Int → Int → Int} {B : Bf} (hW : WOK w (bN B)) (hB : BInv B) (hC : SxC sx nx B) {i : Int} (hi : 0 ≤ i ∧ i < bN B) (en : Bool) : ∀ n : Nat, n ≤ 6 → 0 ≤ wsum w sx en i n ∧ wsum w sx en i n ≤ 1 + n * 1000000000000001
  | 0, _ => by unfold wsum; split <;> omega
  | n + 1, h => by
    have ih := wsum_rng hW hB hC hi en n (by omega)
    have hle := hB.le
    have hc := hC i (n : Int) hi.1 hi.2 (by omega) (by omega)
    unfold wsum
    split
    · omega
    · rcases hc with hc | hc
      · omega
      · have := hW (sx i (n : Int)) (by omega) (by omega)
        omega
set_option maxRecDepth 100000 in
set_option maxHeartbeats 1000000 in
theorem s_X9_counts {l : Launch} {G : mG} {w : mW} {p q : Nat} {B : Bf} (hS : RSt2 w p q B) {i : Int} (hi : 0 ≤ i ∧ i < bN B) (hX : SxC (posF togT (rv w) (2 * p + 1) (2 * q + 1) B) (nxF togT (rv w) (2 * p + 1) (2 * q + 1)) B) (hW : WOK w (bN B)) : Mx l G 5 yX9_counts cX9_counts 9 (some .boolean) [mvR 31, mvI (p : Int), mvI (q : Int), mvI i] w (qI (fun z w' => z = mb (kall w (posF togT (rv w) (2 * p + 1) (2 * q + 1) B) i) ∧ w' = mup w 41 i (capI (wsum w (posF togT (rv w) (2 * p + 1) (2 * q + 1) B) (endB (rv w) (2 * p + 1) (2 * q + 1) B i) i 6)))) := by
  refine Mx.intro (by decide) RX9 rfl [some (mvR 31), some (mvI (p : Int)), some (mvI (q : Int)), some (mvI i), none, none, none, none, none] (Nat.le_of_ble_eq_true rfl) rfl (fun K hC => ?_)
  obtain ⟨hR, hp, hq, hA, hB⟩ := id hS
  have hle := hB.le
  have hI := hB.2.2.1 i hi.1 hi.2
  have hIA := hA.2.1 i hi.1 hi.2
  refine wm_aload_n hC 0 (pc := 0) dX9_counts_0 rfl rfl ?_
  refine wm_iload_n hC 1 (pc := 1) dX9_counts_1 rfl rfl ?_
  refine wm_iload_n hC 2 (pc := 2) dX9_counts_2 rfl rfl ?_
  refine wm_iload_n hC 3 (pc := 3) dX9_counts_3 rfl rfl ?_
  refine wm_pV hC cv_X9_164 kc_X9_isEnd rfl rfl (s_X9_isEnd hS hi) rfl (by decide) rfl (Nat.le_of_ble_eq_true rfl) (pc := 4) dX9_counts_4 ?_
  refine wm_ifb_eq hC 14 (pc := 7) dX9_counts_7 (by decide) (fun h7 => ?_) (fun h7 => ?_)
  · have hE0 : wsum w (posF togT (rv w) (2 * p + 1) (2 * q + 1) B) (endB (rv w) (2 * p + 1) (2 * q + 1) B i) i 0 = 0 := by show (if (endB (rv w) (2 * p + 1) (2 * q + 1) B i) then _ else _) = _; rw [h7]; rfl
    refine wm_lconst hC 0 (pc := 14) dX9_counts_14 rfl ?_
    refine wm_lstore hC  (pc := 15) dX9_counts_15  (by decide) rfl ?_
    refine wm_iconst hC (pc := 17) dX9_counts_17 ?_
    refine wm_istore hC  (pc := 18) dX9_counts_18  (by decide) rfl ?_
    refine wm_iconst hC (pc := 20) dX9_counts_20 ?_
    refine wm_istore hC  (pc := 21) dX9_counts_21  (by decide) rfl ?_
    have lp23 : ∀ (n : Nat) (k : Nat) (o8 : Option mV), n = 6 - k → k ≤ 6 → Wm l G K 5 9 (qI (fun z w' => z = mb (kall w (posF togT (rv w) (2 * p + 1) (2 * q + 1) B) i) ∧ w' = mup w 41 i (capI (wsum w (posF togT (rv w) (2 * p + 1) (2 * q + 1) B) (endB (rv w) (2 * p + 1) (2 * q + 1) B i) i 6)))) 23 [some (mvR 31), some (mvI (p : Int)), some (mvI (q : Int)), some (mvI i), some (mvJ (wsum w (posF togT (rv w) (2 * p + 1) (2 * q + 1) B) (endB (rv w) (2 * p + 1) (2 * q + 1) B i) i k)), none, some (mvI (mb (allb (kallK w (posF togT (rv w) (2 * p + 1) (2 * q + 1) B) i) k))), some (mvI (k : Int)), o8] [] w := by
      intro n
      induction n using Nat.strongRecOn with
      | _ n ih =>
      intro k o8 hn hk
      refine wm_iload hC  (pc := 23) dX9_counts_23 rfl ?_
      refine wm_bipush hC (pc := 25) dX9_counts_25 (by decide) ?_
      refine wm_icmp_ge hC 106 (pc := 27) dX9_counts_27 (by decide) (by omega) (by omega) (fun h27 => ?_) (fun h27 => ?_)
      · refine wm_aload_n hC 0 (pc := 106) dX9_counts_106 rfl rfl ?_
        refine wm_getR hC fl_X9_38_8 rfl rfl (pc := 107) dX9_counts_107 ?_
        refine wm_iload_n hC 3 (pc := 110) dX9_counts_110 rfl rfl ?_
        refine wm_lload hC  (pc := 111) dX9_counts_111 rfl ?_
        refine wm_ldc2 hC (1000000000000000) kJ_X9_167 (pc := 113) dX9_counts_113 ?_
        have hwr := wsum_rng hW hB hX hi (endB (rv w) (2 * p + 1) (2 * q + 1) B i) 6 (by omega)
        obtain rfl : k = 6 := by omega
        refine wm_lcmp hC (pc := 116) dX9_counts_116 (by omega) (by omega) ?_
        have hcm : (wsum w (posF togT (rv w) (2 * p + 1) (2 * q + 1) B) (endB (rv w) (2 * p + 1) (2 * q + 1) B i) i 6 ≤ 1000000000000000 → mcmp (wsum w (posF togT (rv w) (2 * p + 1) (2 * q + 1) B) (endB (rv w) (2 * p + 1) (2 * q + 1) B i) i 6) 1000000000000000 ≤ 0) ∧ (1000000000000000 < wsum w (posF togT (rv w) (2 * p + 1) (2 * q + 1) B) (endB (rv w) (2 * p + 1) (2 * q + 1) B i) i 6 → mcmp (wsum w (posF togT (rv w) (2 * p + 1) (2 * q + 1) B) (endB (rv w) (2 * p + 1) (2 * q + 1) B i) i 6) 1000000000000000 = 1) ∧ (-1 ≤ mcmp (wsum w (posF togT (rv w) (2 * p + 1) (2 * q + 1) B) (endB (rv w) (2 * p + 1) (2 * q + 1) B i) i 6) 1000000000000000 ∧ mcmp (wsum w (posF togT (rv w) (2 * p + 1) (2 * q + 1) B) (endB (rv w) (2 * p + 1) (2 * q + 1) B i) i 6) 1000000000000000 ≤ 1) := by
          unfold mcmp; (repeat' split) <;> omega
        refine wm_if_le hC 126 (pc := 117) dX9_counts_117 (by decide) (by omega) (fun h117 => ?_) (fun h117 => ?_)
        · have E3 : capI (wsum w (posF togT (rv w) (2 * p + 1) (2 * q + 1) B) (endB (rv w) (2 * p + 1) (2 * q + 1) B i) i 6) = wsum w (posF togT (rv w) (2 * p + 1) (2 * q + 1) B) (endB (rv w) (2 * p + 1) (2 * q + 1) B i) i 6 := by unfold capI CAP; rw [if_pos (by omega)]
          refine wm_lload hC  (pc := 126) dX9_counts_126 rfl ?_
          refine wm_lastore hC rfl (by omega) (by decide) (pc := 128) dX9_counts_128 ?_
          refine wm_iload hC  (pc := 129) dX9_counts_129 rfl ?_
          refine wm_zretI hC (pc := 131) dX9_counts_131 (mb_01 _) ?_
          exact ⟨rfl, by rw [E3]⟩
        · have E3 : capI (wsum w (posF togT (rv w) (2 * p + 1) (2 * q + 1) B) (endB (rv w) (2 * p + 1) (2 * q + 1) B i) i 6) = 1000000000000001 := by unfold capI CAP; split <;> omega
          refine wm_ldc2 hC (1000000000000001) kJ_X9_169 (pc := 120) dX9_counts_120 ?_
          refine wm_goto hC 128 (pc := 123) dX9_counts_123 (by decide) ?_
          refine wm_lastore hC rfl (by omega) (by decide) (pc := 128) dX9_counts_128 ?_
          refine wm_iload hC  (pc := 129) dX9_counts_129 rfl ?_
          refine wm_zretI hC (pc := 131) dX9_counts_131 (mb_01 _) ?_
          exact ⟨rfl, by rw [E3]⟩
      · refine wm_aload_n hC 0 (pc := 30) dX9_counts_30 rfl rfl ?_
        refine wm_iload_n hC 1 (pc := 31) dX9_counts_31 rfl rfl ?_
        refine wm_iload_n hC 2 (pc := 32) dX9_counts_32 rfl rfl ?_
        refine wm_iload_n hC 3 (pc := 33) dX9_counts_33 rfl rfl ?_
        refine wm_iload hC  (pc := 34) dX9_counts_34 rfl ?_
        refine wm_iconst hC (pc := 36) dX9_counts_36 ?_
        refine wm_pV hC cv_X9_137 kc_X9_follows rfl rfl (s_X9_follows hS hi (by omega) (tk := true)) rfl (by decide) rfl (Nat.le_of_ble_eq_true rfl) (pc := 37) dX9_counts_37 ?_
        rw [togX_t]
        have hc := hX i (k : Int) hi.1 hi.2 (by omega) (by omega)
        have hs1 : allb (kallK w (posF togT (rv w) (2 * p + 1) (2 * q + 1) B) i) (k + 1) = (allb (kallK w (posF togT (rv w) (2 * p + 1) (2 * q + 1) B) i) k && (decide ((posF togT (rv w) (2 * p + 1) (2 * q + 1) B) i (k : Int) < 0) || decide (w 42 ((posF togT (rv w) (2 * p + 1) (2 * q + 1) B) i (k : Int)) = 1))) := rfl
        have hs2 : wsum w (posF togT (rv w) (2 * p + 1) (2 * q + 1) B) (endB (rv w) (2 * p + 1) (2 * q + 1) B i) i (k + 1) = wsum w (posF togT (rv w) (2 * p + 1) (2 * q + 1) B) (endB (rv w) (2 * p + 1) (2 * q + 1) B i) i k + (if (posF togT (rv w) (2 * p + 1) (2 * q + 1) B) i (k : Int) < 0 then 0 else w 41 ((posF togT (rv w) (2 * p + 1) (2 * q + 1) B) i (k : Int))) := rfl
        have hwr := wsum_rng hW hB hX hi (endB (rv w) (2 * p + 1) (2 * q + 1) B i) k (by omega)
        refine wm_istore hC  (pc := 40) dX9_counts_40  (by decide) rfl ?_
        refine wm_iload hC  (pc := 42) dX9_counts_42 rfl ?_
        refine wm_ifb_eq hC 71 (pc := 44) dX9_counts_44 (by decide) (fun h44 => ?_) (fun h44 => ?_)
        · have E1 : mb (allb (kallK w (posF togT (rv w) (2 * p + 1) (2 * q + 1) B) i) (k + 1)) = 0 := by rw [hs1, h44]; rfl
          refine wm_iconst hC (pc := 71) dX9_counts_71 ?_
          refine wm_istore hC  (pc := 72) dX9_counts_72  (by decide) rfl ?_
          refine wm_lload hC  (pc := 74) dX9_counts_74 rfl ?_
          refine wm_iload hC  (pc := 76) dX9_counts_76 rfl ?_
          refine wm_if_ge hC 85 (pc := 78) dX9_counts_78 (by decide) (by omega) (fun h78 => ?_) (fun h78 => ?_)
          · have E2 : wsum w (posF togT (rv w) (2 * p + 1) (2 * q + 1) B) (endB (rv w) (2 * p + 1) (2 * q + 1) B i) i (k + 1) = wsum w (posF togT (rv w) (2 * p + 1) (2 * q + 1) B) (endB (rv w) (2 * p + 1) (2 * q + 1) B i) i k + w 41 (bS B ((nxF togT (rv w) (2 * p + 1) (2 * q + 1)) (bP B i) (k : Int))) := by rw [hs2, if_neg (show ¬ (posF togT (rv w) (2 * p + 1) (2 * q + 1) B) i (k : Int) < 0 by omega), show (posF togT (rv w) (2 * p + 1) (2 * q + 1) B) i (k : Int) = bS B ((nxF togT (rv w) (2 * p + 1) (2 * q + 1)) (bP B i) (k : Int)) by omega]
            refine wm_aload_n hC 0 (pc := 85) dX9_counts_85 rfl rfl ?_
            refine wm_getR hC fl_X9_38_8 rfl rfl (pc := 86) dX9_counts_86 ?_
            refine wm_aload_n hC 0 (pc := 89) dX9_counts_89 rfl rfl ?_
            refine wm_getR hC fl_X9_35_8 rfl rfl (pc := 90) dX9_counts_90 ?_
            refine wm_iload hC  (pc := 93) dX9_counts_93 rfl ?_
            refine wm_iaload hC rfl (by omega) (by decide) (pc := 95) dX9_counts_95 ?_
            rw [hA.2.2 _ (by omega) (by omega)]
            refine wm_laload hC rfl (by omega) (by decide) (pc := 96) dX9_counts_96 ?_
            refine wm_ladd hC (pc := 97) dX9_counts_97 ?_
            refine wm_lstore hC  (pc := 98) dX9_counts_98  (by decide) rfl ?_
            refine wm_iinc hC (pc := 100) dX9_counts_100 rfl rfl (by decide) rfl ?_
            refine wm_goto hC 23 (pc := 103) dX9_counts_103 (by decide) ?_
            have hh := ih _ (by omega) (k + 1) (some (mvI ((nxF togT (rv w) (2 * p + 1) (2 * q + 1)) (bP B i) (k : Int)))) rfl (by omega)
            rw [E1, E2] at hh
            exact hh
          · have E2 : wsum w (posF togT (rv w) (2 * p + 1) (2 * q + 1) B) (endB (rv w) (2 * p + 1) (2 * q + 1) B i) i (k + 1) = wsum w (posF togT (rv w) (2 * p + 1) (2 * q + 1) B) (endB (rv w) (2 * p + 1) (2 * q + 1) B i) i k + 0 := by rw [hs2, if_pos (show (posF togT (rv w) (2 * p + 1) (2 * q + 1) B) i (k : Int) < 0 by omega)]
            refine wm_lconst hC 0 (pc := 81) dX9_counts_81 rfl ?_
            refine wm_goto hC 97 (pc := 82) dX9_counts_82 (by decide) ?_
            refine wm_ladd hC (pc := 97) dX9_counts_97 ?_
            refine wm_lstore hC  (pc := 98) dX9_counts_98  (by decide) rfl ?_
            refine wm_iinc hC (pc := 100) dX9_counts_100 rfl rfl (by decide) rfl ?_
            refine wm_goto hC 23 (pc := 103) dX9_counts_103 (by decide) ?_
            have hh := ih _ (by omega) (k + 1) (some (mvI ((nxF togT (rv w) (2 * p + 1) (2 * q + 1)) (bP B i) (k : Int)))) rfl (by omega)
            rw [E1, E2] at hh
            exact hh
        · refine wm_iload hC  (pc := 47) dX9_counts_47 rfl ?_
          refine wm_if_lt hC 67 (pc := 49) dX9_counts_49 (by decide) (by omega) (fun h49 => ?_) (fun h49 => ?_)
          · have E1 : mb (allb (kallK w (posF togT (rv w) (2 * p + 1) (2 * q + 1) B) i) (k + 1)) = 1 := by rw [hs1, h44, decide_eq_true (show (posF togT (rv w) (2 * p + 1) (2 * q + 1) B) i (k : Int) < 0 by omega)]; rfl
            refine wm_iconst hC (pc := 67) dX9_counts_67 ?_
            refine wm_goto hC 72 (pc := 68) dX9_counts_68 (by decide) ?_
            refine wm_istore hC  (pc := 72) dX9_counts_72  (by decide) rfl ?_
            refine wm_lload hC  (pc := 74) dX9_counts_74 rfl ?_
            refine wm_iload hC  (pc := 76) dX9_counts_76 rfl ?_
            refine wm_if_ge hC 85 (pc := 78) dX9_counts_78 (by decide) (by omega) (fun h78 => ?_) (fun h78 => ?_)
            · have E2 : wsum w (posF togT (rv w) (2 * p + 1) (2 * q + 1) B) (endB (rv w) (2 * p + 1) (2 * q + 1) B i) i (k + 1) = wsum w (posF togT (rv w) (2 * p + 1) (2 * q + 1) B) (endB (rv w) (2 * p + 1) (2 * q + 1) B i) i k + w 41 (bS B ((nxF togT (rv w) (2 * p + 1) (2 * q + 1)) (bP B i) (k : Int))) := by rw [hs2, if_neg (show ¬ (posF togT (rv w) (2 * p + 1) (2 * q + 1) B) i (k : Int) < 0 by omega), show (posF togT (rv w) (2 * p + 1) (2 * q + 1) B) i (k : Int) = bS B ((nxF togT (rv w) (2 * p + 1) (2 * q + 1)) (bP B i) (k : Int)) by omega]
              refine wm_aload_n hC 0 (pc := 85) dX9_counts_85 rfl rfl ?_
              refine wm_getR hC fl_X9_38_8 rfl rfl (pc := 86) dX9_counts_86 ?_
              refine wm_aload_n hC 0 (pc := 89) dX9_counts_89 rfl rfl ?_
              refine wm_getR hC fl_X9_35_8 rfl rfl (pc := 90) dX9_counts_90 ?_
              refine wm_iload hC  (pc := 93) dX9_counts_93 rfl ?_
              refine wm_iaload hC rfl (by omega) (by decide) (pc := 95) dX9_counts_95 ?_
              rw [hA.2.2 _ (by omega) (by omega)]
              refine wm_laload hC rfl (by omega) (by decide) (pc := 96) dX9_counts_96 ?_
              refine wm_ladd hC (pc := 97) dX9_counts_97 ?_
              refine wm_lstore hC  (pc := 98) dX9_counts_98  (by decide) rfl ?_
              refine wm_iinc hC (pc := 100) dX9_counts_100 rfl rfl (by decide) rfl ?_
              refine wm_goto hC 23 (pc := 103) dX9_counts_103 (by decide) ?_
              have hh := ih _ (by omega) (k + 1) (some (mvI ((nxF togT (rv w) (2 * p + 1) (2 * q + 1)) (bP B i) (k : Int)))) rfl (by omega)
              rw [E1, E2] at hh
              exact hh
            · have E2 : wsum w (posF togT (rv w) (2 * p + 1) (2 * q + 1) B) (endB (rv w) (2 * p + 1) (2 * q + 1) B i) i (k + 1) = wsum w (posF togT (rv w) (2 * p + 1) (2 * q + 1) B) (endB (rv w) (2 * p + 1) (2 * q + 1) B i) i k + 0 := by rw [hs2, if_pos (show (posF togT (rv w) (2 * p + 1) (2 * q + 1) B) i (k : Int) < 0 by omega)]
              refine wm_lconst hC 0 (pc := 81) dX9_counts_81 rfl ?_
              refine wm_goto hC 97 (pc := 82) dX9_counts_82 (by decide) ?_
              refine wm_ladd hC (pc := 97) dX9_counts_97 ?_
              refine wm_lstore hC  (pc := 98) dX9_counts_98  (by decide) rfl ?_
              refine wm_iinc hC (pc := 100) dX9_counts_100 rfl rfl (by decide) rfl ?_
              refine wm_goto hC 23 (pc := 103) dX9_counts_103 (by decide) ?_
              have hh := ih _ (by omega) (k + 1) (some (mvI ((nxF togT (rv w) (2 * p + 1) (2 * q + 1)) (bP B i) (k : Int)))) rfl (by omega)
              rw [E1, E2] at hh
              exact hh
          · refine wm_aload_n hC 0 (pc := 52) dX9_counts_52 rfl rfl ?_
            refine wm_getR hC fl_X9_42_8 rfl rfl (pc := 53) dX9_counts_53 ?_
            refine wm_aload_n hC 0 (pc := 56) dX9_counts_56 rfl rfl ?_
            refine wm_getR hC fl_X9_35_8 rfl rfl (pc := 57) dX9_counts_57 ?_
            refine wm_iload hC  (pc := 60) dX9_counts_60 rfl ?_
            refine wm_iaload hC rfl (by omega) (by decide) (pc := 62) dX9_counts_62 ?_
            rw [hA.2.2 _ (by omega) (by omega)]
            have es : (posF togT (rv w) (2 * p + 1) (2 * q + 1) B) i (k : Int) = bS B ((nxF togT (rv w) (2 * p + 1) (2 * q + 1)) (bP B i) (k : Int)) := by omega
            have hKi := (hW (bS B ((nxF togT (rv w) (2 * p + 1) (2 * q + 1)) (bP B i) (k : Int))) (by omega) (by omega)).1
            refine wm_baload hC rfl (by omega) (by decide) (pc := 63) dX9_counts_63 ?_
            refine wm_if_eq hC 71 (pc := 64) dX9_counts_64 (by decide) (by omega) (fun h64 => ?_) (fun h64 => ?_)
            · have E1 : mb (allb (kallK w (posF togT (rv w) (2 * p + 1) (2 * q + 1) B) i) (k + 1)) = 0 := by rw [hs1, h44, decide_eq_false (show ¬ (posF togT (rv w) (2 * p + 1) (2 * q + 1) B) i (k : Int) < 0 by omega), es, decide_eq_false (show ¬ w 42 (bS B ((nxF togT (rv w) (2 * p + 1) (2 * q + 1)) (bP B i) (k : Int))) = 1 by omega)]; rfl
              refine wm_iconst hC (pc := 71) dX9_counts_71 ?_
              refine wm_istore hC  (pc := 72) dX9_counts_72  (by decide) rfl ?_
              refine wm_lload hC  (pc := 74) dX9_counts_74 rfl ?_
              refine wm_iload hC  (pc := 76) dX9_counts_76 rfl ?_
              refine wm_if_ge hC 85 (pc := 78) dX9_counts_78 (by decide) (by omega) (fun h78 => ?_) (fun h78 => ?_)
              · have E2 : wsum w (posF togT (rv w) (2 * p + 1) (2 * q + 1) B) (endB (rv w) (2 * p + 1) (2 * q + 1) B i) i (k + 1) = wsum w (posF togT (rv w) (2 * p + 1) (2 * q + 1) B) (endB (rv w) (2 * p + 1) (2 * q + 1) B i) i k + w 41 (bS B ((nxF togT (rv w) (2 * p + 1) (2 * q + 1)) (bP B i) (k : Int))) := by rw [hs2, if_neg (show ¬ (posF togT (rv w) (2 * p + 1) (2 * q + 1) B) i (k : Int) < 0 by omega), show (posF togT (rv w) (2 * p + 1) (2 * q + 1) B) i (k : Int) = bS B ((nxF togT (rv w) (2 * p + 1) (2 * q + 1)) (bP B i) (k : Int)) by omega]
                refine wm_aload_n hC 0 (pc := 85) dX9_counts_85 rfl rfl ?_
                refine wm_getR hC fl_X9_38_8 rfl rfl (pc := 86) dX9_counts_86 ?_
                refine wm_aload_n hC 0 (pc := 89) dX9_counts_89 rfl rfl ?_
                refine wm_getR hC fl_X9_35_8 rfl rfl (pc := 90) dX9_counts_90 ?_
                refine wm_iload hC  (pc := 93) dX9_counts_93 rfl ?_
                refine wm_iaload hC rfl (by omega) (by decide) (pc := 95) dX9_counts_95 ?_
                rw [hA.2.2 _ (by omega) (by omega)]
                refine wm_laload hC rfl (by omega) (by decide) (pc := 96) dX9_counts_96 ?_
                refine wm_ladd hC (pc := 97) dX9_counts_97 ?_
                refine wm_lstore hC  (pc := 98) dX9_counts_98  (by decide) rfl ?_
                refine wm_iinc hC (pc := 100) dX9_counts_100 rfl rfl (by decide) rfl ?_
                refine wm_goto hC 23 (pc := 103) dX9_counts_103 (by decide) ?_
                have hh := ih _ (by omega) (k + 1) (some (mvI ((nxF togT (rv w) (2 * p + 1) (2 * q + 1)) (bP B i) (k : Int)))) rfl (by omega)
                rw [E1, E2] at hh
                exact hh
              · have E2 : wsum w (posF togT (rv w) (2 * p + 1) (2 * q + 1) B) (endB (rv w) (2 * p + 1) (2 * q + 1) B i) i (k + 1) = wsum w (posF togT (rv w) (2 * p + 1) (2 * q + 1) B) (endB (rv w) (2 * p + 1) (2 * q + 1) B i) i k + 0 := by rw [hs2, if_pos (show (posF togT (rv w) (2 * p + 1) (2 * q + 1) B) i (k : Int) < 0 by omega)]
                refine wm_lconst hC 0 (pc := 81) dX9_counts_81 rfl ?_
                refine wm_goto hC 97 (pc := 82) dX9_counts_82 (by decide) ?_
                refine wm_ladd hC (pc := 97) dX9_counts_97 ?_
                refine wm_lstore hC  (pc := 98) dX9_counts_98  (by decide) rfl ?_
                refine wm_iinc hC (pc := 100) dX9_counts_100 rfl rfl (by decide) rfl ?_
                refine wm_goto hC 23 (pc := 103) dX9_counts_103 (by decide) ?_
                have hh := ih _ (by omega) (k + 1) (some (mvI ((nxF togT (rv w) (2 * p + 1) (2 * q + 1)) (bP B i) (k : Int)))) rfl (by omega)
                rw [E1, E2] at hh
                exact hh
            · have E1 : mb (allb (kallK w (posF togT (rv w) (2 * p + 1) (2 * q + 1) B) i) (k + 1)) = 1 := by rw [hs1, h44, decide_eq_false (show ¬ (posF togT (rv w) (2 * p + 1) (2 * q + 1) B) i (k : Int) < 0 by omega), es, decide_eq_true (show w 42 (bS B ((nxF togT (rv w) (2 * p + 1) (2 * q + 1)) (bP B i) (k : Int))) = 1 by omega)]; rfl
              refine wm_iconst hC (pc := 67) dX9_counts_67 ?_
              refine wm_goto hC 72 (pc := 68) dX9_counts_68 (by decide) ?_
              refine wm_istore hC  (pc := 72) dX9_counts_72  (by decide) rfl ?_
              refine wm_lload hC  (pc := 74) dX9_counts_74 rfl ?_
              refine wm_iload hC  (pc := 76) dX9_counts_76 rfl ?_
              refine wm_if_ge hC 85 (pc := 78) dX9_counts_78 (by decide) (by omega) (fun h78 => ?_) (fun h78 => ?_)
              · have E2 : wsum w (posF togT (rv w) (2 * p + 1) (2 * q + 1) B) (endB (rv w) (2 * p + 1) (2 * q + 1) B i) i (k + 1) = wsum w (posF togT (rv w) (2 * p + 1) (2 * q + 1) B) (endB (rv w) (2 * p + 1) (2 * q + 1) B i) i k + w 41 (bS B ((nxF togT (rv w) (2 * p + 1) (2 * q + 1)) (bP B i) (k : Int))) := by rw [hs2, if_neg (show ¬ (posF togT (rv w) (2 * p + 1) (2 * q + 1) B) i (k : Int) < 0 by omega), show (posF togT (rv w) (2 * p + 1) (2 * q + 1) B) i (k : Int) = bS B ((nxF togT (rv w) (2 * p + 1) (2 * q + 1)) (bP B i) (k : Int)) by omega]
                refine wm_aload_n hC 0 (pc := 85) dX9_counts_85 rfl rfl ?_
                refine wm_getR hC fl_X9_38_8 rfl rfl (pc := 86) dX9_counts_86 ?_
                refine wm_aload_n hC 0 (pc := 89) dX9_counts_89 rfl rfl ?_
                refine wm_getR hC fl_X9_35_8 rfl rfl (pc := 90) dX9_counts_90 ?_
                refine wm_iload hC  (pc := 93) dX9_counts_93 rfl ?_
                refine wm_iaload hC rfl (by omega) (by decide) (pc := 95) dX9_counts_95 ?_
                rw [hA.2.2 _ (by omega) (by omega)]
                refine wm_laload hC rfl (by omega) (by decide) (pc := 96) dX9_counts_96 ?_
                refine wm_ladd hC (pc := 97) dX9_counts_97 ?_
                refine wm_lstore hC  (pc := 98) dX9_counts_98  (by decide) rfl ?_
                refine wm_iinc hC (pc := 100) dX9_counts_100 rfl rfl (by decide) rfl ?_
                refine wm_goto hC 23 (pc := 103) dX9_counts_103 (by decide) ?_
                have hh := ih _ (by omega) (k + 1) (some (mvI ((nxF togT (rv w) (2 * p + 1) (2 * q + 1)) (bP B i) (k : Int)))) rfl (by omega)
                rw [E1, E2] at hh
                exact hh
              · have E2 : wsum w (posF togT (rv w) (2 * p + 1) (2 * q + 1) B) (endB (rv w) (2 * p + 1) (2 * q + 1) B i) i (k + 1) = wsum w (posF togT (rv w) (2 * p + 1) (2 * q + 1) B) (endB (rv w) (2 * p + 1) (2 * q + 1) B i) i k + 0 := by rw [hs2, if_pos (show (posF togT (rv w) (2 * p + 1) (2 * q + 1) B) i (k : Int) < 0 by omega)]
                refine wm_lconst hC 0 (pc := 81) dX9_counts_81 rfl ?_
                refine wm_goto hC 97 (pc := 82) dX9_counts_82 (by decide) ?_
                refine wm_ladd hC (pc := 97) dX9_counts_97 ?_
                refine wm_lstore hC  (pc := 98) dX9_counts_98  (by decide) rfl ?_
                refine wm_iinc hC (pc := 100) dX9_counts_100 rfl rfl (by decide) rfl ?_
                refine wm_goto hC 23 (pc := 103) dX9_counts_103 (by decide) ?_
                have hh := ih _ (by omega) (k + 1) (some (mvI ((nxF togT (rv w) (2 * p + 1) (2 * q + 1)) (bP B i) (k : Int)))) rfl (by omega)
                rw [E1, E2] at hh
                exact hh
    have hh := lp23 _ 0 none rfl (by omega)
    rw [hE0] at hh
    exact hh
  · have hE0 : wsum w (posF togT (rv w) (2 * p + 1) (2 * q + 1) B) (endB (rv w) (2 * p + 1) (2 * q + 1) B i) i 0 = 1 := by show (if (endB (rv w) (2 * p + 1) (2 * q + 1) B i) then _ else _) = _; rw [h7]; rfl
    refine wm_lconst hC 1 (pc := 10) dX9_counts_10 rfl ?_
    refine wm_goto hC 15 (pc := 11) dX9_counts_11 (by decide) ?_
    refine wm_lstore hC  (pc := 15) dX9_counts_15  (by decide) rfl ?_
    refine wm_iconst hC (pc := 17) dX9_counts_17 ?_
    refine wm_istore hC  (pc := 18) dX9_counts_18  (by decide) rfl ?_
    refine wm_iconst hC (pc := 20) dX9_counts_20 ?_
    refine wm_istore hC  (pc := 21) dX9_counts_21  (by decide) rfl ?_
    have lp23 : ∀ (n : Nat) (k : Nat) (o8 : Option mV), n = 6 - k → k ≤ 6 → Wm l G K 5 9 (qI (fun z w' => z = mb (kall w (posF togT (rv w) (2 * p + 1) (2 * q + 1) B) i) ∧ w' = mup w 41 i (capI (wsum w (posF togT (rv w) (2 * p + 1) (2 * q + 1) B) (endB (rv w) (2 * p + 1) (2 * q + 1) B i) i 6)))) 23 [some (mvR 31), some (mvI (p : Int)), some (mvI (q : Int)), some (mvI i), some (mvJ (wsum w (posF togT (rv w) (2 * p + 1) (2 * q + 1) B) (endB (rv w) (2 * p + 1) (2 * q + 1) B i) i k)), none, some (mvI (mb (allb (kallK w (posF togT (rv w) (2 * p + 1) (2 * q + 1) B) i) k))), some (mvI (k : Int)), o8] [] w := by
      intro n
      induction n using Nat.strongRecOn with
      | _ n ih =>
      intro k o8 hn hk
      refine wm_iload hC  (pc := 23) dX9_counts_23 rfl ?_
      refine wm_bipush hC (pc := 25) dX9_counts_25 (by decide) ?_
      refine wm_icmp_ge hC 106 (pc := 27) dX9_counts_27 (by decide) (by omega) (by omega) (fun h27 => ?_) (fun h27 => ?_)
      · refine wm_aload_n hC 0 (pc := 106) dX9_counts_106 rfl rfl ?_
        refine wm_getR hC fl_X9_38_8 rfl rfl (pc := 107) dX9_counts_107 ?_
        refine wm_iload_n hC 3 (pc := 110) dX9_counts_110 rfl rfl ?_
        refine wm_lload hC  (pc := 111) dX9_counts_111 rfl ?_
        refine wm_ldc2 hC (1000000000000000) kJ_X9_167 (pc := 113) dX9_counts_113 ?_
        have hwr := wsum_rng hW hB hX hi (endB (rv w) (2 * p + 1) (2 * q + 1) B i) 6 (by omega)
        obtain rfl : k = 6 := by omega
        refine wm_lcmp hC (pc := 116) dX9_counts_116 (by omega) (by omega) ?_
        have hcm : (wsum w (posF togT (rv w) (2 * p + 1) (2 * q + 1) B) (endB (rv w) (2 * p + 1) (2 * q + 1) B i) i 6 ≤ 1000000000000000 → mcmp (wsum w (posF togT (rv w) (2 * p + 1) (2 * q + 1) B) (endB (rv w) (2 * p + 1) (2 * q + 1) B i) i 6) 1000000000000000 ≤ 0) ∧ (1000000000000000 < wsum w (posF togT (rv w) (2 * p + 1) (2 * q + 1) B) (endB (rv w) (2 * p + 1) (2 * q + 1) B i) i 6 → mcmp (wsum w (posF togT (rv w) (2 * p + 1) (2 * q + 1) B) (endB (rv w) (2 * p + 1) (2 * q + 1) B i) i 6) 1000000000000000 = 1) ∧ (-1 ≤ mcmp (wsum w (posF togT (rv w) (2 * p + 1) (2 * q + 1) B) (endB (rv w) (2 * p + 1) (2 * q + 1) B i) i 6) 1000000000000000 ∧ mcmp (wsum w (posF togT (rv w) (2 * p + 1) (2 * q + 1) B) (endB (rv w) (2 * p + 1) (2 * q + 1) B i) i 6) 1000000000000000 ≤ 1) := by
          unfold mcmp; (repeat' split) <;> omega
        refine wm_if_le hC 126 (pc := 117) dX9_counts_117 (by decide) (by omega) (fun h117 => ?_) (fun h117 => ?_)
        · have E3 : capI (wsum w (posF togT (rv w) (2 * p + 1) (2 * q + 1) B) (endB (rv w) (2 * p + 1) (2 * q + 1) B i) i 6) = wsum w (posF togT (rv w) (2 * p + 1) (2 * q + 1) B) (endB (rv w) (2 * p + 1) (2 * q + 1) B i) i 6 := by unfold capI CAP; rw [if_pos (by omega)]
          refine wm_lload hC  (pc := 126) dX9_counts_126 rfl ?_
          refine wm_lastore hC rfl (by omega) (by decide) (pc := 128) dX9_counts_128 ?_
          refine wm_iload hC  (pc := 129) dX9_counts_129 rfl ?_
          refine wm_zretI hC (pc := 131) dX9_counts_131 (mb_01 _) ?_
          exact ⟨rfl, by rw [E3]⟩
        · have E3 : capI (wsum w (posF togT (rv w) (2 * p + 1) (2 * q + 1) B) (endB (rv w) (2 * p + 1) (2 * q + 1) B i) i 6) = 1000000000000001 := by unfold capI CAP; split <;> omega
          refine wm_ldc2 hC (1000000000000001) kJ_X9_169 (pc := 120) dX9_counts_120 ?_
          refine wm_goto hC 128 (pc := 123) dX9_counts_123 (by decide) ?_
          refine wm_lastore hC rfl (by omega) (by decide) (pc := 128) dX9_counts_128 ?_
          refine wm_iload hC  (pc := 129) dX9_counts_129 rfl ?_
          refine wm_zretI hC (pc := 131) dX9_counts_131 (mb_01 _) ?_
          exact ⟨rfl, by rw [E3]⟩
      · refine wm_aload_n hC 0 (pc := 30) dX9_counts_30 rfl rfl ?_
        refine wm_iload_n hC 1 (pc := 31) dX9_counts_31 rfl rfl ?_
        refine wm_iload_n hC 2 (pc := 32) dX9_counts_32 rfl rfl ?_
        refine wm_iload_n hC 3 (pc := 33) dX9_counts_33 rfl rfl ?_
        refine wm_iload hC  (pc := 34) dX9_counts_34 rfl ?_
        refine wm_iconst hC (pc := 36) dX9_counts_36 ?_
        refine wm_pV hC cv_X9_137 kc_X9_follows rfl rfl (s_X9_follows hS hi (by omega) (tk := true)) rfl (by decide) rfl (Nat.le_of_ble_eq_true rfl) (pc := 37) dX9_counts_37 ?_
        rw [togX_t]
        have hc := hX i (k : Int) hi.1 hi.2 (by omega) (by omega)
        have hs1 : allb (kallK w (posF togT (rv w) (2 * p + 1) (2 * q + 1) B) i) (k + 1) = (allb (kallK w (posF togT (rv w) (2 * p + 1) (2 * q + 1) B) i) k && (decide ((posF togT (rv w) (2 * p + 1) (2 * q + 1) B) i (k : Int) < 0) || decide (w 42 ((posF togT (rv w) (2 * p + 1) (2 * q + 1) B) i (k : Int)) = 1))) := rfl
        have hs2 : wsum w (posF togT (rv w) (2 * p + 1) (2 * q + 1) B) (endB (rv w) (2 * p + 1) (2 * q + 1) B i) i (k + 1) = wsum w (posF togT (rv w) (2 * p + 1) (2 * q + 1) B) (endB (rv w) (2 * p + 1) (2 * q + 1) B i) i k + (if (posF togT (rv w) (2 * p + 1) (2 * q + 1) B) i (k : Int) < 0 then 0 else w 41 ((posF togT (rv w) (2 * p + 1) (2 * q + 1) B) i (k : Int))) := rfl
        have hwr := wsum_rng hW hB hX hi (endB (rv w) (2 * p + 1) (2 * q + 1) B i) k (by omega)
        refine wm_istore hC  (pc := 40) dX9_counts_40  (by decide) rfl ?_
        refine wm_iload hC  (pc := 42) dX9_counts_42 rfl ?_
        refine wm_ifb_eq hC 71 (pc := 44) dX9_counts_44 (by decide) (fun h44 => ?_) (fun h44 => ?_)
        · have E1 : mb (allb (kallK w (posF togT (rv w) (2 * p + 1) (2 * q + 1) B) i) (k + 1)) = 0 := by rw [hs1, h44]; rfl
          refine wm_iconst hC (pc := 71) dX9_counts_71 ?_
          refine wm_istore hC  (pc := 72) dX9_counts_72  (by decide) rfl ?_
          refine wm_lload hC  (pc := 74) dX9_counts_74 rfl ?_
          refine wm_iload hC  (pc := 76) dX9_counts_76 rfl ?_
          refine wm_if_ge hC 85 (pc := 78) dX9_counts_78 (by decide) (by omega) (fun h78 => ?_) (fun h78 => ?_)
          · have E2 : wsum w (posF togT (rv w) (2 * p + 1) (2 * q + 1) B) (endB (rv w) (2 * p + 1) (2 * q + 1) B i) i (k + 1) = wsum w (posF togT (rv w) (2 * p + 1) (2 * q + 1) B) (endB (rv w) (2 * p + 1) (2 * q + 1) B i) i k + w 41 (bS B ((nxF togT (rv w) (2 * p + 1) (2 * q + 1)) (bP B i) (k : Int))) := by rw [hs2, if_neg (show ¬ (posF togT (rv w) (2 * p + 1) (2 * q + 1) B) i (k : Int) < 0 by omega), show (posF togT (rv w) (2 * p + 1) (2 * q + 1) B) i (k : Int) = bS B ((nxF togT (rv w) (2 * p + 1) (2 * q + 1)) (bP B i) (k : Int)) by omega]
            refine wm_aload_n hC 0 (pc := 85) dX9_counts_85 rfl rfl ?_
            refine wm_getR hC fl_X9_38_8 rfl rfl (pc := 86) dX9_counts_86 ?_
            refine wm_aload_n hC 0 (pc := 89) dX9_counts_89 rfl rfl ?_
            refine wm_getR hC fl_X9_35_8 rfl rfl (pc := 90) dX9_counts_90 ?_
            refine wm_iload hC  (pc := 93) dX9_counts_93 rfl ?_
            refine wm_iaload hC rfl (by omega) (by decide) (pc := 95) dX9_counts_95 ?_
            rw [hA.2.2 _ (by omega) (by omega)]
            refine wm_laload hC rfl (by omega) (by decide) (pc := 96) dX9_counts_96 ?_
            refine wm_ladd hC (pc := 97) dX9_counts_97 ?_
            refine wm_lstore hC  (pc := 98) dX9_counts_98  (by decide) rfl ?_
            refine wm_iinc hC (pc := 100) dX9_counts_100 rfl rfl (by decide) rfl ?_
            refine wm_goto hC 23 (pc := 103) dX9_counts_103 (by decide) ?_
            have hh := ih _ (by omega) (k + 1) (some (mvI ((nxF togT (rv w) (2 * p + 1) (2 * q + 1)) (bP B i) (k : Int)))) rfl (by omega)
            rw [E1, E2] at hh
            exact hh
          · have E2 : wsum w (posF togT (rv w) (2 * p + 1) (2 * q + 1) B) (endB (rv w) (2 * p + 1) (2 * q + 1) B i) i (k + 1) = wsum w (posF togT (rv w) (2 * p + 1) (2 * q + 1) B) (endB (rv w) (2 * p + 1) (2 * q + 1) B i) i k + 0 := by rw [hs2, if_pos (show (posF togT (rv w) (2 * p + 1) (2 * q + 1) B) i (k : Int) < 0 by omega)]
            refine wm_lconst hC 0 (pc := 81) dX9_counts_81 rfl ?_
            refine wm_goto hC 97 (pc := 82) dX9_counts_82 (by decide) ?_
            refine wm_ladd hC (pc := 97) dX9_counts_97 ?_
            refine wm_lstore hC  (pc := 98) dX9_counts_98  (by decide) rfl ?_
            refine wm_iinc hC (pc := 100) dX9_counts_100 rfl rfl (by decide) rfl ?_
            refine wm_goto hC 23 (pc := 103) dX9_counts_103 (by decide) ?_
            have hh := ih _ (by omega) (k + 1) (some (mvI ((nxF togT (rv w) (2 * p + 1) (2 * q + 1)) (bP B i) (k : Int)))) rfl (by omega)
            rw [E1, E2] at hh
            exact hh
        · refine wm_iload hC  (pc := 47) dX9_counts_47 rfl ?_
          refine wm_if_lt hC 67 (pc := 49) dX9_counts_49 (by decide) (by omega) (fun h49 => ?_) (fun h49 => ?_)
          · have E1 : mb (allb (kallK w (posF togT (rv w) (2 * p + 1) (2 * q + 1) B) i) (k + 1)) = 1 := by rw [hs1, h44, decide_eq_true (show (posF togT (rv w) (2 * p + 1) (2 * q + 1) B) i (k : Int) < 0 by omega)]; rfl
            refine wm_iconst hC (pc := 67) dX9_counts_67 ?_
            refine wm_goto hC 72 (pc := 68) dX9_counts_68 (by decide) ?_
            refine wm_istore hC  (pc := 72) dX9_counts_72  (by decide) rfl ?_
            refine wm_lload hC  (pc := 74) dX9_counts_74 rfl ?_
            refine wm_iload hC  (pc := 76) dX9_counts_76 rfl ?_
            refine wm_if_ge hC 85 (pc := 78) dX9_counts_78 (by decide) (by omega) (fun h78 => ?_) (fun h78 => ?_)
            · have E2 : wsum w (posF togT (rv w) (2 * p + 1) (2 * q + 1) B) (endB (rv w) (2 * p + 1) (2 * q + 1) B i) i (k + 1) = wsum w (posF togT (rv w) (2 * p + 1) (2 * q + 1) B) (endB (rv w) (2 * p + 1) (2 * q + 1) B i) i k + w 41 (bS B ((nxF togT (rv w) (2 * p + 1) (2 * q + 1)) (bP B i) (k : Int))) := by rw [hs2, if_neg (show ¬ (posF togT (rv w) (2 * p + 1) (2 * q + 1) B) i (k : Int) < 0 by omega), show (posF togT (rv w) (2 * p + 1) (2 * q + 1) B) i (k : Int) = bS B ((nxF togT (rv w) (2 * p + 1) (2 * q + 1)) (bP B i) (k : Int)) by omega]
              refine wm_aload_n hC 0 (pc := 85) dX9_counts_85 rfl rfl ?_
              refine wm_getR hC fl_X9_38_8 rfl rfl (pc := 86) dX9_counts_86 ?_
              refine wm_aload_n hC 0 (pc := 89) dX9_counts_89 rfl rfl ?_
              refine wm_getR hC fl_X9_35_8 rfl rfl (pc := 90) dX9_counts_90 ?_
              refine wm_iload hC  (pc := 93) dX9_counts_93 rfl ?_
              refine wm_iaload hC rfl (by omega) (by decide) (pc := 95) dX9_counts_95 ?_
              rw [hA.2.2 _ (by omega) (by omega)]
              refine wm_laload hC rfl (by omega) (by decide) (pc := 96) dX9_counts_96 ?_
              refine wm_ladd hC (pc := 97) dX9_counts_97 ?_
              refine wm_lstore hC  (pc := 98) dX9_counts_98  (by decide) rfl ?_
              refine wm_iinc hC (pc := 100) dX9_counts_100 rfl rfl (by decide) rfl ?_
              refine wm_goto hC 23 (pc := 103) dX9_counts_103 (by decide) ?_
              have hh := ih _ (by omega) (k + 1) (some (mvI ((nxF togT (rv w) (2 * p + 1) (2 * q + 1)) (bP B i) (k : Int)))) rfl (by omega)
              rw [E1, E2] at hh
              exact hh
            · have E2 : wsum w (posF togT (rv w) (2 * p + 1) (2 * q + 1) B) (endB (rv w) (2 * p + 1) (2 * q + 1) B i) i (k + 1) = wsum w (posF togT (rv w) (2 * p + 1) (2 * q + 1) B) (endB (rv w) (2 * p + 1) (2 * q + 1) B i) i k + 0 := by rw [hs2, if_pos (show (posF togT (rv w) (2 * p + 1) (2 * q + 1) B) i (k : Int) < 0 by omega)]
              refine wm_lconst hC 0 (pc := 81) dX9_counts_81 rfl ?_
              refine wm_goto hC 97 (pc := 82) dX9_counts_82 (by decide) ?_
              refine wm_ladd hC (pc := 97) dX9_counts_97 ?_
              refine wm_lstore hC  (pc := 98) dX9_counts_98  (by decide) rfl ?_
              refine wm_iinc hC (pc := 100) dX9_counts_100 rfl rfl (by decide) rfl ?_
              refine wm_goto hC 23 (pc := 103) dX9_counts_103 (by decide) ?_
              have hh := ih _ (by omega) (k + 1) (some (mvI ((nxF togT (rv w) (2 * p + 1) (2 * q + 1)) (bP B i) (k : Int)))) rfl (by omega)
              rw [E1, E2] at hh
              exact hh
          · refine wm_aload_n hC 0 (pc := 52) dX9_counts_52 rfl rfl ?_
            refine wm_getR hC fl_X9_42_8 rfl rfl (pc := 53) dX9_counts_53 ?_
            refine wm_aload_n hC 0 (pc := 56) dX9_counts_56 rfl rfl ?_
            refine wm_getR hC fl_X9_35_8 rfl rfl (pc := 57) dX9_counts_57 ?_
            refine wm_iload hC  (pc := 60) dX9_counts_60 rfl ?_
            refine wm_iaload hC rfl (by omega) (by decide) (pc := 62) dX9_counts_62 ?_
            rw [hA.2.2 _ (by omega) (by omega)]
            have es : (posF togT (rv w) (2 * p + 1) (2 * q + 1) B) i (k : Int) = bS B ((nxF togT (rv w) (2 * p + 1) (2 * q + 1)) (bP B i) (k : Int)) := by omega
            have hKi := (hW (bS B ((nxF togT (rv w) (2 * p + 1) (2 * q + 1)) (bP B i) (k : Int))) (by omega) (by omega)).1
            refine wm_baload hC rfl (by omega) (by decide) (pc := 63) dX9_counts_63 ?_
            refine wm_if_eq hC 71 (pc := 64) dX9_counts_64 (by decide) (by omega) (fun h64 => ?_) (fun h64 => ?_)
            · have E1 : mb (allb (kallK w (posF togT (rv w) (2 * p + 1) (2 * q + 1) B) i) (k + 1)) = 0 := by rw [hs1, h44, decide_eq_false (show ¬ (posF togT (rv w) (2 * p + 1) (2 * q + 1) B) i (k : Int) < 0 by omega), es, decide_eq_false (show ¬ w 42 (bS B ((nxF togT (rv w) (2 * p + 1) (2 * q + 1)) (bP B i) (k : Int))) = 1 by omega)]; rfl
              refine wm_iconst hC (pc := 71) dX9_counts_71 ?_
              refine wm_istore hC  (pc := 72) dX9_counts_72  (by decide) rfl ?_
              refine wm_lload hC  (pc := 74) dX9_counts_74 rfl ?_
              refine wm_iload hC  (pc := 76) dX9_counts_76 rfl ?_
              refine wm_if_ge hC 85 (pc := 78) dX9_counts_78 (by decide) (by omega) (fun h78 => ?_) (fun h78 => ?_)
              · have E2 : wsum w (posF togT (rv w) (2 * p + 1) (2 * q + 1) B) (endB (rv w) (2 * p + 1) (2 * q + 1) B i) i (k + 1) = wsum w (posF togT (rv w) (2 * p + 1) (2 * q + 1) B) (endB (rv w) (2 * p + 1) (2 * q + 1) B i) i k + w 41 (bS B ((nxF togT (rv w) (2 * p + 1) (2 * q + 1)) (bP B i) (k : Int))) := by rw [hs2, if_neg (show ¬ (posF togT (rv w) (2 * p + 1) (2 * q + 1) B) i (k : Int) < 0 by omega), show (posF togT (rv w) (2 * p + 1) (2 * q + 1) B) i (k : Int) = bS B ((nxF togT (rv w) (2 * p + 1) (2 * q + 1)) (bP B i) (k : Int)) by omega]
                refine wm_aload_n hC 0 (pc := 85) dX9_counts_85 rfl rfl ?_
                refine wm_getR hC fl_X9_38_8 rfl rfl (pc := 86) dX9_counts_86 ?_
                refine wm_aload_n hC 0 (pc := 89) dX9_counts_89 rfl rfl ?_
                refine wm_getR hC fl_X9_35_8 rfl rfl (pc := 90) dX9_counts_90 ?_
                refine wm_iload hC  (pc := 93) dX9_counts_93 rfl ?_
                refine wm_iaload hC rfl (by omega) (by decide) (pc := 95) dX9_counts_95 ?_
                rw [hA.2.2 _ (by omega) (by omega)]
                refine wm_laload hC rfl (by omega) (by decide) (pc := 96) dX9_counts_96 ?_
                refine wm_ladd hC (pc := 97) dX9_counts_97 ?_
                refine wm_lstore hC  (pc := 98) dX9_counts_98  (by decide) rfl ?_
                refine wm_iinc hC (pc := 100) dX9_counts_100 rfl rfl (by decide) rfl ?_
                refine wm_goto hC 23 (pc := 103) dX9_counts_103 (by decide) ?_
                have hh := ih _ (by omega) (k + 1) (some (mvI ((nxF togT (rv w) (2 * p + 1) (2 * q + 1)) (bP B i) (k : Int)))) rfl (by omega)
                rw [E1, E2] at hh
                exact hh
              · have E2 : wsum w (posF togT (rv w) (2 * p + 1) (2 * q + 1) B) (endB (rv w) (2 * p + 1) (2 * q + 1) B i) i (k + 1) = wsum w (posF togT (rv w) (2 * p + 1) (2 * q + 1) B) (endB (rv w) (2 * p + 1) (2 * q + 1) B i) i k + 0 := by rw [hs2, if_pos (show (posF togT (rv w) (2 * p + 1) (2 * q + 1) B) i (k : Int) < 0 by omega)]
                refine wm_lconst hC 0 (pc := 81) dX9_counts_81 rfl ?_
                refine wm_goto hC 97 (pc := 82) dX9_counts_82 (by decide) ?_
                refine wm_ladd hC (pc := 97) dX9_counts_97 ?_
                refine wm_lstore hC  (pc := 98) dX9_counts_98  (by decide) rfl ?_
                refine wm_iinc hC (pc := 100) dX9_counts_100 rfl rfl (by decide) rfl ?_
                refine wm_goto hC 23 (pc := 103) dX9_counts_103 (by decide) ?_
                have hh := ih _ (by omega) (k + 1) (some (mvI ((nxF togT (rv w) (2 * p + 1) (2 * q + 1)) (bP B i) (k : Int)))) rfl (by omega)
                rw [E1, E2] at hh
                exact hh
            · have E1 : mb (allb (kallK w (posF togT (rv w) (2 * p + 1) (2 * q + 1) B) i) (k + 1)) = 1 := by rw [hs1, h44, decide_eq_false (show ¬ (posF togT (rv w) (2 * p + 1) (2 * q + 1) B) i (k : Int) < 0 by omega), es, decide_eq_true (show w 42 (bS B ((nxF togT (rv w) (2 * p + 1) (2 * q + 1)) (bP B i) (k : Int))) = 1 by omega)]; rfl
              refine wm_iconst hC (pc := 67) dX9_counts_67 ?_
              refine wm_goto hC 72 (pc := 68) dX9_counts_68 (by decide) ?_
              refine wm_istore hC  (pc := 72) dX9_counts_72  (by decide) rfl ?_
              refine wm_lload hC  (pc := 74) dX9_counts_74 rfl ?_
              refine wm_iload hC  (pc := 76) dX9_counts_76 rfl ?_
              refine wm_if_ge hC 85 (pc := 78) dX9_counts_78 (by decide) (by omega) (fun h78 => ?_) (fun h78 => ?_)
              · have E2 : wsum w (posF togT (rv w) (2 * p + 1) (2 * q + 1) B) (endB (rv w) (2 * p + 1) (2 * q + 1) B i) i (k + 1) = wsum w (posF togT (rv w) (2 * p + 1) (2 * q + 1) B) (endB (rv w) (2 * p + 1) (2 * q + 1) B i) i k + w 41 (bS B ((nxF togT (rv w) (2 * p + 1) (2 * q + 1)) (bP B i) (k : Int))) := by rw [hs2, if_neg (show ¬ (posF togT (rv w) (2 * p + 1) (2 * q + 1) B) i (k : Int) < 0 by omega), show (posF togT (rv w) (2 * p + 1) (2 * q + 1) B) i (k : Int) = bS B ((nxF togT (rv w) (2 * p + 1) (2 * q + 1)) (bP B i) (k : Int)) by omega]
                refine wm_aload_n hC 0 (pc := 85) dX9_counts_85 rfl rfl ?_
                refine wm_getR hC fl_X9_38_8 rfl rfl (pc := 86) dX9_counts_86 ?_
                refine wm_aload_n hC 0 (pc := 89) dX9_counts_89 rfl rfl ?_
                refine wm_getR hC fl_X9_35_8 rfl rfl (pc := 90) dX9_counts_90 ?_
                refine wm_iload hC  (pc := 93) dX9_counts_93 rfl ?_
                refine wm_iaload hC rfl (by omega) (by decide) (pc := 95) dX9_counts_95 ?_
                rw [hA.2.2 _ (by omega) (by omega)]
                refine wm_laload hC rfl (by omega) (by decide) (pc := 96) dX9_counts_96 ?_
                refine wm_ladd hC (pc := 97) dX9_counts_97 ?_
                refine wm_lstore hC  (pc := 98) dX9_counts_98  (by decide) rfl ?_
                refine wm_iinc hC (pc := 100) dX9_counts_100 rfl rfl (by decide) rfl ?_
                refine wm_goto hC 23 (pc := 103) dX9_counts_103 (by decide) ?_
                have hh := ih _ (by omega) (k + 1) (some (mvI ((nxF togT (rv w) (2 * p + 1) (2 * q + 1)) (bP B i) (k : Int)))) rfl (by omega)
                rw [E1, E2] at hh
                exact hh
              · have E2 : wsum w (posF togT (rv w) (2 * p + 1) (2 * q + 1) B) (endB (rv w) (2 * p + 1) (2 * q + 1) B i) i (k + 1) = wsum w (posF togT (rv w) (2 * p + 1) (2 * q + 1) B) (endB (rv w) (2 * p + 1) (2 * q + 1) B i) i k + 0 := by rw [hs2, if_pos (show (posF togT (rv w) (2 * p + 1) (2 * q + 1) B) i (k : Int) < 0 by omega)]
                refine wm_lconst hC 0 (pc := 81) dX9_counts_81 rfl ?_
                refine wm_goto hC 97 (pc := 82) dX9_counts_82 (by decide) ?_
                refine wm_ladd hC (pc := 97) dX9_counts_97 ?_
                refine wm_lstore hC  (pc := 98) dX9_counts_98  (by decide) rfl ?_
                refine wm_iinc hC (pc := 100) dX9_counts_100 rfl rfl (by decide) rfl ?_
                refine wm_goto hC 23 (pc := 103) dX9_counts_103 (by decide) ?_
                have hh := ih _ (by omega) (k + 1) (some (mvI ((nxF togT (rv w) (2 * p + 1) (2 * q + 1)) (bP B i) (k : Int)))) rfl (by omega)
                rw [E1, E2] at hh
                exact hh
    have hh := lp23 _ 0 none rfl (by omega)
    rw [hE0] at hh
    exact hh
/-- what is known so far: rows of the known ones, no more known than must be -/
def WInv (w u : mW) (sx : Int → Int → Int) (en : Int → Bool) (n : Int) : Prop := (∀ a : Nat, a ≠ 41 → a ≠ 42 → u a = w a) ∧ WOK u n ∧ (∀ i : Int, 0 ≤ i → i < n → u 42 i = 1 → (∀ k : Nat, k < 6 → sx i (k : Int) < 0 ∨ u 42 (sx i (k : Int)) = 1) ∧ u 41 i = capI (wsum u sx (en i) i 6)) ∧ ∀ S : Int → Prop, (∀ i : Int, 0 ≤ i → i < n → (∀ k : Nat, k < 6 → sx i (k : Int) < 0 ∨ S (sx i (k : Int))) → S i) → ∀ i : Int, 0 ≤ i → i < n → u 42 i = 1 → S i
theorem wsum_congr {u v : mW} {sx : Int → Int → Int} {en : Bool} {i : Int} : ∀ n : Nat, (∀ k : Nat, k < n → sx i (k : Int) < 0 ∨ v 41 (sx i (k : Int)) = u 41 (sx i (k : Int))) → wsum v sx en i n = wsum u sx en i n
  | 0, _ => rfl
  | n + 1, h => by
    unfold wsum
    rw [wsum_congr n (fun k hk => h k (by omega))]
    rcases h n (by omega) with q | q
    · rw [if_pos q, if_pos q]
    · rw [q]
theorem WInv.way {w u : mW} {sx : Int → Int → Int} {en : Int → Bool} {n : Int} (h : WInv w u sx en n) {i v : Int} (hu : ¬ u 42 i = 1) (hv : 0 ≤ v ∧ v ≤ 1000000000000001) : WInv w (mup u 41 i v) sx en n := by
  obtain ⟨h1, h2, h3, h4⟩ := h
  have e42 : mup u 41 i v 42 = u 42 := mup_ne (by decide)
  refine ⟨fun a ha hb => by rw [mup_ne ha]; exact h1 a ha hb, fun j j0 j1 => ?_, fun j j0 j1 hj => ?_, fun S hS j j0 j1 hj => h4 S hS j j0 j1 (by rw [e42] at hj; exact hj)⟩
  · rw [e42, mup_get]
    have := h2 j j0 j1
    refine ⟨this.1, ?_⟩
    split
    · exact hv
    · exact this.2
  · rw [e42] at hj ⊢
    have hk := h3 j j0 j1 hj
    have hne : ¬ j = i := fun e => hu (e ▸ hj)
    refine ⟨hk.1, ?_⟩
    rw [mup_get, if_neg (fun q => hne q.2), hk.2]
    congr 1
    refine (wsum_congr 6 (fun k hk6 => ?_)).symm
    rcases hk.1 k hk6 with q | q
    · exact Or.inl q
    · refine Or.inr ?_
      have hsi : ¬ sx j (k : Int) = i := fun x => hu (by rw [← x]; exact q)
      rw [mup_get, if_neg (fun x => hsi x.2)]
theorem WInv.known {w u : mW} {sx : Int → Int → Int} {en : Int → Bool} {n : Int} (h : WInv w u sx en n) {i : Int} (hsn : ∀ i k : Int, 0 ≤ i → i < n → 0 ≤ k → k < 6 → sx i k < n) (hi : 0 ≤ i ∧ i < n) (hu : ¬ u 42 i = 1) (hk : ∀ k : Nat, k < 6 → sx i (k : Int) < 0 ∨ u 42 (sx i (k : Int)) = 1) (hw : u 41 i = capI (wsum u sx (en i) i 6)) : WInv w (mup u 42 i 1) sx en n := by
  obtain ⟨h1, h2, h3, h4⟩ := h
  have e41 : mup u 42 i 1 41 = u 41 := mup_ne (by decide)
  have hc : ∀ (b : Bool) (j : Int), wsum (mup u 42 i 1) sx b j 6 = wsum u sx b j 6 := fun b j => wsum_congr 6 (fun k _ => Or.inr (by rw [e41]))
  have hg : ∀ t : Int, u 42 t = 1 → mup u 42 i 1 42 t = 1 := fun t ht => by
    rw [mup_get]; split
    · rfl
    · exact ht
  refine ⟨fun a ha hb => by rw [mup_ne hb]; exact h1 a ha hb, fun j j0 j1 => ?_, fun j j0 j1 hj => ?_, fun S hS j j0 j1 hj => ?_⟩
  · rw [e41, mup_get]
    have := h2 j j0 j1
    refine ⟨?_, this.2⟩
    split
    · exact Or.inr rfl
    · exact this.1
  · rw [e41, hc]
    by_cases e : j = i
    · rw [e]
      exact ⟨fun k k6 => (hk k k6).imp id (hg _), hw⟩
    · rw [mup_get, if_neg (fun q => e q.2)] at hj
      have := h3 j j0 j1 hj
      exact ⟨fun k k6 => (this.1 k k6).imp id (hg _), this.2⟩
  · by_cases e : j = i
    · rw [e]
      refine hS i hi.1 hi.2 (fun k k6 => ?_)
      rcases hk k k6 with q | q
      · exact Or.inl q
      · by_cases q0 : sx i (k : Int) < 0
        · exact Or.inl q0
        · exact Or.inr (h4 S hS _ (by omega) (hsn i (k : Int) hi.1 hi.2 (by omega) (by omega)) q)
    · rw [mup_get, if_neg (fun q => e q.2)] at hj
      exact h4 S hS j j0 j1 hj
